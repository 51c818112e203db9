/-! the class's own methods: what holds at each call -/
def CI (b u v K : Int) (F : Hp) : Prop := F 0 3 = u ∧ F 3 2 = v ∧ StA b u K F ∧ K ≤ 1000000 ∧ (0 ≤ F 1 1 ∧ F 1 1 ≤ 900) ∧ (∀ i : Int, 0 ≤ i → i < F 1 1 → -128 ≤ F 2 i ∧ F 2 i ≤ 127) ∧ (F 88 0 = 0 ∨ F 88 0 = 1) ∧ (F 112 0 = 0 ∨ F 112 0 = 1) ∧ (F 88 0 = 1 → StA 88 u K F) ∧ (F 112 0 = 1 → StA 112 u K F)
set_option maxRecDepth 100000 in
set_option maxHeartbeats 4000000 in
theorem c_parent {V : VX} {T : Shp} {F : Hp} {b u v K : Int} (hbq : b = 40) (hu : isSu u) (h : CI b u v K F) {n : Int} (h1 : I32 n)  : Ct V yX11_parent cX11_parent 2 (some .int) 1 21 0 0 (SH T) [vr V 0, vi n] F (SH T) 1 (fun r F' => r = (if 0 ≤ n ∧ n < F u 0 then F (u + 2) n else -1) ∧ F' = F) := by
  refine Ct.of [some (vr V 0), some (vi n)] (by decide) (by simp [lg_sl, vi_cat, vl_cat, vr_cat]) rfl (by simp [asc, lv_args, vi_cat, vl_cat, vr_cat]) (fun X hV hX => ?_)
  subst hV
  have hb : isSt b := Or.inl hbq
  obtain ⟨hs, hd, hS, hK, hL, hB, hk1, hk2, hS1, hS2⟩ := id h
  obtain ⟨hU, hA, hQ, hLo, hBd⟩ := id hS
  have hN := hU.1
  have hCC := hU.2.2.2.2.1
  refine R_aload_0 hX dX11_parent_0 ?_
  refine R_getoE (v := u) hX dX11_parent_1 fl_X11_33 o_0 rfl hs ?_
  refine R_iload_1 hX dX11_parent_4 ?_
  refine R_v1i hX dX11_parent_5 li_X11_85 mk_X7_hasNode mi_X7_hasNode rfl (to_0 hu) (c_hasNode hu hN h1) ⟨⟨by decide, by decide⟩, by decide, by decide, rfl, Nat.le_of_ble_eq_true rfl, rfl⟩ (fun x_5 F_5 h_5 => ?_)
  obtain ⟨h_5, e_5⟩ := h_5; replace e_5 := e_5.symm; subst e_5
  refine R_ifeq (tgt := 23) hX dX11_parent_8 (by decide) ⟨by omega, by omega⟩ (fun c_8 => ?_) (fun c_8 => ?_)
  · skip
    refine R_iconst hX dX11_parent_23 ?_
    exact R_iret hX dX11_parent_24 ⟨by first | rw [if_pos (by omega)] | rw [if_neg (by omega)], rfl⟩
  · skip
    refine R_aload_0 hX dX11_parent_11 ?_
    refine R_getoE (v := u) hX dX11_parent_12 fl_X11_33 o_0 rfl hs ?_
    refine R_getq (v := u + 2) hX dX11_parent_15 fl_X11_97 (to_0 hu) rfl (by omega) ?_
    refine R_iload_1 hX dX11_parent_18 ?_
    refine R_iald hX dX11_parent_19 (ta_2 hu) ⟨by omega, by omega⟩ ?_
    refine R_goto (tgt := 24) hX dX11_parent_20 (by decide) ?_
    exact R_iret hX dX11_parent_24 ⟨by first | rw [if_pos (by omega)] | rw [if_neg (by omega)], rfl⟩
set_option maxRecDepth 100000 in
set_option maxHeartbeats 4000000 in
theorem c_depth {V : VX} {T : Shp} {F : Hp} {b u v K : Int} (hbq : b = 40) (hu : isSu u) (h : CI b u v K F) {n : Int} (h1 : I32 n)  : Ct V yX11_depth cX11_depth 2 (some .int) 1 21 0 0 (SH T) [vr V 0, vi n] F (SH T) 1 (fun r F' => r = (if 0 ≤ n ∧ n < F u 0 then F (u + 3) n else -1) ∧ F' = F) := by
  refine Ct.of [some (vr V 0), some (vi n)] (by decide) (by simp [lg_sl, vi_cat, vl_cat, vr_cat]) rfl (by simp [asc, lv_args, vi_cat, vl_cat, vr_cat]) (fun X hV hX => ?_)
  subst hV
  have hb : isSt b := Or.inl hbq
  obtain ⟨hs, hd, hS, hK, hL, hB, hk1, hk2, hS1, hS2⟩ := id h
  obtain ⟨hU, hA, hQ, hLo, hBd⟩ := id hS
  have hN := hU.1
  have hCC := hU.2.2.2.2.1
  refine R_aload_0 hX dX11_depth_0 ?_
  refine R_getoE (v := u) hX dX11_depth_1 fl_X11_33 o_0 rfl hs ?_
  refine R_iload_1 hX dX11_depth_4 ?_
  refine R_v1i hX dX11_depth_5 li_X11_85 mk_X7_hasNode mi_X7_hasNode rfl (to_0 hu) (c_hasNode hu hN h1) ⟨⟨by decide, by decide⟩, by decide, by decide, rfl, Nat.le_of_ble_eq_true rfl, rfl⟩ (fun x_5 F_5 h_5 => ?_)
  obtain ⟨h_5, e_5⟩ := h_5; replace e_5 := e_5.symm; subst e_5
  refine R_ifeq (tgt := 23) hX dX11_depth_8 (by decide) ⟨by omega, by omega⟩ (fun c_8 => ?_) (fun c_8 => ?_)
  · skip
    refine R_iconst hX dX11_depth_23 ?_
    exact R_iret hX dX11_depth_24 ⟨by first | rw [if_pos (by omega)] | rw [if_neg (by omega)], rfl⟩
  · skip
    refine R_aload_0 hX dX11_depth_11 ?_
    refine R_getoE (v := u) hX dX11_depth_12 fl_X11_33 o_0 rfl hs ?_
    refine R_getq (v := u + 3) hX dX11_depth_15 fl_X11_108 (to_0 hu) rfl (by omega) ?_
    refine R_iload_1 hX dX11_depth_18 ?_
    refine R_iald hX dX11_depth_19 (ta_3 hu) ⟨by omega, by omega⟩ ?_
    refine R_goto (tgt := 24) hX dX11_depth_20 (by decide) ?_
    exact R_iret hX dX11_depth_24 ⟨by first | rw [if_pos (by omega)] | rw [if_neg (by omega)], rfl⟩
set_option maxRecDepth 100000 in
set_option maxHeartbeats 4000000 in
theorem c_rate {V : VX} {T : Shp} {F : Hp} {b u v K : Int} (hbq : b = 40) (hu : isSu u) (h : CI b u v K F) {n : Int} (h1 : I32 n)  : Ct V yX11_rate cX11_rate 2 (some .int) 1 21 0 0 (SH T) [vr V 0, vi n] F (SH T) 1 (fun r F' => r = (if 0 ≤ n ∧ n < F u 0 then F (b + 1) n else -1) ∧ F' = F) := by
  refine Ct.of [some (vr V 0), some (vi n)] (by decide) (by simp [lg_sl, vi_cat, vl_cat, vr_cat]) rfl (by simp [asc, lv_args, vi_cat, vl_cat, vr_cat]) (fun X hV hX => ?_)
  subst hV
  have hb : isSt b := Or.inl hbq
  obtain ⟨hs, hd, hS, hK, hL, hB, hk1, hk2, hS1, hS2⟩ := id h
  obtain ⟨hU, hA, hQ, hLo, hBd⟩ := id hS
  have hN := hU.1
  have hCC := hU.2.2.2.2.1
  refine R_aload_0 hX dX11_rate_0 ?_
  refine R_getoE (v := u) hX dX11_rate_1 fl_X11_33 o_0 rfl hs ?_
  refine R_iload_1 hX dX11_rate_4 ?_
  refine R_v1i hX dX11_rate_5 li_X11_85 mk_X7_hasNode mi_X7_hasNode rfl (to_0 hu) (c_hasNode hu hN h1) ⟨⟨by decide, by decide⟩, by decide, by decide, rfl, Nat.le_of_ble_eq_true rfl, rfl⟩ (fun x_5 F_5 h_5 => ?_)
  obtain ⟨h_5, e_5⟩ := h_5; replace e_5 := e_5.symm; subst e_5
  refine R_ifeq (tgt := 23) hX dX11_rate_8 (by decide) ⟨by omega, by omega⟩ (fun c_8 => ?_) (fun c_8 => ?_)
  · skip
    refine R_iconst hX dX11_rate_23 ?_
    exact R_iret hX dX11_rate_24 ⟨by first | rw [if_pos (by omega)] | rw [if_neg (by omega)], rfl⟩
  · skip
    refine R_aload_0 hX dX11_rate_11 ?_
    refine R_getq (v := b) hX dX11_rate_12 fl_X11_40 o_0 hbq.symm (by omega) ?_
    refine R_getq (v := b + 1) hX dX11_rate_15 fl_X11_111 (so_0 hb) rfl (by omega) ?_
    refine R_iload_1 hX dX11_rate_18 ?_
    refine R_iald hX dX11_rate_19 (sa_1 hb) ⟨by omega, by omega⟩ ?_
    refine R_goto (tgt := 24) hX dX11_rate_20 (by decide) ?_
    exact R_iret hX dX11_rate_24 ⟨by first | rw [if_pos (by omega)] | rw [if_neg (by omega)], rfl⟩
set_option maxRecDepth 100000 in
set_option maxHeartbeats 4000000 in
theorem c_ceiling {V : VX} {T : Shp} {F : Hp} {b u v K : Int} (hbq : b = 40) (hu : isSu u) (h : CI b u v K F) {n : Int} (h1 : I32 n)  : Ct V yX11_ceiling cX11_ceiling 2 (some .int) 1 21 0 0 (SH T) [vr V 0, vi n] F (SH T) 1 (fun r F' => r = (if 0 ≤ n ∧ n < F u 0 then F (b + 2) n else -1) ∧ F' = F) := by
  refine Ct.of [some (vr V 0), some (vi n)] (by decide) (by simp [lg_sl, vi_cat, vl_cat, vr_cat]) rfl (by simp [asc, lv_args, vi_cat, vl_cat, vr_cat]) (fun X hV hX => ?_)
  subst hV
  have hb : isSt b := Or.inl hbq
  obtain ⟨hs, hd, hS, hK, hL, hB, hk1, hk2, hS1, hS2⟩ := id h
  obtain ⟨hU, hA, hQ, hLo, hBd⟩ := id hS
  have hN := hU.1
  have hCC := hU.2.2.2.2.1
  refine R_aload_0 hX dX11_ceiling_0 ?_
  refine R_getoE (v := u) hX dX11_ceiling_1 fl_X11_33 o_0 rfl hs ?_
  refine R_iload_1 hX dX11_ceiling_4 ?_
  refine R_v1i hX dX11_ceiling_5 li_X11_85 mk_X7_hasNode mi_X7_hasNode rfl (to_0 hu) (c_hasNode hu hN h1) ⟨⟨by decide, by decide⟩, by decide, by decide, rfl, Nat.le_of_ble_eq_true rfl, rfl⟩ (fun x_5 F_5 h_5 => ?_)
  obtain ⟨h_5, e_5⟩ := h_5; replace e_5 := e_5.symm; subst e_5
  refine R_ifeq (tgt := 23) hX dX11_ceiling_8 (by decide) ⟨by omega, by omega⟩ (fun c_8 => ?_) (fun c_8 => ?_)
  · skip
    refine R_iconst hX dX11_ceiling_23 ?_
    exact R_iret hX dX11_ceiling_24 ⟨by first | rw [if_pos (by omega)] | rw [if_neg (by omega)], rfl⟩
  · skip
    refine R_aload_0 hX dX11_ceiling_11 ?_
    refine R_getq (v := b) hX dX11_ceiling_12 fl_X11_40 o_0 hbq.symm (by omega) ?_
    refine R_getq (v := b + 2) hX dX11_ceiling_15 fl_X11_114 (so_0 hb) rfl (by omega) ?_
    refine R_iload_1 hX dX11_ceiling_18 ?_
    refine R_iald hX dX11_ceiling_19 (sa_2 hb) ⟨by omega, by omega⟩ ?_
    refine R_goto (tgt := 24) hX dX11_ceiling_20 (by decide) ?_
    exact R_iret hX dX11_ceiling_24 ⟨by first | rw [if_pos (by omega)] | rw [if_neg (by omega)], rfl⟩
set_option maxRecDepth 100000 in
set_option maxHeartbeats 4000000 in
theorem c_burst {V : VX} {T : Shp} {F : Hp} {b u v K : Int} (hbq : b = 40) (hu : isSu u) (h : CI b u v K F) {n : Int} (h1 : I32 n)  : Ct V yX11_burst cX11_burst 2 (some .int) 1 21 0 0 (SH T) [vr V 0, vi n] F (SH T) 1 (fun r F' => r = (if 0 ≤ n ∧ n < F u 0 then F (u + 7) n else -1) ∧ F' = F) := by
  refine Ct.of [some (vr V 0), some (vi n)] (by decide) (by simp [lg_sl, vi_cat, vl_cat, vr_cat]) rfl (by simp [asc, lv_args, vi_cat, vl_cat, vr_cat]) (fun X hV hX => ?_)
  subst hV
  have hb : isSt b := Or.inl hbq
  obtain ⟨hs, hd, hS, hK, hL, hB, hk1, hk2, hS1, hS2⟩ := id h
  obtain ⟨hU, hA, hQ, hLo, hBd⟩ := id hS
  have hN := hU.1
  have hCC := hU.2.2.2.2.1
  refine R_aload_0 hX dX11_burst_0 ?_
  refine R_getoE (v := u) hX dX11_burst_1 fl_X11_33 o_0 rfl hs ?_
  refine R_iload_1 hX dX11_burst_4 ?_
  refine R_v1i hX dX11_burst_5 li_X11_85 mk_X7_hasNode mi_X7_hasNode rfl (to_0 hu) (c_hasNode hu hN h1) ⟨⟨by decide, by decide⟩, by decide, by decide, rfl, Nat.le_of_ble_eq_true rfl, rfl⟩ (fun x_5 F_5 h_5 => ?_)
  obtain ⟨h_5, e_5⟩ := h_5; replace e_5 := e_5.symm; subst e_5
  refine R_ifeq (tgt := 23) hX dX11_burst_8 (by decide) ⟨by omega, by omega⟩ (fun c_8 => ?_) (fun c_8 => ?_)
  · skip
    refine R_iconst hX dX11_burst_23 ?_
    exact R_iret hX dX11_burst_24 ⟨by first | rw [if_pos (by omega)] | rw [if_neg (by omega)], rfl⟩
  · skip
    refine R_aload_0 hX dX11_burst_11 ?_
    refine R_getoE (v := u) hX dX11_burst_12 fl_X11_33 o_0 rfl hs ?_
    refine R_getq (v := u + 7) hX dX11_burst_15 fl_X11_117 (to_0 hu) rfl (by omega) ?_
    refine R_iload_1 hX dX11_burst_18 ?_
    refine R_iald hX dX11_burst_19 (ta_7 hu) ⟨by omega, by omega⟩ ?_
    refine R_goto (tgt := 24) hX dX11_burst_20 (by decide) ?_
    exact R_iret hX dX11_burst_24 ⟨by first | rw [if_pos (by omega)] | rw [if_neg (by omega)], rfl⟩
set_option maxRecDepth 100000 in
set_option maxHeartbeats 4000000 in
theorem c_creditLimit {V : VX} {T : Shp} {F : Hp} {b u v K : Int} (hbq : b = 40) (hu : isSu u) (h : CI b u v K F) {n : Int} (h1 : I32 n)  : Ct V yX11_creditLimit cX11_creditLimit 2 (some .int) 1 21 0 0 (SH T) [vr V 0, vi n] F (SH T) 1 (fun r F' => r = (if 0 ≤ n ∧ n < F u 0 then F (u + 8) n else -1) ∧ F' = F) := by
  refine Ct.of [some (vr V 0), some (vi n)] (by decide) (by simp [lg_sl, vi_cat, vl_cat, vr_cat]) rfl (by simp [asc, lv_args, vi_cat, vl_cat, vr_cat]) (fun X hV hX => ?_)
  subst hV
  have hb : isSt b := Or.inl hbq
  obtain ⟨hs, hd, hS, hK, hL, hB, hk1, hk2, hS1, hS2⟩ := id h
  obtain ⟨hU, hA, hQ, hLo, hBd⟩ := id hS
  have hN := hU.1
  have hCC := hU.2.2.2.2.1
  refine R_aload_0 hX dX11_creditLimit_0 ?_
  refine R_getoE (v := u) hX dX11_creditLimit_1 fl_X11_33 o_0 rfl hs ?_
  refine R_iload_1 hX dX11_creditLimit_4 ?_
  refine R_v1i hX dX11_creditLimit_5 li_X11_85 mk_X7_hasNode mi_X7_hasNode rfl (to_0 hu) (c_hasNode hu hN h1) ⟨⟨by decide, by decide⟩, by decide, by decide, rfl, Nat.le_of_ble_eq_true rfl, rfl⟩ (fun x_5 F_5 h_5 => ?_)
  obtain ⟨h_5, e_5⟩ := h_5; replace e_5 := e_5.symm; subst e_5
  refine R_ifeq (tgt := 23) hX dX11_creditLimit_8 (by decide) ⟨by omega, by omega⟩ (fun c_8 => ?_) (fun c_8 => ?_)
  · skip
    refine R_iconst hX dX11_creditLimit_23 ?_
    exact R_iret hX dX11_creditLimit_24 ⟨by first | rw [if_pos (by omega)] | rw [if_neg (by omega)], rfl⟩
  · skip
    refine R_aload_0 hX dX11_creditLimit_11 ?_
    refine R_getoE (v := u) hX dX11_creditLimit_12 fl_X11_33 o_0 rfl hs ?_
    refine R_getq (v := u + 8) hX dX11_creditLimit_15 fl_X11_120 (to_0 hu) rfl (by omega) ?_
    refine R_iload_1 hX dX11_creditLimit_18 ?_
    refine R_iald hX dX11_creditLimit_19 (ta_8 hu) ⟨by omega, by omega⟩ ?_
    refine R_goto (tgt := 24) hX dX11_creditLimit_20 (by decide) ?_
    exact R_iret hX dX11_creditLimit_24 ⟨by first | rw [if_pos (by omega)] | rw [if_neg (by omega)], rfl⟩
set_option maxRecDepth 100000 in
set_option maxHeartbeats 4000000 in
theorem c_weight {V : VX} {T : Shp} {F : Hp} {b u v K : Int} (hbq : b = 40) (hu : isSu u) (h : CI b u v K F) {n : Int} (h1 : I32 n)  : Ct V yX11_weight cX11_weight 2 (some .int) 1 21 0 0 (SH T) [vr V 0, vi n] F (SH T) 1 (fun r F' => r = (if 0 ≤ n ∧ n < F u 0 then F (b + 3) n else -1) ∧ F' = F) := by
  refine Ct.of [some (vr V 0), some (vi n)] (by decide) (by simp [lg_sl, vi_cat, vl_cat, vr_cat]) rfl (by simp [asc, lv_args, vi_cat, vl_cat, vr_cat]) (fun X hV hX => ?_)
  subst hV
  have hb : isSt b := Or.inl hbq
  obtain ⟨hs, hd, hS, hK, hL, hB, hk1, hk2, hS1, hS2⟩ := id h
  obtain ⟨hU, hA, hQ, hLo, hBd⟩ := id hS
  have hN := hU.1
  have hCC := hU.2.2.2.2.1
  refine R_aload_0 hX dX11_weight_0 ?_
  refine R_getoE (v := u) hX dX11_weight_1 fl_X11_33 o_0 rfl hs ?_
  refine R_iload_1 hX dX11_weight_4 ?_
  refine R_v1i hX dX11_weight_5 li_X11_85 mk_X7_hasNode mi_X7_hasNode rfl (to_0 hu) (c_hasNode hu hN h1) ⟨⟨by decide, by decide⟩, by decide, by decide, rfl, Nat.le_of_ble_eq_true rfl, rfl⟩ (fun x_5 F_5 h_5 => ?_)
  obtain ⟨h_5, e_5⟩ := h_5; replace e_5 := e_5.symm; subst e_5
  refine R_ifeq (tgt := 23) hX dX11_weight_8 (by decide) ⟨by omega, by omega⟩ (fun c_8 => ?_) (fun c_8 => ?_)
  · skip
    refine R_iconst hX dX11_weight_23 ?_
    exact R_iret hX dX11_weight_24 ⟨by first | rw [if_pos (by omega)] | rw [if_neg (by omega)], rfl⟩
  · skip
    refine R_aload_0 hX dX11_weight_11 ?_
    refine R_getq (v := b) hX dX11_weight_12 fl_X11_40 o_0 hbq.symm (by omega) ?_
    refine R_getq (v := b + 3) hX dX11_weight_15 fl_X11_123 (so_0 hb) rfl (by omega) ?_
    refine R_iload_1 hX dX11_weight_18 ?_
    refine R_iald hX dX11_weight_19 (sa_3 hb) ⟨by omega, by omega⟩ ?_
    refine R_goto (tgt := 24) hX dX11_weight_20 (by decide) ?_
    exact R_iret hX dX11_weight_24 ⟨by first | rw [if_pos (by omega)] | rw [if_neg (by omega)], rfl⟩
set_option maxRecDepth 100000 in
set_option maxHeartbeats 4000000 in
theorem c_priority {V : VX} {T : Shp} {F : Hp} {b u v K : Int} (hbq : b = 40) (hu : isSu u) (h : CI b u v K F) {n : Int} (h1 : I32 n)  : Ct V yX11_priority cX11_priority 2 (some .int) 1 21 0 0 (SH T) [vr V 0, vi n] F (SH T) 1 (fun r F' => r = (if 0 ≤ n ∧ n < F u 0 then F (u + 10) n else -1) ∧ F' = F) := by
  refine Ct.of [some (vr V 0), some (vi n)] (by decide) (by simp [lg_sl, vi_cat, vl_cat, vr_cat]) rfl (by simp [asc, lv_args, vi_cat, vl_cat, vr_cat]) (fun X hV hX => ?_)
  subst hV
  have hb : isSt b := Or.inl hbq
  obtain ⟨hs, hd, hS, hK, hL, hB, hk1, hk2, hS1, hS2⟩ := id h
  obtain ⟨hU, hA, hQ, hLo, hBd⟩ := id hS
  have hN := hU.1
  have hCC := hU.2.2.2.2.1
  refine R_aload_0 hX dX11_priority_0 ?_
  refine R_getoE (v := u) hX dX11_priority_1 fl_X11_33 o_0 rfl hs ?_
  refine R_iload_1 hX dX11_priority_4 ?_
  refine R_v1i hX dX11_priority_5 li_X11_85 mk_X7_hasNode mi_X7_hasNode rfl (to_0 hu) (c_hasNode hu hN h1) ⟨⟨by decide, by decide⟩, by decide, by decide, rfl, Nat.le_of_ble_eq_true rfl, rfl⟩ (fun x_5 F_5 h_5 => ?_)
  obtain ⟨h_5, e_5⟩ := h_5; replace e_5 := e_5.symm; subst e_5
  refine R_ifeq (tgt := 23) hX dX11_priority_8 (by decide) ⟨by omega, by omega⟩ (fun c_8 => ?_) (fun c_8 => ?_)
  · skip
    refine R_iconst hX dX11_priority_23 ?_
    exact R_iret hX dX11_priority_24 ⟨by first | rw [if_pos (by omega)] | rw [if_neg (by omega)], rfl⟩
  · skip
    refine R_aload_0 hX dX11_priority_11 ?_
    refine R_getoE (v := u) hX dX11_priority_12 fl_X11_33 o_0 rfl hs ?_
    refine R_getq (v := u + 10) hX dX11_priority_15 fl_X11_126 (to_0 hu) rfl (by omega) ?_
    refine R_iload_1 hX dX11_priority_18 ?_
    refine R_iald hX dX11_priority_19 (ta_10 hu) ⟨by omega, by omega⟩ ?_
    refine R_goto (tgt := 24) hX dX11_priority_20 (by decide) ?_
    exact R_iret hX dX11_priority_24 ⟨by first | rw [if_pos (by omega)] | rw [if_neg (by omega)], rfl⟩
set_option maxRecDepth 100000 in
set_option maxHeartbeats 4000000 in
theorem c_tokens {V : VX} {T : Shp} {F : Hp} {b u v K : Int} (hbq : b = 40) (hu : isSu u) (h : CI b u v K F) {n : Int} (h1 : I32 n)  : Ct V yX11_tokens cX11_tokens 2 (some .int) 1 21 0 0 (SH T) [vr V 0, vi n] F (SH T) 1 (fun r F' => r = (if 0 ≤ n ∧ n < F u 0 then F (b + 5) n else -1) ∧ F' = F) := by
  refine Ct.of [some (vr V 0), some (vi n)] (by decide) (by simp [lg_sl, vi_cat, vl_cat, vr_cat]) rfl (by simp [asc, lv_args, vi_cat, vl_cat, vr_cat]) (fun X hV hX => ?_)
  subst hV
  have hb : isSt b := Or.inl hbq
  obtain ⟨hs, hd, hS, hK, hL, hB, hk1, hk2, hS1, hS2⟩ := id h
  obtain ⟨hU, hA, hQ, hLo, hBd⟩ := id hS
  have hN := hU.1
  have hCC := hU.2.2.2.2.1
  refine R_aload_0 hX dX11_tokens_0 ?_
  refine R_getoE (v := u) hX dX11_tokens_1 fl_X11_33 o_0 rfl hs ?_
  refine R_iload_1 hX dX11_tokens_4 ?_
  refine R_v1i hX dX11_tokens_5 li_X11_85 mk_X7_hasNode mi_X7_hasNode rfl (to_0 hu) (c_hasNode hu hN h1) ⟨⟨by decide, by decide⟩, by decide, by decide, rfl, Nat.le_of_ble_eq_true rfl, rfl⟩ (fun x_5 F_5 h_5 => ?_)
  obtain ⟨h_5, e_5⟩ := h_5; replace e_5 := e_5.symm; subst e_5
  refine R_ifeq (tgt := 26) hX dX11_tokens_8 (by decide) ⟨by omega, by omega⟩ (fun c_8 => ?_) (fun c_8 => ?_)
  · skip
    refine R_iconst hX dX11_tokens_26 ?_
    exact R_iret hX dX11_tokens_27 ⟨by first | rw [if_pos (by omega)] | rw [if_neg (by omega)], rfl⟩
  · skip
    refine R_aload_0 hX dX11_tokens_11 ?_
    refine R_getq (v := b) hX dX11_tokens_12 fl_X11_40 o_0 hbq.symm (by omega) ?_
    refine R_getq (v := b + 4) hX dX11_tokens_15 fl_X11_143 (so_0 hb) rfl (by omega) ?_
    refine R_getq (v := b + 5) hX dX11_tokens_18 fl_X11_147 (so_4 hb) rfl (by omega) ?_
    refine R_iload_1 hX dX11_tokens_21 ?_
    refine R_iald hX dX11_tokens_22 (sa_5 hb) ⟨by omega, by omega⟩ ?_
    refine R_goto (tgt := 27) hX dX11_tokens_23 (by decide) ?_
    exact R_iret hX dX11_tokens_27 ⟨by first | rw [if_pos (by omega)] | rw [if_neg (by omega)], rfl⟩
set_option maxRecDepth 100000 in
set_option maxHeartbeats 4000000 in
theorem c_credit {V : VX} {T : Shp} {F : Hp} {b u v K : Int} (hbq : b = 40) (hu : isSu u) (h : CI b u v K F) {n : Int} (h1 : I32 n)  : Ct V yX11_credit cX11_credit 2 (some .int) 1 21 0 0 (SH T) [vr V 0, vi n] F (SH T) 1 (fun r F' => r = (if 0 ≤ n ∧ n < F u 0 then F (b + 6) n else -1) ∧ F' = F) := by
  refine Ct.of [some (vr V 0), some (vi n)] (by decide) (by simp [lg_sl, vi_cat, vl_cat, vr_cat]) rfl (by simp [asc, lv_args, vi_cat, vl_cat, vr_cat]) (fun X hV hX => ?_)
  subst hV
  have hb : isSt b := Or.inl hbq
  obtain ⟨hs, hd, hS, hK, hL, hB, hk1, hk2, hS1, hS2⟩ := id h
  obtain ⟨hU, hA, hQ, hLo, hBd⟩ := id hS
  have hN := hU.1
  have hCC := hU.2.2.2.2.1
  refine R_aload_0 hX dX11_credit_0 ?_
  refine R_getoE (v := u) hX dX11_credit_1 fl_X11_33 o_0 rfl hs ?_
  refine R_iload_1 hX dX11_credit_4 ?_
  refine R_v1i hX dX11_credit_5 li_X11_85 mk_X7_hasNode mi_X7_hasNode rfl (to_0 hu) (c_hasNode hu hN h1) ⟨⟨by decide, by decide⟩, by decide, by decide, rfl, Nat.le_of_ble_eq_true rfl, rfl⟩ (fun x_5 F_5 h_5 => ?_)
  obtain ⟨h_5, e_5⟩ := h_5; replace e_5 := e_5.symm; subst e_5
  refine R_ifeq (tgt := 26) hX dX11_credit_8 (by decide) ⟨by omega, by omega⟩ (fun c_8 => ?_) (fun c_8 => ?_)
  · skip
    refine R_iconst hX dX11_credit_26 ?_
    exact R_iret hX dX11_credit_27 ⟨by first | rw [if_pos (by omega)] | rw [if_neg (by omega)], rfl⟩
  · skip
    refine R_aload_0 hX dX11_credit_11 ?_
    refine R_getq (v := b) hX dX11_credit_12 fl_X11_40 o_0 hbq.symm (by omega) ?_
    refine R_getq (v := b + 4) hX dX11_credit_15 fl_X11_143 (so_0 hb) rfl (by omega) ?_
    refine R_getq (v := b + 6) hX dX11_credit_18 fl_X11_152 (so_4 hb) rfl (by omega) ?_
    refine R_iload_1 hX dX11_credit_21 ?_
    refine R_iald hX dX11_credit_22 (sa_6 hb) ⟨by omega, by omega⟩ ?_
    refine R_goto (tgt := 27) hX dX11_credit_23 (by decide) ?_
    exact R_iret hX dX11_credit_27 ⟨by first | rw [if_pos (by omega)] | rw [if_neg (by omega)], rfl⟩
set_option maxRecDepth 100000 in
set_option maxHeartbeats 4000000 in
theorem c_headroom {V : VX} {T : Shp} {F : Hp} {b u v K : Int} (hbq : b = 40) (hu : isSu u) (h : CI b u v K F) {n : Int} (h1 : I32 n)  : Ct V yX11_headroom cX11_headroom 2 (some .int) 1 21 0 0 (SH T) [vr V 0, vi n] F (SH T) 1 (fun r F' => r = (if 0 ≤ n ∧ n < F u 0 then F (b + 7) n else -1) ∧ F' = F) := by
  refine Ct.of [some (vr V 0), some (vi n)] (by decide) (by simp [lg_sl, vi_cat, vl_cat, vr_cat]) rfl (by simp [asc, lv_args, vi_cat, vl_cat, vr_cat]) (fun X hV hX => ?_)
  subst hV
  have hb : isSt b := Or.inl hbq
  obtain ⟨hs, hd, hS, hK, hL, hB, hk1, hk2, hS1, hS2⟩ := id h
  obtain ⟨hU, hA, hQ, hLo, hBd⟩ := id hS
  have hN := hU.1
  have hCC := hU.2.2.2.2.1
  refine R_aload_0 hX dX11_headroom_0 ?_
  refine R_getoE (v := u) hX dX11_headroom_1 fl_X11_33 o_0 rfl hs ?_
  refine R_iload_1 hX dX11_headroom_4 ?_
  refine R_v1i hX dX11_headroom_5 li_X11_85 mk_X7_hasNode mi_X7_hasNode rfl (to_0 hu) (c_hasNode hu hN h1) ⟨⟨by decide, by decide⟩, by decide, by decide, rfl, Nat.le_of_ble_eq_true rfl, rfl⟩ (fun x_5 F_5 h_5 => ?_)
  obtain ⟨h_5, e_5⟩ := h_5; replace e_5 := e_5.symm; subst e_5
  refine R_ifeq (tgt := 26) hX dX11_headroom_8 (by decide) ⟨by omega, by omega⟩ (fun c_8 => ?_) (fun c_8 => ?_)
  · skip
    refine R_iconst hX dX11_headroom_26 ?_
    exact R_iret hX dX11_headroom_27 ⟨by first | rw [if_pos (by omega)] | rw [if_neg (by omega)], rfl⟩
  · skip
    refine R_aload_0 hX dX11_headroom_11 ?_
    refine R_getq (v := b) hX dX11_headroom_12 fl_X11_40 o_0 hbq.symm (by omega) ?_
    refine R_getq (v := b + 4) hX dX11_headroom_15 fl_X11_143 (so_0 hb) rfl (by omega) ?_
    refine R_getq (v := b + 7) hX dX11_headroom_18 fl_X11_155 (so_4 hb) rfl (by omega) ?_
    refine R_iload_1 hX dX11_headroom_21 ?_
    refine R_iald hX dX11_headroom_22 (sa_7 hb) ⟨by omega, by omega⟩ ?_
    refine R_goto (tgt := 27) hX dX11_headroom_23 (by decide) ?_
    exact R_iret hX dX11_headroom_27 ⟨by first | rw [if_pos (by omega)] | rw [if_neg (by omega)], rfl⟩
set_option maxRecDepth 100000 in
set_option maxHeartbeats 4000000 in
theorem c_lentCost {V : VX} {T : Shp} {F : Hp} {b u v K : Int} (hbq : b = 40) (hu : isSu u) (h : CI b u v K F) {n : Int} (h1 : I32 n)  : Ct V yX11_lentCost cX11_lentCost 2 (some .int) 1 21 0 0 (SH T) [vr V 0, vi n] F (SH T) 1 (fun r F' => r = (if 0 ≤ n ∧ n < F u 0 then F (b + 17) n else -1) ∧ F' = F) := by
  refine Ct.of [some (vr V 0), some (vi n)] (by decide) (by simp [lg_sl, vi_cat, vl_cat, vr_cat]) rfl (by simp [asc, lv_args, vi_cat, vl_cat, vr_cat]) (fun X hV hX => ?_)
  subst hV
  have hb : isSt b := Or.inl hbq
  obtain ⟨hs, hd, hS, hK, hL, hB, hk1, hk2, hS1, hS2⟩ := id h
  obtain ⟨hU, hA, hQ, hLo, hBd⟩ := id hS
  have hN := hU.1
  have hCC := hU.2.2.2.2.1
  refine R_aload_0 hX dX11_lentCost_0 ?_
  refine R_getoE (v := u) hX dX11_lentCost_1 fl_X11_33 o_0 rfl hs ?_
  refine R_iload_1 hX dX11_lentCost_4 ?_
  refine R_v1i hX dX11_lentCost_5 li_X11_85 mk_X7_hasNode mi_X7_hasNode rfl (to_0 hu) (c_hasNode hu hN h1) ⟨⟨by decide, by decide⟩, by decide, by decide, rfl, Nat.le_of_ble_eq_true rfl, rfl⟩ (fun x_5 F_5 h_5 => ?_)
  obtain ⟨h_5, e_5⟩ := h_5; replace e_5 := e_5.symm; subst e_5
  refine R_ifeq (tgt := 26) hX dX11_lentCost_8 (by decide) ⟨by omega, by omega⟩ (fun c_8 => ?_) (fun c_8 => ?_)
  · skip
    refine R_iconst hX dX11_lentCost_26 ?_
    exact R_iret hX dX11_lentCost_27 ⟨by first | rw [if_pos (by omega)] | rw [if_neg (by omega)], rfl⟩
  · skip
    refine R_aload_0 hX dX11_lentCost_11 ?_
    refine R_getq (v := b) hX dX11_lentCost_12 fl_X11_40 o_0 hbq.symm (by omega) ?_
    refine R_getq (v := b + 13) hX dX11_lentCost_15 fl_X11_226 (so_0 hb) rfl (by omega) ?_
    refine R_getq (v := b + 17) hX dX11_lentCost_18 fl_X11_249 (so_13 hb) rfl (by omega) ?_
    refine R_iload_1 hX dX11_lentCost_21 ?_
    refine R_iald hX dX11_lentCost_22 (sa_17 hb) ⟨by omega, by omega⟩ ?_
    refine R_goto (tgt := 27) hX dX11_lentCost_23 (by decide) ?_
    exact R_iret hX dX11_lentCost_27 ⟨by first | rw [if_pos (by omega)] | rw [if_neg (by omega)], rfl⟩
set_option maxRecDepth 100000 in
set_option maxHeartbeats 4000000 in
theorem c_queueLength {V : VX} {T : Shp} {F : Hp} {b u v K : Int} (hbq : b = 40) (hu : isSu u) (h : CI b u v K F) {n : Int} (h1 : I32 n)  : Ct V yX11_queueLength cX11_queueLength 2 (some .int) 2 42 0 0 (SH T) [vr V 0, vi n] F (SH T) 1 (fun r F' => r = (if 0 ≤ n ∧ n < F u 0 ∧ F (u + 4) n = 0 then F (b + 9) n else -1) ∧ F' = F) := by
  refine Ct.of [some (vr V 0), some (vi n)] (by decide) (by simp [lg_sl, vi_cat, vl_cat, vr_cat]) rfl (by simp [asc, lv_args, vi_cat, vl_cat, vr_cat]) (fun X hV hX => ?_)
  subst hV
  have hb : isSt b := Or.inl hbq
  obtain ⟨hs, hd, hS, hK, hL, hB, hk1, hk2, hS1, hS2⟩ := id h
  obtain ⟨hU, hA, hQ, hLo, hBd⟩ := id hS
  have hN := hU.1
  have hCC := hU.2.2.2.2.1
  refine R_aload_0 hX dX11_queueLength_0 ?_
  refine R_getoE (v := u) hX dX11_queueLength_1 fl_X11_33 o_0 rfl hs ?_
  refine R_iload_1 hX dX11_queueLength_4 ?_
  refine R_v1i hX dX11_queueLength_5 li_X11_105 mk_X7_hasLeaf mi_X7_hasLeaf rfl (to_0 hu) (c_hasLeaf hu hN hCC h1) ⟨⟨by decide, by decide⟩, by decide, by decide, rfl, Nat.le_of_ble_eq_true rfl, rfl⟩ (fun x_5 F_5 h_5 => ?_)
  obtain ⟨h_5, e_5⟩ := h_5; replace e_5 := e_5.symm; subst e_5
  refine R_ifeq (tgt := 26) hX dX11_queueLength_8 (by decide) ⟨by omega, by omega⟩ (fun c_8 => ?_) (fun c_8 => ?_)
  · skip
    refine R_iconst hX dX11_queueLength_26 ?_
    exact R_iret hX dX11_queueLength_27 ⟨by first | rw [if_pos (by omega)] | rw [if_neg (by omega)], rfl⟩
  · skip
    refine R_aload_0 hX dX11_queueLength_11 ?_
    refine R_getq (v := b) hX dX11_queueLength_12 fl_X11_40 o_0 hbq.symm (by omega) ?_
    refine R_getq (v := b + 8) hX dX11_queueLength_15 fl_X11_189 (so_0 hb) rfl (by omega) ?_
    refine R_getq (v := b + 9) hX dX11_queueLength_18 fl_X11_193 (so_8 hb) rfl (by omega) ?_
    refine R_iload_1 hX dX11_queueLength_21 ?_
    refine R_iald hX dX11_queueLength_22 (sa_9 hb) ⟨by omega, by omega⟩ ?_
    refine R_goto (tgt := 27) hX dX11_queueLength_23 (by decide) ?_
    exact R_iret hX dX11_queueLength_27 ⟨by first | rw [if_pos (by omega)] | rw [if_neg (by omega)], rfl⟩
set_option maxRecDepth 100000 in
set_option maxHeartbeats 4000000 in
theorem c_sentCost {V : VX} {T : Shp} {F : Hp} {b u v K : Int} (hbq : b = 40) (hu : isSu u) (h : CI b u v K F) {n : Int} (h1 : I32 n)  : Ct V yX11_sentCost cX11_sentCost 2 (some .int) 2 42 0 0 (SH T) [vr V 0, vi n] F (SH T) 1 (fun r F' => r = (if 0 ≤ n ∧ n < F u 0 ∧ F (u + 4) n = 0 then F (b + 14) n else -1) ∧ F' = F) := by
  refine Ct.of [some (vr V 0), some (vi n)] (by decide) (by simp [lg_sl, vi_cat, vl_cat, vr_cat]) rfl (by simp [asc, lv_args, vi_cat, vl_cat, vr_cat]) (fun X hV hX => ?_)
  subst hV
  have hb : isSt b := Or.inl hbq
  obtain ⟨hs, hd, hS, hK, hL, hB, hk1, hk2, hS1, hS2⟩ := id h
  obtain ⟨hU, hA, hQ, hLo, hBd⟩ := id hS
  have hN := hU.1
  have hCC := hU.2.2.2.2.1
  refine R_aload_0 hX dX11_sentCost_0 ?_
  refine R_getoE (v := u) hX dX11_sentCost_1 fl_X11_33 o_0 rfl hs ?_
  refine R_iload_1 hX dX11_sentCost_4 ?_
  refine R_v1i hX dX11_sentCost_5 li_X11_105 mk_X7_hasLeaf mi_X7_hasLeaf rfl (to_0 hu) (c_hasLeaf hu hN hCC h1) ⟨⟨by decide, by decide⟩, by decide, by decide, rfl, Nat.le_of_ble_eq_true rfl, rfl⟩ (fun x_5 F_5 h_5 => ?_)
  obtain ⟨h_5, e_5⟩ := h_5; replace e_5 := e_5.symm; subst e_5
  refine R_ifeq (tgt := 26) hX dX11_sentCost_8 (by decide) ⟨by omega, by omega⟩ (fun c_8 => ?_) (fun c_8 => ?_)
  · skip
    refine R_iconst hX dX11_sentCost_26 ?_
    exact R_iret hX dX11_sentCost_27 ⟨by first | rw [if_pos (by omega)] | rw [if_neg (by omega)], rfl⟩
  · skip
    refine R_aload_0 hX dX11_sentCost_11 ?_
    refine R_getq (v := b) hX dX11_sentCost_12 fl_X11_40 o_0 hbq.symm (by omega) ?_
    refine R_getq (v := b + 13) hX dX11_sentCost_15 fl_X11_226 (so_0 hb) rfl (by omega) ?_
    refine R_getq (v := b + 14) hX dX11_sentCost_18 fl_X11_243 (so_13 hb) rfl (by omega) ?_
    refine R_iload_1 hX dX11_sentCost_21 ?_
    refine R_iald hX dX11_sentCost_22 (sa_14 hb) ⟨by omega, by omega⟩ ?_
    refine R_goto (tgt := 27) hX dX11_sentCost_23 (by decide) ?_
    exact R_iret hX dX11_sentCost_27 ⟨by first | rw [if_pos (by omega)] | rw [if_neg (by omega)], rfl⟩
set_option maxRecDepth 100000 in
set_option maxHeartbeats 4000000 in
theorem c_sentCount {V : VX} {T : Shp} {F : Hp} {b u v K : Int} (hbq : b = 40) (hu : isSu u) (h : CI b u v K F) {n : Int} (h1 : I32 n)  : Ct V yX11_sentCount cX11_sentCount 2 (some .int) 2 42 0 0 (SH T) [vr V 0, vi n] F (SH T) 1 (fun r F' => r = (if 0 ≤ n ∧ n < F u 0 ∧ F (u + 4) n = 0 then F (b + 15) n else -1) ∧ F' = F) := by
  refine Ct.of [some (vr V 0), some (vi n)] (by decide) (by simp [lg_sl, vi_cat, vl_cat, vr_cat]) rfl (by simp [asc, lv_args, vi_cat, vl_cat, vr_cat]) (fun X hV hX => ?_)
  subst hV
  have hb : isSt b := Or.inl hbq
  obtain ⟨hs, hd, hS, hK, hL, hB, hk1, hk2, hS1, hS2⟩ := id h
  obtain ⟨hU, hA, hQ, hLo, hBd⟩ := id hS
  have hN := hU.1
  have hCC := hU.2.2.2.2.1
  refine R_aload_0 hX dX11_sentCount_0 ?_
  refine R_getoE (v := u) hX dX11_sentCount_1 fl_X11_33 o_0 rfl hs ?_
  refine R_iload_1 hX dX11_sentCount_4 ?_
  refine R_v1i hX dX11_sentCount_5 li_X11_105 mk_X7_hasLeaf mi_X7_hasLeaf rfl (to_0 hu) (c_hasLeaf hu hN hCC h1) ⟨⟨by decide, by decide⟩, by decide, by decide, rfl, Nat.le_of_ble_eq_true rfl, rfl⟩ (fun x_5 F_5 h_5 => ?_)
  obtain ⟨h_5, e_5⟩ := h_5; replace e_5 := e_5.symm; subst e_5
  refine R_ifeq (tgt := 26) hX dX11_sentCount_8 (by decide) ⟨by omega, by omega⟩ (fun c_8 => ?_) (fun c_8 => ?_)
  · skip
    refine R_iconst hX dX11_sentCount_26 ?_
    exact R_iret hX dX11_sentCount_27 ⟨by first | rw [if_pos (by omega)] | rw [if_neg (by omega)], rfl⟩
  · skip
    refine R_aload_0 hX dX11_sentCount_11 ?_
    refine R_getq (v := b) hX dX11_sentCount_12 fl_X11_40 o_0 hbq.symm (by omega) ?_
    refine R_getq (v := b + 13) hX dX11_sentCount_15 fl_X11_226 (so_0 hb) rfl (by omega) ?_
    refine R_getq (v := b + 15) hX dX11_sentCount_18 fl_X11_230 (so_13 hb) rfl (by omega) ?_
    refine R_iload_1 hX dX11_sentCount_21 ?_
    refine R_iald hX dX11_sentCount_22 (sa_15 hb) ⟨by omega, by omega⟩ ?_
    refine R_goto (tgt := 27) hX dX11_sentCount_23 (by decide) ?_
    exact R_iret hX dX11_sentCount_27 ⟨by first | rw [if_pos (by omega)] | rw [if_neg (by omega)], rfl⟩
set_option maxRecDepth 100000 in
set_option maxHeartbeats 4000000 in
theorem c_borrowedCost {V : VX} {T : Shp} {F : Hp} {b u v K : Int} (hbq : b = 40) (hu : isSu u) (h : CI b u v K F) {n : Int} (h1 : I32 n)  : Ct V yX11_borrowedCost cX11_borrowedCost 2 (some .int) 2 42 0 0 (SH T) [vr V 0, vi n] F (SH T) 1 (fun r F' => r = (if 0 ≤ n ∧ n < F u 0 ∧ F (u + 4) n = 0 then F (b + 16) n else -1) ∧ F' = F) := by
  refine Ct.of [some (vr V 0), some (vi n)] (by decide) (by simp [lg_sl, vi_cat, vl_cat, vr_cat]) rfl (by simp [asc, lv_args, vi_cat, vl_cat, vr_cat]) (fun X hV hX => ?_)
  subst hV
  have hb : isSt b := Or.inl hbq
  obtain ⟨hs, hd, hS, hK, hL, hB, hk1, hk2, hS1, hS2⟩ := id h
  obtain ⟨hU, hA, hQ, hLo, hBd⟩ := id hS
  have hN := hU.1
  have hCC := hU.2.2.2.2.1
  refine R_aload_0 hX dX11_borrowedCost_0 ?_
  refine R_getoE (v := u) hX dX11_borrowedCost_1 fl_X11_33 o_0 rfl hs ?_
  refine R_iload_1 hX dX11_borrowedCost_4 ?_
  refine R_v1i hX dX11_borrowedCost_5 li_X11_105 mk_X7_hasLeaf mi_X7_hasLeaf rfl (to_0 hu) (c_hasLeaf hu hN hCC h1) ⟨⟨by decide, by decide⟩, by decide, by decide, rfl, Nat.le_of_ble_eq_true rfl, rfl⟩ (fun x_5 F_5 h_5 => ?_)
  obtain ⟨h_5, e_5⟩ := h_5; replace e_5 := e_5.symm; subst e_5
  refine R_ifeq (tgt := 26) hX dX11_borrowedCost_8 (by decide) ⟨by omega, by omega⟩ (fun c_8 => ?_) (fun c_8 => ?_)
  · skip
    refine R_iconst hX dX11_borrowedCost_26 ?_
    exact R_iret hX dX11_borrowedCost_27 ⟨by first | rw [if_pos (by omega)] | rw [if_neg (by omega)], rfl⟩
  · skip
    refine R_aload_0 hX dX11_borrowedCost_11 ?_
    refine R_getq (v := b) hX dX11_borrowedCost_12 fl_X11_40 o_0 hbq.symm (by omega) ?_
    refine R_getq (v := b + 13) hX dX11_borrowedCost_15 fl_X11_226 (so_0 hb) rfl (by omega) ?_
    refine R_getq (v := b + 16) hX dX11_borrowedCost_18 fl_X11_246 (so_13 hb) rfl (by omega) ?_
    refine R_iload_1 hX dX11_borrowedCost_21 ?_
    refine R_iald hX dX11_borrowedCost_22 (sa_16 hb) ⟨by omega, by omega⟩ ?_
    refine R_goto (tgt := 27) hX dX11_borrowedCost_23 (by decide) ?_
    exact R_iret hX dX11_borrowedCost_27 ⟨by first | rw [if_pos (by omega)] | rw [if_neg (by omega)], rfl⟩
set_option maxRecDepth 100000 in
set_option maxHeartbeats 4000000 in
theorem c_droppedCount {V : VX} {T : Shp} {F : Hp} {b u v K : Int} (hbq : b = 40) (hu : isSu u) (h : CI b u v K F) {n : Int} (h1 : I32 n)  : Ct V yX11_droppedCount cX11_droppedCount 2 (some .int) 2 42 0 0 (SH T) [vr V 0, vi n] F (SH T) 1 (fun r F' => r = (if 0 ≤ n ∧ n < F u 0 ∧ F (u + 4) n = 0 then F (b + 18) n else -1) ∧ F' = F) := by
  refine Ct.of [some (vr V 0), some (vi n)] (by decide) (by simp [lg_sl, vi_cat, vl_cat, vr_cat]) rfl (by simp [asc, lv_args, vi_cat, vl_cat, vr_cat]) (fun X hV hX => ?_)
  subst hV
  have hb : isSt b := Or.inl hbq
  obtain ⟨hs, hd, hS, hK, hL, hB, hk1, hk2, hS1, hS2⟩ := id h
  obtain ⟨hU, hA, hQ, hLo, hBd⟩ := id hS
  have hN := hU.1
  have hCC := hU.2.2.2.2.1
  refine R_aload_0 hX dX11_droppedCount_0 ?_
  refine R_getoE (v := u) hX dX11_droppedCount_1 fl_X11_33 o_0 rfl hs ?_
  refine R_iload_1 hX dX11_droppedCount_4 ?_
  refine R_v1i hX dX11_droppedCount_5 li_X11_105 mk_X7_hasLeaf mi_X7_hasLeaf rfl (to_0 hu) (c_hasLeaf hu hN hCC h1) ⟨⟨by decide, by decide⟩, by decide, by decide, rfl, Nat.le_of_ble_eq_true rfl, rfl⟩ (fun x_5 F_5 h_5 => ?_)
  obtain ⟨h_5, e_5⟩ := h_5; replace e_5 := e_5.symm; subst e_5
  refine R_ifeq (tgt := 26) hX dX11_droppedCount_8 (by decide) ⟨by omega, by omega⟩ (fun c_8 => ?_) (fun c_8 => ?_)
  · skip
    refine R_iconst hX dX11_droppedCount_26 ?_
    exact R_iret hX dX11_droppedCount_27 ⟨by first | rw [if_pos (by omega)] | rw [if_neg (by omega)], rfl⟩
  · skip
    refine R_aload_0 hX dX11_droppedCount_11 ?_
    refine R_getq (v := b) hX dX11_droppedCount_12 fl_X11_40 o_0 hbq.symm (by omega) ?_
    refine R_getq (v := b + 13) hX dX11_droppedCount_15 fl_X11_226 (so_0 hb) rfl (by omega) ?_
    refine R_getq (v := b + 18) hX dX11_droppedCount_18 fl_X11_252 (so_13 hb) rfl (by omega) ?_
    refine R_iload_1 hX dX11_droppedCount_21 ?_
    refine R_iald hX dX11_droppedCount_22 (sa_18 hb) ⟨by omega, by omega⟩ ?_
    refine R_goto (tgt := 27) hX dX11_droppedCount_23 (by decide) ?_
    exact R_iret hX dX11_droppedCount_27 ⟨by first | rw [if_pos (by omega)] | rw [if_neg (by omega)], rfl⟩
set_option maxRecDepth 100000 in
set_option maxHeartbeats 4000000 in
theorem c_nodeCount {V : VX} {T : Shp} {F : Hp} {b u v K : Int} (hbq : b = 40) (hu : isSu u) (h : CI b u v K F)  : Ct V yX11_nodeCount cX11_nodeCount 1 (some .int) 0 0 0 0 (SH T) [vr V 0] F (SH T) 1 (fun r F' => r = F u 0 ∧ F' = F) := by
  refine Ct.of [some (vr V 0)] (by decide) (by simp [lg_sl, vi_cat, vl_cat, vr_cat]) rfl (by simp [asc, lv_args, vi_cat, vl_cat, vr_cat]) (fun X hV hX => ?_)
  subst hV
  have hb : isSt b := Or.inl hbq
  obtain ⟨hs, hd, hS, hK, hL, hB, hk1, hk2, hS1, hS2⟩ := id h
  obtain ⟨hU, hA, hQ, hLo, hBd⟩ := id hS
  have hN := hU.1
  have hCC := hU.2.2.2.2.1
  refine R_aload_0 hX dX11_nodeCount_0 ?_
  refine R_getoE (v := u) hX dX11_nodeCount_1 fl_X11_33 o_0 rfl hs ?_
  refine R_geti hX dX11_nodeCount_4 fl_X11_79 (to_0 hu) rfl ?_
  exact R_iret hX dX11_nodeCount_7 ⟨rfl, rfl⟩
set_option maxRecDepth 100000 in
set_option maxHeartbeats 4000000 in
theorem c_time {V : VX} {T : Shp} {F : Hp} {b u v K : Int} (hbq : b = 40) (hu : isSu u) (h : CI b u v K F)  : Ct V yX11_time cX11_time 1 (some .int) 0 0 0 0 (SH T) [vr V 0] F (SH T) 1 (fun r F' => r = F b 1 ∧ F' = F) := by
  refine Ct.of [some (vr V 0)] (by decide) (by simp [lg_sl, vi_cat, vl_cat, vr_cat]) rfl (by simp [asc, lv_args, vi_cat, vl_cat, vr_cat]) (fun X hV hX => ?_)
  subst hV
  have hb : isSt b := Or.inl hbq
  obtain ⟨hs, hd, hS, hK, hL, hB, hk1, hk2, hS1, hS2⟩ := id h
  obtain ⟨hU, hA, hQ, hLo, hBd⟩ := id hS
  have hN := hU.1
  have hCC := hU.2.2.2.2.1
  refine R_aload_0 hX dX11_time_0 ?_
  refine R_getq (v := b) hX dX11_time_1 fl_X11_40 o_0 hbq.symm (by omega) ?_
  refine R_geti hX dX11_time_4 fl_X11_140 (so_0 hb) rfl ?_
  exact R_iret hX dX11_time_7 ⟨rfl, rfl⟩
set_option maxRecDepth 100000 in
set_option maxHeartbeats 4000000 in
theorem c_faultCode {V : VX} {T : Shp} {F : Hp} {b u v K : Int} (hbq : b = 40) (hu : isSu u) (h : CI b u v K F)  : Ct V yX11_faultCode cX11_faultCode 1 (some .int) 0 0 0 0 (SH T) [vr V 0] F (SH T) 1 (fun r F' => r = F 3 0 ∧ F' = F) := by
  refine Ct.of [some (vr V 0)] (by decide) (by simp [lg_sl, vi_cat, vl_cat, vr_cat]) rfl (by simp [asc, lv_args, vi_cat, vl_cat, vr_cat]) (fun X hV hX => ?_)
  subst hV
  have hb : isSt b := Or.inl hbq
  obtain ⟨hs, hd, hS, hK, hL, hB, hk1, hk2, hS1, hS2⟩ := id h
  obtain ⟨hU, hA, hQ, hLo, hBd⟩ := id hS
  have hN := hU.1
  have hCC := hU.2.2.2.2.1
  refine R_aload_0 hX dX11_faultCode_0 ?_
  refine R_getq (v := 3) hX dX11_faultCode_1 fl_X11_19 o_0 rfl (by omega) ?_
  refine R_geti hX dX11_faultCode_4 fl_X11_65 o_3 rfl ?_
  exact R_iret hX dX11_faultCode_7 ⟨rfl, rfl⟩
set_option maxRecDepth 100000 in
set_option maxHeartbeats 4000000 in
theorem c_faultPosition {V : VX} {T : Shp} {F : Hp} {b u v K : Int} (hbq : b = 40) (hu : isSu u) (h : CI b u v K F)  : Ct V yX11_faultPosition cX11_faultPosition 1 (some .int) 0 0 0 0 (SH T) [vr V 0] F (SH T) 1 (fun r F' => r = F 3 1 ∧ F' = F) := by
  refine Ct.of [some (vr V 0)] (by decide) (by simp [lg_sl, vi_cat, vl_cat, vr_cat]) rfl (by simp [asc, lv_args, vi_cat, vl_cat, vr_cat]) (fun X hV hX => ?_)
  subst hV
  have hb : isSt b := Or.inl hbq
  obtain ⟨hs, hd, hS, hK, hL, hB, hk1, hk2, hS1, hS2⟩ := id h
  obtain ⟨hU, hA, hQ, hLo, hBd⟩ := id hS
  have hN := hU.1
  have hCC := hU.2.2.2.2.1
  refine R_aload_0 hX dX11_faultPosition_0 ?_
  refine R_getq (v := 3) hX dX11_faultPosition_1 fl_X11_19 o_0 rfl (by omega) ?_
  refine R_geti hX dX11_faultPosition_4 fl_X11_82 o_3 rfl ?_
  exact R_iret hX dX11_faultPosition_7 ⟨rfl, rfl⟩
set_option maxRecDepth 100000 in
set_option maxHeartbeats 4000000 in
theorem c_isLeaf {V : VX} {T : Shp} {F : Hp} {b u v K : Int} (hbq : b = 40) (hu : isSu u) (h : CI b u v K F) {n : Int} (h1 : I32 n)  : Ct V yX11_isLeaf cX11_isLeaf 2 (some .boolean) 2 42 0 0 (SH T) [vr V 0, vi n] F (SH T) 1 (fun r F' => ((r = 1 ∧ (0 ≤ n ∧ n < F u 0 ∧ F (u + 4) n = 0)) ∨ (r = 0 ∧ ¬ (0 ≤ n ∧ n < F u 0 ∧ F (u + 4) n = 0))) ∧ F' = F) := by
  refine Ct.of [some (vr V 0), some (vi n)] (by decide) (by simp [lg_sl, vi_cat, vl_cat, vr_cat]) rfl (by simp [asc, lv_args, vi_cat, vl_cat, vr_cat]) (fun X hV hX => ?_)
  subst hV
  have hb : isSt b := Or.inl hbq
  obtain ⟨hs, hd, hS, hK, hL, hB, hk1, hk2, hS1, hS2⟩ := id h
  obtain ⟨hU, hA, hQ, hLo, hBd⟩ := id hS
  have hN := hU.1
  have hCC := hU.2.2.2.2.1
  refine R_aload_0 hX dX11_isLeaf_0 ?_
  refine R_getoE (v := u) hX dX11_isLeaf_1 fl_X11_33 o_0 rfl hs ?_
  refine R_iload_1 hX dX11_isLeaf_4 ?_
  refine R_v1i hX dX11_isLeaf_5 li_X11_105 mk_X7_hasLeaf mi_X7_hasLeaf rfl (to_0 hu) (c_hasLeaf hu hN hCC h1) ⟨⟨by decide, by decide⟩, by decide, by decide, rfl, Nat.le_of_ble_eq_true rfl, rfl⟩ (fun x_5 F_5 h_5 => ?_)
  obtain ⟨h_5, e_5⟩ := h_5; replace e_5 := e_5.symm; subst e_5
  exact R_zret hX (by omega) dX11_isLeaf_8 ⟨h_5, rfl⟩
set_option maxRecDepth 100000 in
set_option maxHeartbeats 4000000 in
theorem c_mayBorrow {V : VX} {T : Shp} {F : Hp} {b u v K : Int} (hbq : b = 40) (hu : isSu u) (h : CI b u v K F) {n : Int} (h1 : I32 n)  : Ct V yX11_mayBorrow cX11_mayBorrow 2 (some .boolean) 1 21 0 0 (SH T) [vr V 0, vi n] F (SH T) 1 (fun r F' => ((r = 1 ∧ (0 ≤ n ∧ n < F u 0 ∧ F (u + 11) n = 0)) ∨ (r = 0 ∧ ¬ (0 ≤ n ∧ n < F u 0 ∧ F (u + 11) n = 0))) ∧ F' = F) := by
  refine Ct.of [some (vr V 0), some (vi n)] (by decide) (by simp [lg_sl, vi_cat, vl_cat, vr_cat]) rfl (by simp [asc, lv_args, vi_cat, vl_cat, vr_cat]) (fun X hV hX => ?_)
  subst hV
  have hb : isSt b := Or.inl hbq
  obtain ⟨hs, hd, hS, hK, hL, hB, hk1, hk2, hS1, hS2⟩ := id h
  obtain ⟨hU, hA, hQ, hLo, hBd⟩ := id hS
  have hN := hU.1
  have hCC := hU.2.2.2.2.1
  refine R_aload_0 hX dX11_mayBorrow_0 ?_
  refine R_getoE (v := u) hX dX11_mayBorrow_1 fl_X11_33 o_0 rfl hs ?_
  refine R_iload_1 hX dX11_mayBorrow_4 ?_
  refine R_v1i hX dX11_mayBorrow_5 li_X11_85 mk_X7_hasNode mi_X7_hasNode rfl (to_0 hu) (c_hasNode hu hN h1) ⟨⟨by decide, by decide⟩, by decide, by decide, rfl, Nat.le_of_ble_eq_true rfl, rfl⟩ (fun x_5 F_5 h_5 => ?_)
  obtain ⟨h_5, e_5⟩ := h_5; replace e_5 := e_5.symm; subst e_5
  refine R_ifeq (tgt := 27) hX dX11_mayBorrow_8 (by decide) ⟨by omega, by omega⟩ (fun c_8 => ?_) (fun c_8 => ?_)
  · skip
    refine R_iconst hX dX11_mayBorrow_27 ?_
    exact R_zret hX (by omega) dX11_mayBorrow_28 ⟨by omega, rfl⟩
  · skip
    have hal := hU.2.2.2.2.2.2.2.1 n (by omega) (by omega)
    refine R_aload_0 hX dX11_mayBorrow_11 ?_
    refine R_getoE (v := u) hX dX11_mayBorrow_12 fl_X11_33 o_0 rfl hs ?_
    refine R_getq (v := u + 11) hX dX11_mayBorrow_15 fl_X11_129 (to_0 hu) rfl (by omega) ?_
    refine R_iload_1 hX dX11_mayBorrow_18 ?_
    refine R_zald hX dX11_mayBorrow_19 (ta_11 hu) ⟨by omega, by omega⟩ ?_
    refine R_ifne (tgt := 27) hX dX11_mayBorrow_20 (by decide) ⟨by omega, by omega⟩ (fun c_20 => ?_) (fun c_20 => ?_)
    · skip
      refine R_iconst hX dX11_mayBorrow_27 ?_
      exact R_zret hX (by omega) dX11_mayBorrow_28 ⟨by omega, rfl⟩
    · skip
      refine R_iconst hX dX11_mayBorrow_23 ?_
      refine R_goto (tgt := 28) hX dX11_mayBorrow_24 (by decide) ?_
      exact R_zret hX (by omega) dX11_mayBorrow_28 ⟨by omega, rfl⟩
