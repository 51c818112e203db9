def gcS (f : Int → Int) : Nat → Int
  | 0 => 0
  | k + 1 => if f (k + 1) ≠ -2 then ((k : Int) + 1) else gcS f k
theorem gcS_no {f : Int → Int} {k : Nat} (h : f (k + 1) = -2) : gcS f (k + 1) = gcS f k := if_neg (fun z => z h)
set_option maxRecDepth 100000 in
set_option maxHeartbeats 4000000 in
theorem c_isOversubscribed {V : VX} {T : Shp} {F : Hp} {b u v K : Int} (hbq : b = 40) (hu : isSu u) (h : CI b u v K F) {n : Int} (h1 : I32 n)  : Ct V yX11_isOversubscribed cX11_isOversubscribed 2 (some .boolean) 1 24 0 0 (SH T) [vr V 0, vi n] F (SH T) 1 (fun r F' => ((r = 1 ∧ (0 ≤ n ∧ n < F u 0 ∧ F (b + 1) n < sumN (fun c => if F (u + 2) c = n then F (b + 1) c else 0) (F u 0).toNat)) ∨ (r = 0 ∧ ¬ (0 ≤ n ∧ n < F u 0 ∧ F (b + 1) n < sumN (fun c => if F (u + 2) c = n then F (b + 1) c else 0) (F u 0).toNat))) ∧ F' = F) := by
  refine Ct.of [some (vr V 0), some (vi n)] (by decide) (by simp [lg_sl, vi_cat, vl_cat, vr_cat]) rfl (by simp [asc, lv_args, vi_cat, vl_cat, vr_cat]) (fun X hV hX => ?_)
  subst hV
  have hb : isSt b := Or.inl hbq
  obtain ⟨hs, hd, hS, hK, hL, hB, hk1, hk2, hS1, hS2⟩ := id h
  obtain ⟨hU, hA, hQ, hLo, hBd⟩ := id hS
  have hN := hU.1
  have hCC := hU.2.2.2.2.1
  refine R_aload_0 hX dX11_isOversubscribed_0 ?_
  refine R_getoE (v := u) hX dX11_isOversubscribed_1 fl_X11_33 o_0 rfl hs ?_
  refine R_iload_1 hX dX11_isOversubscribed_4 ?_
  refine R_v1i hX dX11_isOversubscribed_5 li_X11_85 mk_X7_hasNode mi_X7_hasNode rfl (to_0 hu) (c_hasNode hu hN h1) ⟨⟨by decide, by decide⟩, by decide, by decide, rfl, Nat.le_of_ble_eq_true rfl, rfl⟩ (fun x_5 F_5 h_5 => ?_)
  obtain ⟨h_5, e_5⟩ := h_5; replace e_5 := e_5.symm; subst e_5
  refine R_ifeq (tgt := 39) hX dX11_isOversubscribed_8 (by decide) ⟨by omega, by omega⟩ (fun c_8 => ?_) (fun c_8 => ?_)
  · skip
    refine R_iconst hX dX11_isOversubscribed_39 ?_
    exact R_zret hX (by omega) dX11_isOversubscribed_40 ⟨by omega, rfl⟩
  · skip
    refine R_aload_0 hX dX11_isOversubscribed_11 ?_
    refine R_getq (v := b) hX dX11_isOversubscribed_12 fl_X11_40 o_0 hbq.symm (by omega) ?_
    refine R_aload_0 hX dX11_isOversubscribed_15 ?_
    refine R_getoE (v := u) hX dX11_isOversubscribed_16 fl_X11_33 o_0 rfl hs ?_
    refine R_iload_1 hX dX11_isOversubscribed_19 ?_
    refine R_v2i hX dX11_isOversubscribed_20 li_X11_133 mk_X8_childrenRate mi_X8_childrenRate rfl (so_0 hb) (c_childrenRate hu hb hN hU.2.1 (by omega)) ⟨⟨by decide, by decide⟩, by decide, by decide, rfl, Nat.le_of_ble_eq_true rfl, rfl⟩ (fun x_20 F_20 h_20 => ?_)
    obtain ⟨h_20, e_20⟩ := h_20; replace e_20 := e_20.symm; subst e_20
    have hbd := sumN_bd (f := (fun c => if F (u + 2) c = n then F (b + 1) c else 0)) (c := 99) (F u 0).toNat (by intro k h0 h1; have hq := hA k h0 (by omega); split <;> omega)
    have hax := hA n (by omega) (by omega)
    refine R_aload_0 hX dX11_isOversubscribed_23 ?_
    refine R_getq (v := b) hX dX11_isOversubscribed_24 fl_X11_40 o_0 hbq.symm (by omega) ?_
    refine R_getq (v := b + 1) hX dX11_isOversubscribed_27 fl_X11_111 (so_0 hb) rfl (by omega) ?_
    refine R_iload_1 hX dX11_isOversubscribed_30 ?_
    refine R_iald hX dX11_isOversubscribed_31 (sa_1 hb) ⟨by omega, by omega⟩ ?_
    refine R_icmple (tgt := 39) hX dX11_isOversubscribed_32 (by decide) ⟨by omega, by omega⟩ ⟨by omega, by omega⟩ (fun c_32 => ?_) (fun c_32 => ?_)
    · skip
      refine R_iconst hX dX11_isOversubscribed_39 ?_
      exact R_zret hX (by omega) dX11_isOversubscribed_40 ⟨by omega, rfl⟩
    · skip
      refine R_iconst hX dX11_isOversubscribed_35 ?_
      refine R_goto (tgt := 40) hX dX11_isOversubscribed_36 (by decide) ?_
      exact R_zret hX (by omega) dX11_isOversubscribed_40 ⟨by omega, rfl⟩
set_option maxRecDepth 100000 in
set_option maxHeartbeats 4000000 in
theorem c_pathCeiling {V : VX} {T : Shp} {F : Hp} {b u v K : Int} (hbq : b = 40) (hu : isSu u) (h : CI b u v K F) {n : Int} (h1 : I32 n)  : Ct V yX11_pathCeiling cX11_pathCeiling 2 (some .int) 2 46 0 0 (SH T) [vr V 0, vi n] F (SH T) 1 (fun r F' => r = (if 0 ≤ n ∧ n < F u 0 then lcS (F (b + 2)) (F (u + 2)) 13 n 999 else -1) ∧ F' = F) := by
  refine Ct.of [some (vr V 0), some (vi n)] (by decide) (by simp [lg_sl, vi_cat, vl_cat, vr_cat]) rfl (by simp [asc, lv_args, vi_cat, vl_cat, vr_cat]) (fun X hV hX => ?_)
  subst hV
  have hb : isSt b := Or.inl hbq
  obtain ⟨hs, hd, hS, hK, hL, hB, hk1, hk2, hS1, hS2⟩ := id h
  obtain ⟨hU, hA, hQ, hLo, hBd⟩ := id hS
  have hN := hU.1
  have hCC := hU.2.2.2.2.1
  refine R_aload_0 hX dX11_pathCeiling_0 ?_
  refine R_getoE (v := u) hX dX11_pathCeiling_1 fl_X11_33 o_0 rfl hs ?_
  refine R_iload_1 hX dX11_pathCeiling_4 ?_
  refine R_v1i hX dX11_pathCeiling_5 li_X11_85 mk_X7_hasNode mi_X7_hasNode rfl (to_0 hu) (c_hasNode hu hN h1) ⟨⟨by decide, by decide⟩, by decide, by decide, rfl, Nat.le_of_ble_eq_true rfl, rfl⟩ (fun x_5 F_5 h_5 => ?_)
  obtain ⟨h_5, e_5⟩ := h_5; replace e_5 := e_5.symm; subst e_5
  refine R_ifeq (tgt := 26) hX dX11_pathCeiling_8 (by decide) ⟨by omega, by omega⟩ (fun c_8 => ?_) (fun c_8 => ?_)
  · skip
    refine R_iconst hX dX11_pathCeiling_26 ?_
    exact R_iret hX dX11_pathCeiling_27 ⟨by first | rw [if_pos (by omega), h_20] | rw [if_neg (by omega)], rfl⟩
  · skip
    refine R_aload_0 hX dX11_pathCeiling_11 ?_
    refine R_getq (v := b) hX dX11_pathCeiling_12 fl_X11_40 o_0 hbq.symm (by omega) ?_
    refine R_aload_0 hX dX11_pathCeiling_15 ?_
    refine R_getoE (v := u) hX dX11_pathCeiling_16 fl_X11_33 o_0 rfl hs ?_
    refine R_iload_1 hX dX11_pathCeiling_19 ?_
    refine R_v2i hX dX11_pathCeiling_20 li_X11_137 mk_X8_leastCeiling mi_X8_leastCeiling rfl (so_0 hb) (c_leastCeiling hu hb hN hU.2.1 (fun m q0 q1 => (hA m q0 q1).2.1) (by omega)) ⟨⟨by decide, by decide⟩, by decide, by decide, rfl, Nat.le_of_ble_eq_true rfl, rfl⟩ (fun x_20 F_20 h_20 => ?_)
    obtain ⟨h_20, e_20⟩ := h_20; replace e_20 := e_20.symm; subst e_20
    refine R_goto (tgt := 27) hX dX11_pathCeiling_23 (by decide) ?_
    exact R_iret hX dX11_pathCeiling_27 ⟨by first | rw [if_pos (by omega), h_20] | rw [if_neg (by omega)], rfl⟩
set_option maxRecDepth 100000 in
set_option maxHeartbeats 4000000 in
theorem c_nameLetter {V : VX} {T : Shp} {F : Hp} {b u v K : Int} (hbq : b = 40) (hu : isSu u) (h : CI b u v K F) {n i : Int} (h1 : I32 n) (h2 : I32 i)  : Ct V yX11_nameLetter cX11_nameLetter 3 (some .int) 1 22 0 0 (SH T) [vr V 0, vi n, vi i] F (SH T) 1 (fun r F' => r = (if 0 ≤ n ∧ n < F u 0 ∧ 0 ≤ i then ltS (F (u + 1) n) i else -1) ∧ F' = F) := by
  refine Ct.of [some (vr V 0), some (vi n), some (vi i)] (by decide) (by simp [lg_sl, vi_cat, vl_cat, vr_cat]) rfl (by simp [asc, lv_args, vi_cat, vl_cat, vr_cat]) (fun X hV hX => ?_)
  subst hV
  have hb : isSt b := Or.inl hbq
  obtain ⟨hs, hd, hS, hK, hL, hB, hk1, hk2, hS1, hS2⟩ := id h
  obtain ⟨hU, hA, hQ, hLo, hBd⟩ := id hS
  have hN := hU.1
  have hCC := hU.2.2.2.2.1
  refine R_aload_0 hX dX11_nameLetter_0 ?_
  refine R_getoE (v := u) hX dX11_nameLetter_1 fl_X11_33 o_0 rfl hs ?_
  refine R_iload_1 hX dX11_nameLetter_4 ?_
  refine R_v1i hX dX11_nameLetter_5 li_X11_85 mk_X7_hasNode mi_X7_hasNode rfl (to_0 hu) (c_hasNode hu hN h1) ⟨⟨by decide, by decide⟩, by decide, by decide, rfl, Nat.le_of_ble_eq_true rfl, rfl⟩ (fun x_5 F_5 h_5 => ?_)
  obtain ⟨h_5, e_5⟩ := h_5; replace e_5 := e_5.symm; subst e_5
  refine R_ifeq (tgt := 31) hX dX11_nameLetter_8 (by decide) ⟨by omega, by omega⟩ (fun c_8 => ?_) (fun c_8 => ?_)
  · skip
    refine R_iconst hX dX11_nameLetter_31 ?_
    exact R_iret hX dX11_nameLetter_32 ⟨by first | rw [if_pos (by omega), h_25] | rw [if_neg (by omega)], rfl⟩
  · skip
    refine R_iload_2 hX dX11_nameLetter_11 ?_
    refine R_iflt (tgt := 31) hX dX11_nameLetter_12 (by decide) ⟨by omega, by omega⟩ (fun c_12 => ?_) (fun c_12 => ?_)
    · skip
      refine R_iconst hX dX11_nameLetter_31 ?_
      exact R_iret hX dX11_nameLetter_32 ⟨by first | rw [if_pos (by omega), h_25] | rw [if_neg (by omega)], rfl⟩
    · skip
      refine R_aload_0 hX dX11_nameLetter_15 ?_
      refine R_getoE (v := u) hX dX11_nameLetter_16 fl_X11_33 o_0 rfl hs ?_
      refine R_getq (v := u + 1) hX dX11_nameLetter_19 fl_X11_89 (to_0 hu) rfl (by omega) ?_
      refine R_iload_1 hX dX11_nameLetter_22 ?_
      refine R_lald hX dX11_nameLetter_23 (ta_1 hu) ⟨by omega, by omega⟩ ?_
      refine R_iload_2 hX dX11_nameLetter_24 ?_
      refine R_s2i hX dX11_nameLetter_25 li_X11_93 mk_X11_letterOf ms_X11_letterOf (c_letterOf h2) ⟨⟨by decide, by decide⟩, by decide, by decide, rfl, Nat.le_of_ble_eq_true rfl, rfl⟩ (fun x_25 F_25 h_25 => ?_)
      obtain ⟨h_25, e_25⟩ := h_25; replace e_25 := e_25.symm; subst e_25
      refine R_goto (tgt := 32) hX dX11_nameLetter_28 (by decide) ?_
      exact R_iret hX dX11_nameLetter_32 ⟨by first | rw [if_pos (by omega), h_25] | rw [if_neg (by omega)], rfl⟩
set_option maxRecDepth 100000 in
set_option maxHeartbeats 4000000 in
theorem c_child {V : VX} {T : Shp} {F : Hp} {b u v K : Int} (hbq : b = 40) (hu : isSu u) (h : CI b u v K F) {n i : Int} (h1 : I32 n) (h2 : I32 i)  : Ct V yX11_child cX11_child 3 (some .int) 1 24 0 0 (SH T) [vr V 0, vi n, vi i] F (SH T) 1 (fun r F' => r = (if 0 ≤ n ∧ n < F u 0 ∧ 0 ≤ i then chS (F (u + 2)) n (F u 0) i 12 (n + 1) else -1) ∧ F' = F) := by
  refine Ct.of [some (vr V 0), some (vi n), some (vi i)] (by decide) (by simp [lg_sl, vi_cat, vl_cat, vr_cat]) rfl (by simp [asc, lv_args, vi_cat, vl_cat, vr_cat]) (fun X hV hX => ?_)
  subst hV
  have hb : isSt b := Or.inl hbq
  obtain ⟨hs, hd, hS, hK, hL, hB, hk1, hk2, hS1, hS2⟩ := id h
  obtain ⟨hU, hA, hQ, hLo, hBd⟩ := id hS
  have hN := hU.1
  have hCC := hU.2.2.2.2.1
  refine R_aload_0 hX dX11_child_0 ?_
  refine R_getoE (v := u) hX dX11_child_1 fl_X11_33 o_0 rfl hs ?_
  refine R_iload_1 hX dX11_child_4 ?_
  refine R_v1i hX dX11_child_5 li_X11_85 mk_X7_hasNode mi_X7_hasNode rfl (to_0 hu) (c_hasNode hu hN h1) ⟨⟨by decide, by decide⟩, by decide, by decide, rfl, Nat.le_of_ble_eq_true rfl, rfl⟩ (fun x_5 F_5 h_5 => ?_)
  obtain ⟨h_5, e_5⟩ := h_5; replace e_5 := e_5.symm; subst e_5
  refine R_ifeq (tgt := 27) hX dX11_child_8 (by decide) ⟨by omega, by omega⟩ (fun c_8 => ?_) (fun c_8 => ?_)
  · skip
    refine R_iconst hX dX11_child_27 ?_
    exact R_iret hX dX11_child_28 ⟨by first | rw [if_pos (by omega), h_21] | rw [if_neg (by omega)], rfl⟩
  · skip
    refine R_iload_2 hX dX11_child_11 ?_
    refine R_iflt (tgt := 27) hX dX11_child_12 (by decide) ⟨by omega, by omega⟩ (fun c_12 => ?_) (fun c_12 => ?_)
    · skip
      refine R_iconst hX dX11_child_27 ?_
      exact R_iret hX dX11_child_28 ⟨by first | rw [if_pos (by omega), h_21] | rw [if_neg (by omega)], rfl⟩
    · skip
      refine R_aload_0 hX dX11_child_15 ?_
      refine R_getoE (v := u) hX dX11_child_16 fl_X11_33 o_0 rfl hs ?_
      refine R_iload_1 hX dX11_child_19 ?_
      refine R_iload_2 hX dX11_child_20 ?_
      refine R_v2i hX dX11_child_21 li_X11_101 mk_X7_childOf mi_X7_childOf rfl (to_0 hu) (c_childOf hu hN (fun m q0 q1 => by have := hU.2.1 m q0 q1; constructor <;> omega) (by omega) (by constructor <;> omega)) ⟨⟨by decide, by decide⟩, by decide, by decide, rfl, Nat.le_of_ble_eq_true rfl, rfl⟩ (fun x_21 F_21 h_21 => ?_)
      obtain ⟨h_21, e_21⟩ := h_21; replace e_21 := e_21.symm; subst e_21
      refine R_goto (tgt := 28) hX dX11_child_24 (by decide) ?_
      exact R_iret hX dX11_child_28 ⟨by first | rw [if_pos (by omega), h_21] | rw [if_neg (by omega)], rfl⟩
set_option maxRecDepth 100000 in
set_option maxHeartbeats 4000000 in
theorem c_isRequest {V : VX} {T : Shp} {F : Hp} {b u v K : Int} (hbq : b = 40) (hu : isSu u) (h : CI b u v K F) {l c : Int} (h1 : I32 l) (h2 : I32 c)  : Ct V yX11_isRequest cX11_isRequest 3 (some .boolean) 2 42 0 0 (SH T) [vr V 0, vi l, vi c] F (SH T) 1 (fun r F' => ((r = 1 ∧ (0 ≤ l ∧ l < F u 0 ∧ F (u + 4) l = 0 ∧ 1 ≤ c ∧ c ≤ 99)) ∨ (r = 0 ∧ ¬ (0 ≤ l ∧ l < F u 0 ∧ F (u + 4) l = 0 ∧ 1 ≤ c ∧ c ≤ 99))) ∧ F' = F) := by
  refine Ct.of [some (vr V 0), some (vi l), some (vi c)] (by decide) (by simp [lg_sl, vi_cat, vl_cat, vr_cat]) rfl (by simp [asc, lv_args, vi_cat, vl_cat, vr_cat]) (fun X hV hX => ?_)
  subst hV
  have hb : isSt b := Or.inl hbq
  obtain ⟨hs, hd, hS, hK, hL, hB, hk1, hk2, hS1, hS2⟩ := id h
  obtain ⟨hU, hA, hQ, hLo, hBd⟩ := id hS
  have hN := hU.1
  have hCC := hU.2.2.2.2.1
  refine R_aload_0 hX dX11_isRequest_0 ?_
  refine R_getoE (v := u) hX dX11_isRequest_1 fl_X11_33 o_0 rfl hs ?_
  refine R_iload_1 hX dX11_isRequest_4 ?_
  refine R_v1i hX dX11_isRequest_5 li_X11_105 mk_X7_hasLeaf mi_X7_hasLeaf rfl (to_0 hu) (c_hasLeaf hu hN hCC h1) ⟨⟨by decide, by decide⟩, by decide, by decide, rfl, Nat.le_of_ble_eq_true rfl, rfl⟩ (fun x_5 F_5 h_5 => ?_)
  obtain ⟨h_5, e_5⟩ := h_5; replace e_5 := e_5.symm; subst e_5
  refine R_ifeq (tgt := 26) hX dX11_isRequest_8 (by decide) ⟨by omega, by omega⟩ (fun c_8 => ?_) (fun c_8 => ?_)
  · skip
    refine R_iconst hX dX11_isRequest_26 ?_
    exact R_zret hX (by omega) dX11_isRequest_27 ⟨by omega, rfl⟩
  · skip
    refine R_iload_2 hX dX11_isRequest_11 ?_
    refine R_iconst hX dX11_isRequest_12 ?_
    refine R_icmplt (tgt := 26) hX dX11_isRequest_13 (by decide) ⟨by omega, by omega⟩ ⟨by omega, by omega⟩ (fun c_13 => ?_) (fun c_13 => ?_)
    · skip
      refine R_iconst hX dX11_isRequest_26 ?_
      exact R_zret hX (by omega) dX11_isRequest_27 ⟨by omega, rfl⟩
    · skip
      refine R_iload_2 hX dX11_isRequest_16 ?_
      refine R_bipush hX dX11_isRequest_17 (by decide) ?_
      refine R_icmpgt (tgt := 26) hX dX11_isRequest_19 (by decide) ⟨by omega, by omega⟩ ⟨by omega, by omega⟩ (fun c_19 => ?_) (fun c_19 => ?_)
      · skip
        refine R_iconst hX dX11_isRequest_26 ?_
        exact R_zret hX (by omega) dX11_isRequest_27 ⟨by omega, rfl⟩
      · skip
        refine R_iconst hX dX11_isRequest_22 ?_
        refine R_goto (tgt := 27) hX dX11_isRequest_23 (by decide) ?_
        exact R_zret hX (by omega) dX11_isRequest_27 ⟨by omega, rfl⟩
set_option maxRecDepth 100000 in
set_option maxHeartbeats 4000000 in
theorem c_lender {V : VX} {T : Shp} {F : Hp} {b u v K : Int} (hbq : b = 40) (hu : isSu u) (h : CI b u v K F) {l c : Int} (h1 : I32 l) (h2 : I32 c)  : Ct V yX11_lender cX11_lender 3 (some .int) 3 64 0 0 (SH T) [vr V 0, vi l, vi c] F (SH T) 1 (fun r F' => r = (if 0 ≤ l ∧ l < F u 0 ∧ F (u + 4) l = 0 ∧ 1 ≤ c ∧ c ≤ 99 then lndS b u F l c else -1) ∧ F' = F) := by
  refine Ct.of [some (vr V 0), some (vi l), some (vi c)] (by decide) (by simp [lg_sl, vi_cat, vl_cat, vr_cat]) rfl (by simp [asc, lv_args, vi_cat, vl_cat, vr_cat]) (fun X hV hX => ?_)
  subst hV
  have hb : isSt b := Or.inl hbq
  obtain ⟨hs, hd, hS, hK, hL, hB, hk1, hk2, hS1, hS2⟩ := id h
  obtain ⟨hU, hA, hQ, hLo, hBd⟩ := id hS
  have hN := hU.1
  have hCC := hU.2.2.2.2.1
  refine R_aload_0 hX dX11_lender_0 ?_
  refine R_iload_1 hX dX11_lender_1 ?_
  refine R_iload_2 hX dX11_lender_2 ?_
  refine R_v2i hX dX11_lender_3 li_X11_158 mk_X11_isRequest mi_X11_isRequest rfl o_0 (c_isRequest hbq hu h h1 h2) ⟨⟨by decide, by decide⟩, by decide, by decide, rfl, Nat.le_of_ble_eq_true rfl, rfl⟩ (fun x_3 F_3 h_3 => ?_)
  obtain ⟨h_3, e_3⟩ := h_3; replace e_3 := e_3.symm; subst e_3
  refine R_ifeq (tgt := 28) hX dX11_lender_6 (by decide) ⟨by omega, by omega⟩ (fun c_6 => ?_) (fun c_6 => ?_)
  · skip
    refine R_iconst hX dX11_lender_28 ?_
    exact R_iret hX dX11_lender_29 ⟨by first | (rw [if_pos (by omega)]; exact h_22) | rw [if_neg (by omega)], rfl⟩
  · skip
    refine R_aload_0 hX dX11_lender_9 ?_
    refine R_getq (v := b) hX dX11_lender_10 fl_X11_40 o_0 hbq.symm (by omega) ?_
    refine R_getq (v := b + 4) hX dX11_lender_13 fl_X11_143 (so_0 hb) rfl (by omega) ?_
    refine R_aload_0 hX dX11_lender_16 ?_
    refine R_getoE (v := u) hX dX11_lender_17 fl_X11_33 o_0 rfl hs ?_
    refine R_iload_1 hX dX11_lender_20 ?_
    refine R_iload_2 hX dX11_lender_21 ?_
    refine R_v3i hX dX11_lender_22 li_X11_162 mk_X0_findLender mi_X0_findLender rfl (so_4 hb) (c_findLender hu hN hb hU.2.1 (fun n q0 q1 => by have k1 := hA n q0 q1; have k2 := hU.2.2.2.2.2.2.1 n q0 q1; omega) hU.2.2.2.2.2.2.2.1 (by omega) (by omega)) ⟨⟨by decide, by decide⟩, by decide, by decide, rfl, Nat.le_of_ble_eq_true rfl, rfl⟩ (fun x_22 F_22 h_22 => ?_)
    obtain ⟨h_22, e_22⟩ := h_22; replace e_22 := e_22.symm; subst e_22
    refine R_goto (tgt := 29) hX dX11_lender_25 (by decide) ?_
    exact R_iret hX dX11_lender_29 ⟨by first | (rw [if_pos (by omega)]; exact h_22) | rw [if_neg (by omega)], rfl⟩
set_option maxRecDepth 100000 in
set_option maxHeartbeats 4000000 in
theorem c_blockingNode {V : VX} {T : Shp} {F : Hp} {b u v K : Int} (hbq : b = 40) (hu : isSu u) (h : CI b u v K F) {l c : Int} (h1 : I32 l) (h2 : I32 c)  : Ct V yX11_blockingNode cX11_blockingNode 3 (some .int) 3 64 0 0 (SH T) [vr V 0, vi l, vi c] F (SH T) 1 (fun r F' => r = (if 0 ≤ l ∧ l < F u 0 ∧ F (u + 4) l = 0 ∧ 1 ≤ c ∧ c ≤ 99 then blkS (F (b + 7)) (F (u + 2)) c 13 l else -1) ∧ F' = F) := by
  refine Ct.of [some (vr V 0), some (vi l), some (vi c)] (by decide) (by simp [lg_sl, vi_cat, vl_cat, vr_cat]) rfl (by simp [asc, lv_args, vi_cat, vl_cat, vr_cat]) (fun X hV hX => ?_)
  subst hV
  have hb : isSt b := Or.inl hbq
  obtain ⟨hs, hd, hS, hK, hL, hB, hk1, hk2, hS1, hS2⟩ := id h
  obtain ⟨hU, hA, hQ, hLo, hBd⟩ := id hS
  have hN := hU.1
  have hCC := hU.2.2.2.2.1
  refine R_aload_0 hX dX11_blockingNode_0 ?_
  refine R_iload_1 hX dX11_blockingNode_1 ?_
  refine R_iload_2 hX dX11_blockingNode_2 ?_
  refine R_v2i hX dX11_blockingNode_3 li_X11_158 mk_X11_isRequest mi_X11_isRequest rfl o_0 (c_isRequest hbq hu h h1 h2) ⟨⟨by decide, by decide⟩, by decide, by decide, rfl, Nat.le_of_ble_eq_true rfl, rfl⟩ (fun x_3 F_3 h_3 => ?_)
  obtain ⟨h_3, e_3⟩ := h_3; replace e_3 := e_3.symm; subst e_3
  refine R_ifeq (tgt := 28) hX dX11_blockingNode_6 (by decide) ⟨by omega, by omega⟩ (fun c_6 => ?_) (fun c_6 => ?_)
  · skip
    refine R_iconst hX dX11_blockingNode_28 ?_
    exact R_iret hX dX11_blockingNode_29 ⟨by first | (rw [if_pos (by omega)]; exact h_22) | rw [if_neg (by omega)], rfl⟩
  · skip
    refine R_aload_0 hX dX11_blockingNode_9 ?_
    refine R_getq (v := b) hX dX11_blockingNode_10 fl_X11_40 o_0 hbq.symm (by omega) ?_
    refine R_getq (v := b + 4) hX dX11_blockingNode_13 fl_X11_143 (so_0 hb) rfl (by omega) ?_
    refine R_aload_0 hX dX11_blockingNode_16 ?_
    refine R_getoE (v := u) hX dX11_blockingNode_17 fl_X11_33 o_0 rfl hs ?_
    refine R_iload_1 hX dX11_blockingNode_20 ?_
    refine R_iload_2 hX dX11_blockingNode_21 ?_
    refine R_v3i hX dX11_blockingNode_22 li_X11_186 mk_X0_findBlocking mi_X0_findBlocking rfl (so_4 hb) (c_findBlocking hu hN hb hU.2.1 (fun m q0 q1 => by have k1 := hA m q0 q1; have k2 := hU.2.2.2.2.2.2.1 m q0 q1; constructor <;> omega) (by omega) (by constructor <;> omega)) ⟨⟨by decide, by decide⟩, by decide, by decide, rfl, Nat.le_of_ble_eq_true rfl, rfl⟩ (fun x_22 F_22 h_22 => ?_)
    obtain ⟨h_22, e_22⟩ := h_22; replace e_22 := e_22.symm; subst e_22
    refine R_goto (tgt := 29) hX dX11_blockingNode_25 (by decide) ?_
    exact R_iret hX dX11_blockingNode_29 ⟨by first | (rw [if_pos (by omega)]; exact h_22) | rw [if_neg (by omega)], rfl⟩
set_option maxRecDepth 100000 in
set_option maxHeartbeats 4000000 in
theorem c_waitTime {V : VX} {T : Shp} {F : Hp} {b u v K : Int} (hbq : b = 40) (hu : isSu u) (h : CI b u v K F) {l c : Int} (h1 : I32 l) (h2 : I32 c)  : Ct V yX11_waitTime cX11_waitTime 3 (some .int) 3 64 0 0 (SH T) [vr V 0, vi l, vi c] F (SH T) 1 (fun r F' => r = (if 0 ≤ l ∧ l < F u 0 ∧ F (u + 4) l = 0 ∧ 1 ≤ c ∧ c ≤ 99 then wtA b u F l c else -1) ∧ F' = F) := by
  refine Ct.of [some (vr V 0), some (vi l), some (vi c)] (by decide) (by simp [lg_sl, vi_cat, vl_cat, vr_cat]) rfl (by simp [asc, lv_args, vi_cat, vl_cat, vr_cat]) (fun X hV hX => ?_)
  subst hV
  have hb : isSt b := Or.inl hbq
  obtain ⟨hs, hd, hS, hK, hL, hB, hk1, hk2, hS1, hS2⟩ := id h
  obtain ⟨hU, hA, hQ, hLo, hBd⟩ := id hS
  have hN := hU.1
  have hCC := hU.2.2.2.2.1
  refine R_aload_0 hX dX11_waitTime_0 ?_
  refine R_iload_1 hX dX11_waitTime_1 ?_
  refine R_iload_2 hX dX11_waitTime_2 ?_
  refine R_v2i hX dX11_waitTime_3 li_X11_158 mk_X11_isRequest mi_X11_isRequest rfl o_0 (c_isRequest hbq hu h h1 h2) ⟨⟨by decide, by decide⟩, by decide, by decide, rfl, Nat.le_of_ble_eq_true rfl, rfl⟩ (fun x_3 F_3 h_3 => ?_)
  obtain ⟨h_3, e_3⟩ := h_3; replace e_3 := e_3.symm; subst e_3
  refine R_ifeq (tgt := 25) hX dX11_waitTime_6 (by decide) ⟨by omega, by omega⟩ (fun c_6 => ?_) (fun c_6 => ?_)
  · skip
    refine R_iconst hX dX11_waitTime_25 ?_
    exact R_iret hX dX11_waitTime_26 ⟨by first | (rw [if_pos (by omega)]; exact h_19) | rw [if_neg (by omega)], rfl⟩
  · skip
    refine R_aload_0 hX dX11_waitTime_9 ?_
    refine R_getq (v := b) hX dX11_waitTime_10 fl_X11_40 o_0 hbq.symm (by omega) ?_
    refine R_aload_0 hX dX11_waitTime_13 ?_
    refine R_getoE (v := u) hX dX11_waitTime_14 fl_X11_33 o_0 rfl hs ?_
    refine R_iload_1 hX dX11_waitTime_17 ?_
    refine R_iload_2 hX dX11_waitTime_18 ?_
    refine R_v3i hX dX11_waitTime_19 li_X11_176 mk_X8_ticksUntilLender mi_X8_ticksUntilLender rfl (so_0 hb) (c_ticksUntilLender hu hb hU hA (by omega) (by omega)) ⟨⟨by decide, by decide⟩, by decide, by decide, rfl, Nat.le_of_ble_eq_true rfl, rfl⟩ (fun x_19 F_19 h_19 => ?_)
    obtain ⟨h_19, e_19⟩ := h_19; replace e_19 := e_19.symm; subst e_19
    refine R_goto (tgt := 26) hX dX11_waitTime_22 (by decide) ?_
    exact R_iret hX dX11_waitTime_26 ⟨by first | (rw [if_pos (by omega)]; exact h_19) | rw [if_neg (by omega)], rfl⟩
set_option maxRecDepth 100000 in
set_option maxHeartbeats 4000000 in
theorem c_refusal {V : VX} {T : Shp} {F : Hp} {b u v K : Int} (hbq : b = 40) (hu : isSu u) (h : CI b u v K F) {l c : Int} (h1 : I32 l) (h2 : I32 c)  : Ct V yX11_refusal cX11_refusal 3 (some .int) 3 64 0 0 (SH T) [vr V 0, vi l, vi c] F (SH T) 1 (fun r F' => r = (if 0 ≤ l ∧ l < F u 0 ∧ F (u + 4) l = 0 ∧ 1 ≤ c ∧ c ≤ 99 then (if blkS (F (b + 7)) (F (u + 2)) c 13 l ≠ -2 then 1 else if lndS b u F l c = -2 then 2 else 0) else -1) ∧ F' = F) := by
  refine Ct.of [some (vr V 0), some (vi l), some (vi c)] (by decide) (by simp [lg_sl, vi_cat, vl_cat, vr_cat]) rfl (by simp [asc, lv_args, vi_cat, vl_cat, vr_cat]) (fun X hV hX => ?_)
  subst hV
  have hb : isSt b := Or.inl hbq
  obtain ⟨hs, hd, hS, hK, hL, hB, hk1, hk2, hS1, hS2⟩ := id h
  obtain ⟨hU, hA, hQ, hLo, hBd⟩ := id hS
  have hN := hU.1
  have hCC := hU.2.2.2.2.1
  refine R_aload_0 hX dX11_refusal_0 ?_
  refine R_iload_1 hX dX11_refusal_1 ?_
  refine R_iload_2 hX dX11_refusal_2 ?_
  refine R_v2i hX dX11_refusal_3 li_X11_158 mk_X11_isRequest mi_X11_isRequest rfl o_0 (c_isRequest hbq hu h h1 h2) ⟨⟨by decide, by decide⟩, by decide, by decide, rfl, Nat.le_of_ble_eq_true rfl, rfl⟩ (fun x_3 F_3 h_3 => ?_)
  obtain ⟨h_3, e_3⟩ := h_3; replace e_3 := e_3.symm; subst e_3
  refine R_ifne (tgt := 11) hX dX11_refusal_6 (by decide) ⟨by omega, by omega⟩ (fun c_6 => ?_) (fun c_6 => ?_)
  · skip
    refine R_aload_0 hX dX11_refusal_11 ?_
    refine R_getq (v := b) hX dX11_refusal_12 fl_X11_40 o_0 hbq.symm (by omega) ?_
    refine R_getq (v := b + 4) hX dX11_refusal_15 fl_X11_143 (so_0 hb) rfl (by omega) ?_
    refine R_aload_0 hX dX11_refusal_18 ?_
    refine R_getoE (v := u) hX dX11_refusal_19 fl_X11_33 o_0 rfl hs ?_
    refine R_iload_1 hX dX11_refusal_22 ?_
    refine R_iload_2 hX dX11_refusal_23 ?_
    refine R_v3i hX dX11_refusal_24 li_X11_186 mk_X0_findBlocking mi_X0_findBlocking rfl (so_4 hb) (c_findBlocking hu hN hb hU.2.1 (fun m q0 q1 => by have k1 := hA m q0 q1; have k2 := hU.2.2.2.2.2.2.1 m q0 q1; constructor <;> omega) (by omega) (by constructor <;> omega)) ⟨⟨by decide, by decide⟩, by decide, by decide, rfl, Nat.le_of_ble_eq_true rfl, rfl⟩ (fun x_24 F_24 h_24 => ?_)
    obtain ⟨h_24, e_24⟩ := h_24; replace e_24 := e_24.symm; subst e_24
    have hbr := blkS_rng (hd := F (b + 7)) (c := c) hU.2.1 13 l (by omega)
    subst h_24
    refine R_bipush hX dX11_refusal_27 (by decide) ?_
    refine R_icmpeq (tgt := 34) hX dX11_refusal_29 (by decide) ⟨by omega, by omega⟩ ⟨by omega, by omega⟩ (fun c_29 => ?_) (fun c_29 => ?_)
    · skip
      refine R_aload_0 hX dX11_refusal_34 ?_
      refine R_getq (v := b) hX dX11_refusal_35 fl_X11_40 o_0 hbq.symm (by omega) ?_
      refine R_getq (v := b + 4) hX dX11_refusal_38 fl_X11_143 (so_0 hb) rfl (by omega) ?_
      refine R_aload_0 hX dX11_refusal_41 ?_
      refine R_getoE (v := u) hX dX11_refusal_42 fl_X11_33 o_0 rfl hs ?_
      refine R_iload_1 hX dX11_refusal_45 ?_
      refine R_iload_2 hX dX11_refusal_46 ?_
      refine R_v3i hX dX11_refusal_47 li_X11_162 mk_X0_findLender mi_X0_findLender rfl (so_4 hb) (c_findLender hu hN hb hU.2.1 (fun n q0 q1 => by have k1 := hA n q0 q1; have k2 := hU.2.2.2.2.2.2.1 n q0 q1; omega) hU.2.2.2.2.2.2.2.1 (by omega) (by omega)) ⟨⟨by decide, by decide⟩, by decide, by decide, rfl, Nat.le_of_ble_eq_true rfl, rfl⟩ (fun x_47 F_47 h_47 => ?_)
      obtain ⟨h_47, e_47⟩ := h_47; replace e_47 := e_47.symm; subst e_47
      replace h_47 : x_47 = lndS b u F l c := h_47
      subst h_47
      have hlr := lndS_rng (b := b) (c := c) hU.2.1 (show l < F u 0 by omega)
      refine R_bipush hX dX11_refusal_50 (by decide) ?_
      refine R_icmpne (tgt := 59) hX dX11_refusal_52 (by decide) ⟨by omega, by omega⟩ ⟨by omega, by omega⟩ (fun c_52 => ?_) (fun c_52 => ?_)
      · skip
        refine R_iconst hX dX11_refusal_59 ?_
        exact R_iret hX dX11_refusal_60 ⟨by first | (rw [if_pos (by omega)]; first | (rw [if_pos (by assumption)]; done) | (rw [if_neg (by omega)]; first | (rw [if_pos (by assumption)]; done) | (rw [if_neg (by assumption)]; done))) | rw [if_neg (by omega)], rfl⟩
      · skip
        refine R_iconst hX dX11_refusal_55 ?_
        refine R_goto (tgt := 60) hX dX11_refusal_56 (by decide) ?_
        exact R_iret hX dX11_refusal_60 ⟨by first | (rw [if_pos (by omega)]; first | (rw [if_pos (by assumption)]; done) | (rw [if_neg (by omega)]; first | (rw [if_pos (by assumption)]; done) | (rw [if_neg (by assumption)]; done))) | rw [if_neg (by omega)], rfl⟩
    · skip
      refine R_iconst hX dX11_refusal_32 ?_
      exact R_iret hX dX11_refusal_33 ⟨by first | (rw [if_pos (by omega)]; first | (rw [if_pos (by assumption)]; done) | (rw [if_neg (by omega)]; first | (rw [if_pos (by assumption)]; done) | (rw [if_neg (by assumption)]; done))) | rw [if_neg (by omega)], rfl⟩
  · skip
    refine R_iconst hX dX11_refusal_9 ?_
    exact R_iret hX dX11_refusal_10 ⟨by first | (rw [if_pos (by omega)]; first | (rw [if_pos (by assumption)]; done) | (rw [if_neg (by omega)]; first | (rw [if_pos (by assumption)]; done) | (rw [if_neg (by assumption)]; done))) | rw [if_neg (by omega)], rfl⟩
set_option maxRecDepth 100000 in
set_option maxHeartbeats 4000000 in
theorem c_greatestCost {V : VX} {T : Shp} {F : Hp} {b u v K : Int} (hbq : b = 40) (hu : isSu u) (h : CI b u v K F) {l : Int} (h1 : I32 l)  : Ct V yX11_greatestCost cX11_greatestCost 3 (some .int) 2 48 0 0 (SH T) [vr V 0, vi l] F (SH T) 1 (fun r F' => r = (if 0 ≤ l ∧ l < F u 0 ∧ F (u + 4) l = 0 then gcS (fun c => lndS b u F l c) 99 else -1) ∧ F' = F) := by
  refine Ct.of [some (vr V 0), some (vi l), none] (by decide) (by simp [lg_sl, vi_cat, vl_cat, vr_cat]) rfl (by simp [asc, lv_args, vi_cat, vl_cat, vr_cat]) (fun X hV hX => ?_)
  subst hV
  have hb : isSt b := Or.inl hbq
  obtain ⟨hs, hd, hS, hK, hL, hB, hk1, hk2, hS1, hS2⟩ := id h
  obtain ⟨hU, hA, hQ, hLo, hBd⟩ := id hS
  have hN := hU.1
  have hCC := hU.2.2.2.2.1
  refine R_aload_0 hX dX11_greatestCost_0 ?_
  refine R_getoE (v := u) hX dX11_greatestCost_1 fl_X11_33 o_0 rfl hs ?_
  refine R_iload_1 hX dX11_greatestCost_4 ?_
  refine R_v1i hX dX11_greatestCost_5 li_X11_105 mk_X7_hasLeaf mi_X7_hasLeaf rfl (to_0 hu) (c_hasLeaf hu hN hCC h1) ⟨⟨by decide, by decide⟩, by decide, by decide, rfl, Nat.le_of_ble_eq_true rfl, rfl⟩ (fun x_5 F_5 h_5 => ?_)
  obtain ⟨h_5, e_5⟩ := h_5; replace e_5 := e_5.symm; subst e_5
  refine R_ifne (tgt := 13) hX dX11_greatestCost_8 (by decide) ⟨by omega, by omega⟩ (fun c_8 => ?_) (fun c_8 => ?_)
  · skip
    refine R_bipush hX dX11_greatestCost_13 (by decide) ?_
    refine R_istore_2 hX c1_i dX11_greatestCost_15 ?_
    have lp_16 : ∀ (n : Nat) (c : Int), (0 ≤ c ∧ c ≤ 99) → (gcS (fun c => lndS b u F l c) c.toNat = gcS (fun c => lndS b u F l c) 99) → c.toNat < n → R X (SH T) 0 0 16 [some (vr (xV X) 0), some (vi l), some (vi c)] [] F (Zq X (SH T) 1 (fun r F' => r = (if 0 ≤ l ∧ l < F u 0 ∧ F (u + 4) l = 0 then gcS (fun c => lndS b u F l c) 99 else -1) ∧ F' = F) 0 0) := by
      intro n
      induction n with
      | zero => intro c iv16_0 iv16_1 hm; exact absurd hm (Nat.not_lt_zero _)
      | succ n ih_16 =>
        intro c iv16_0 iv16_1 hm_16
        refine R_iload_2 hX dX11_greatestCost_16 ?_
        refine R_ifle (tgt := 49) hX dX11_greatestCost_17 (by decide) ⟨by omega, by omega⟩ (fun c_17 => ?_) (fun c_17 => ?_)
        · skip
          refine R_iconst hX dX11_greatestCost_49 ?_
          exact R_iret hX dX11_greatestCost_50 ⟨by rw [if_pos (by omega), ← iv16_1, show c.toNat = 0 by omega]; rfl, rfl⟩
        · skip
          refine R_aload_0 hX dX11_greatestCost_20 ?_
          refine R_getq (v := b) hX dX11_greatestCost_21 fl_X11_40 o_0 hbq.symm (by omega) ?_
          refine R_getq (v := b + 4) hX dX11_greatestCost_24 fl_X11_143 (so_0 hb) rfl (by omega) ?_
          refine R_aload_0 hX dX11_greatestCost_27 ?_
          refine R_getoE (v := u) hX dX11_greatestCost_28 fl_X11_33 o_0 rfl hs ?_
          refine R_iload_1 hX dX11_greatestCost_31 ?_
          refine R_iload_2 hX dX11_greatestCost_32 ?_
          refine R_v3i hX dX11_greatestCost_33 li_X11_162 mk_X0_findLender mi_X0_findLender rfl (so_4 hb) (c_findLender hu hN hb hU.2.1 (fun n q0 q1 => by have k1 := hA n q0 q1; have k2 := hU.2.2.2.2.2.2.1 n q0 q1; omega) hU.2.2.2.2.2.2.2.1 (by omega) (by omega)) ⟨⟨by decide, by decide⟩, by decide, by decide, rfl, Nat.le_of_ble_eq_true rfl, rfl⟩ (fun x_33 F_33 h_33 => ?_)
          obtain ⟨h_33, e_33⟩ := h_33; replace e_33 := e_33.symm; subst e_33
          replace h_33 : x_33 = lndS b u F l c := h_33
          subst h_33
          have hlr := lndS_rng (b := b) (c := c) hU.2.1 (show l < F u 0 by omega)
          refine R_bipush hX dX11_greatestCost_36 (by decide) ?_
          refine R_icmpeq (tgt := 43) hX dX11_greatestCost_38 (by decide) ⟨by omega, by omega⟩ ⟨by omega, by omega⟩ (fun c_38 => ?_) (fun c_38 => ?_)
          · skip
            refine R_iinc_2 hX c1_i dX11_greatestCost_43 ?_
            refine R_goto (tgt := 16) hX dX11_greatestCost_46 (by decide) ?_
            exact ih_16 _ (by omega) (by rw [← iv16_1, show c.toNat = (c + -1).toNat + 1 by omega]; exact (gcS_no (f := fun c => lndS b u F l c) (by rw [show (((c + -1).toNat : Nat) : Int) + 1 = c by omega]; exact c_38)).symm) (by omega)
          · skip
            refine R_iload_2 hX dX11_greatestCost_41 ?_
            exact R_iret hX dX11_greatestCost_42 ⟨by rw [if_pos (by omega), ← iv16_1, show c.toNat = (c + -1).toNat + 1 by omega]; unfold gcS; rw [if_pos (by rw [show (((c + -1).toNat : Nat) : Int) + 1 = c by omega]; omega)]; omega, rfl⟩
    exact lp_16 100 _ (by omega) rfl (by omega)
  · skip
    refine R_iconst hX dX11_greatestCost_11 ?_
    exact R_iret hX dX11_greatestCost_12 ⟨(if_neg (by omega)).symm, rfl⟩
