theorem LoI.lg2 {b u : Int} {F : Hp} (h : LoI b F) (hQ : QuI b u F) : (0 ≤ F (b + 19) 0 ∧ F (b + 19) 0 ≤ 24) ∧ ∀ k : Int, 0 ≤ k → k < F (b + 19) 0 → (0 ≤ F (b + 23) k ∧ F (b + 23) k ≤ 5000) ∧ (0 ≤ F (b + 21) k ∧ F (b + 21) k ≤ 99) :=
  ⟨h.1, fun k h0 h1 => by have h2 := h.2 k h0 h1; have h3 := hQ.1; omega⟩
theorem inR_0 {x : Int} : inR 0 x ↔ 0 ≤ x ∧ x ≤ 99 := ⟨fun h => h.2, fun h => ⟨by decide, h⟩⟩
theorem inR_1 {x : Int} : inR 1 x ↔ 0 ≤ x ∧ x ≤ 999 := ⟨fun h => h.2, fun h => ⟨by decide, h⟩⟩
theorem inR_4 {x : Int} : inR 4 x ↔ 1 ≤ x ∧ x ≤ 9 := ⟨fun h => h.2, fun h => ⟨by decide, h⟩⟩
set_option maxRecDepth 100000 in
set_option maxHeartbeats 4000000 in
theorem c_nextLeaf {V : VX} {F : Hp} {b u v K : Int} (hbq : b = 40) (hu : isSu u) (h : CI b u v K F)  : Ct V yX11_nextLeaf cX11_nextLeaf 1 (some .int) 4 98 0 0 SH [vr V 0] F SH 1 (fun r F' => r = chlS b u F ∧ F' = F) := by
  refine Ct.of [some (vr V 0)] (by decide) (by simp [lg_sl, vi_cat, vl_cat, vr_cat]) rfl (by simp [asc, lv_args, vi_cat, vl_cat, vr_cat]) (fun X hV hX => ?_)
  subst hV
  have hb : isSt b := Or.inl hbq
  obtain ⟨hs, hd, hS, hK, hL, hB, hk1, hk2, hS1, hS2⟩ := id h
  obtain ⟨hU, hA, hQ, hLo, hBd⟩ := id hS
  have hN := hU.1
  have hCC := hU.2.2.2.2.1
  refine R_aload_0 hX dX11_nextLeaf_0 ?_
  refine R_getq (v := b) hX dX11_nextLeaf_1 fl_X11_40 o_0 hbq.symm (by omega) ?_
  refine R_aload_0 hX dX11_nextLeaf_4 ?_
  refine R_getoE (v := u) hX dX11_nextLeaf_5 fl_X11_33 o_0 rfl hs ?_
  refine R_v1i hX dX11_nextLeaf_8 li_X11_197 mk_X8_chooseLeaf mi_X8_chooseLeaf rfl (so_0 hb) (c_chooseLeaf hu hb hU hA hQ hBd (by omega)) ⟨⟨by decide, by decide⟩, by decide, by decide, rfl, Nat.le_of_ble_eq_true rfl, rfl⟩ (fun x_8 F_8 h_8 => ?_)
  obtain ⟨h_8, e_8⟩ := h_8; replace e_8 := e_8.symm; subst e_8
  exact R_iret hX dX11_nextLeaf_11 ⟨h_8, rfl⟩
set_option maxRecDepth 100000 in
set_option maxHeartbeats 4000000 in
theorem c_queuedCost {V : VX} {F : Hp} {b u v K : Int} (hbq : b = 40) (hu : isSu u) (h : CI b u v K F) {l : Int} (h1 : I32 l)  : Ct V yX11_queuedCost cX11_queuedCost 2 (some .int) 2 42 0 0 SH [vr V 0, vi l] F SH 1 (fun r F' => r = (if 0 ≤ l ∧ l < F u 0 ∧ F (u + 4) l = 0 then sumN (fun k => F (b + 11) (l * 16 + k)) (F (b + 9) l).toNat else -1) ∧ F' = F) := by
  refine Ct.of [some (vr V 0), some (vi l)] (by decide) (by simp [lg_sl, vi_cat, vl_cat, vr_cat]) rfl (by simp [asc, lv_args, vi_cat, vl_cat, vr_cat]) (fun X hV hX => ?_)
  subst hV
  have hb : isSt b := Or.inl hbq
  obtain ⟨hs, hd, hS, hK, hL, hB, hk1, hk2, hS1, hS2⟩ := id h
  obtain ⟨hU, hA, hQ, hLo, hBd⟩ := id hS
  have hN := hU.1
  have hCC := hU.2.2.2.2.1
  refine R_aload_0 hX dX11_queuedCost_0 ?_
  refine R_getoE (v := u) hX dX11_queuedCost_1 fl_X11_33 o_0 rfl hs ?_
  refine R_iload_1 hX dX11_queuedCost_4 ?_
  refine R_v1i hX dX11_queuedCost_5 li_X11_105 mk_X7_hasLeaf mi_X7_hasLeaf rfl (to_0 hu) (c_hasLeaf hu hN hCC h1) ⟨⟨by decide, by decide⟩, by decide, by decide, rfl, Nat.le_of_ble_eq_true rfl, rfl⟩ (fun x_5 F_5 h_5 => ?_)
  obtain ⟨h_5, e_5⟩ := h_5; replace e_5 := e_5.symm; subst e_5
  refine R_ifeq (tgt := 25) hX dX11_queuedCost_8 (by decide) ⟨by omega, by omega⟩ (fun c_8 => ?_) (fun c_8 => ?_)
  · skip
    refine R_iconst hX dX11_queuedCost_25 ?_
    exact R_iret hX dX11_queuedCost_26 ⟨by first | rw [if_pos (by omega), h_19] | rw [if_neg (by omega)], rfl⟩
  · skip
    refine R_aload_0 hX dX11_queuedCost_11 ?_
    refine R_getq (v := b) hX dX11_queuedCost_12 fl_X11_40 o_0 hbq.symm (by omega) ?_
    refine R_getq (v := b + 8) hX dX11_queuedCost_15 fl_X11_189 (so_0 hb) rfl (by omega) ?_
    refine R_iload_1 hX dX11_queuedCost_18 ?_
    refine R_v1i hX dX11_queuedCost_19 li_X11_201 mk_X4_costSum mi_X4_costSum rfl (so_8 hb) (c_costSum hb (by omega) (hQ.2.1 l (by omega) (by omega)).1) ⟨⟨by decide, by decide⟩, by decide, by decide, rfl, Nat.le_of_ble_eq_true rfl, rfl⟩ (fun x_19 F_19 h_19 => ?_)
    obtain ⟨h_19, e_19⟩ := h_19; replace e_19 := e_19.symm; subst e_19
    refine R_goto (tgt := 26) hX dX11_queuedCost_22 (by decide) ?_
    exact R_iret hX dX11_queuedCost_26 ⟨by first | rw [if_pos (by omega), h_19] | rw [if_neg (by omega)], rfl⟩
set_option maxRecDepth 100000 in
set_option maxHeartbeats 4000000 in
theorem c_queueEntry {V : VX} {F : Hp} {b u v K : Int} (hbq : b = 40) (hu : isSu u) (h : CI b u v K F) {l k : Int} (h1 : I32 l) (h2 : I32 k)  : Ct V yX11_queueEntry cX11_queueEntry 3 (some .int) 2 42 0 0 SH [vr V 0, vi l, vi k] F SH 1 (fun r F' => r = (if 0 ≤ l ∧ l < F u 0 ∧ F (u + 4) l = 0 ∧ 0 ≤ k then (if k < F (b + 9) l then l * 16 + k else -2) else -1) ∧ F' = F) := by
  refine Ct.of [some (vr V 0), some (vi l), some (vi k)] (by decide) (by simp [lg_sl, vi_cat, vl_cat, vr_cat]) rfl (by simp [asc, lv_args, vi_cat, vl_cat, vr_cat]) (fun X hV hX => ?_)
  subst hV
  have hb : isSt b := Or.inl hbq
  obtain ⟨hs, hd, hS, hK, hL, hB, hk1, hk2, hS1, hS2⟩ := id h
  obtain ⟨hU, hA, hQ, hLo, hBd⟩ := id hS
  have hN := hU.1
  have hCC := hU.2.2.2.2.1
  refine R_aload_0 hX dX11_queueEntry_0 ?_
  refine R_getoE (v := u) hX dX11_queueEntry_1 fl_X11_33 o_0 rfl hs ?_
  refine R_iload_1 hX dX11_queueEntry_4 ?_
  refine R_v1i hX dX11_queueEntry_5 li_X11_105 mk_X7_hasLeaf mi_X7_hasLeaf rfl (to_0 hu) (c_hasLeaf hu hN hCC h1) ⟨⟨by decide, by decide⟩, by decide, by decide, rfl, Nat.le_of_ble_eq_true rfl, rfl⟩ (fun x_5 F_5 h_5 => ?_)
  obtain ⟨h_5, e_5⟩ := h_5; replace e_5 := e_5.symm; subst e_5
  refine R_ifeq (tgt := 15) hX dX11_queueEntry_8 (by decide) ⟨by omega, by omega⟩ (fun c_8 => ?_) (fun c_8 => ?_)
  · skip
    refine R_iconst hX dX11_queueEntry_15 ?_
    exact R_iret hX dX11_queueEntry_16 ⟨by first | (rw [if_pos (by omega)]; first | (rw [if_pos (by omega)]; done) | (rw [if_neg (by omega)]; done)) | (rw [if_neg (by omega)]; done), rfl⟩
  · skip
    refine R_iload_2 hX dX11_queueEntry_11 ?_
    refine R_ifge (tgt := 17) hX dX11_queueEntry_12 (by decide) ⟨by omega, by omega⟩ (fun c_12 => ?_) (fun c_12 => ?_)
    · skip
      have hql := (hQ.2.1 l (by omega) (by omega)).1
      refine R_iload_2 hX dX11_queueEntry_17 ?_
      refine R_aload_0 hX dX11_queueEntry_18 ?_
      refine R_getq (v := b) hX dX11_queueEntry_19 fl_X11_40 o_0 hbq.symm (by omega) ?_
      refine R_getq (v := b + 8) hX dX11_queueEntry_22 fl_X11_189 (so_0 hb) rfl (by omega) ?_
      refine R_getq (v := b + 9) hX dX11_queueEntry_25 fl_X11_193 (so_8 hb) rfl (by omega) ?_
      refine R_iload_1 hX dX11_queueEntry_28 ?_
      refine R_iald hX dX11_queueEntry_29 (sa_9 hb) ⟨by omega, by omega⟩ ?_
      refine R_icmpge (tgt := 42) hX dX11_queueEntry_30 (by decide) ⟨by omega, by omega⟩ ⟨by omega, by omega⟩ (fun c_30 => ?_) (fun c_30 => ?_)
      · skip
        refine R_bipush hX dX11_queueEntry_42 (by decide) ?_
        exact R_iret hX dX11_queueEntry_44 ⟨by first | (rw [if_pos (by omega)]; first | (rw [if_pos (by omega)]; done) | (rw [if_neg (by omega)]; done)) | (rw [if_neg (by omega)]; done), rfl⟩
      · skip
        refine R_iload_1 hX dX11_queueEntry_33 ?_
        refine R_bipush hX dX11_queueEntry_34 (by decide) ?_
        refine R_imul hX dX11_queueEntry_36 ?_
        refine R_iload_2 hX dX11_queueEntry_37 ?_
        refine R_iadd hX dX11_queueEntry_38 ?_
        refine R_goto (tgt := 44) hX dX11_queueEntry_39 (by decide) ?_
        exact R_iret hX dX11_queueEntry_44 ⟨by first | (rw [if_pos (by omega)]; first | (rw [if_pos (by omega)]; done) | (rw [if_neg (by omega)]; done)) | (rw [if_neg (by omega)]; done), rfl⟩
    · skip
      refine R_iconst hX dX11_queueEntry_15 ?_
      exact R_iret hX dX11_queueEntry_16 ⟨by first | (rw [if_pos (by omega)]; first | (rw [if_pos (by omega)]; done) | (rw [if_neg (by omega)]; done)) | (rw [if_neg (by omega)]; done), rfl⟩
set_option maxRecDepth 100000 in
set_option maxHeartbeats 4000000 in
theorem c_requestAt {V : VX} {F : Hp} {b u v K : Int} (hbq : b = 40) (hu : isSu u) (h : CI b u v K F) {l k : Int} (h1 : I32 l) (h2 : I32 k)  : Ct V yX11_requestAt cX11_requestAt 4 (some .int) 3 64 0 0 SH [vr V 0, vi l, vi k] F SH 1 (fun r F' => r = (if 0 ≤ l ∧ l < F u 0 ∧ F (u + 4) l = 0 ∧ 0 ≤ k then (if k < F (b + 9) l then F (b + 10) (l * 16 + k) else -2) else -1) ∧ F' = F) := by
  refine Ct.of [some (vr V 0), some (vi l), some (vi k), none] (by decide) (by simp [lg_sl, vi_cat, vl_cat, vr_cat]) rfl (by simp [asc, lv_args, vi_cat, vl_cat, vr_cat]) (fun X hV hX => ?_)
  subst hV
  have hb : isSt b := Or.inl hbq
  obtain ⟨hs, hd, hS, hK, hL, hB, hk1, hk2, hS1, hS2⟩ := id h
  obtain ⟨hU, hA, hQ, hLo, hBd⟩ := id hS
  have hN := hU.1
  have hCC := hU.2.2.2.2.1
  refine R_aload_0 hX dX11_requestAt_0 ?_
  refine R_iload_1 hX dX11_requestAt_1 ?_
  refine R_iload_2 hX dX11_requestAt_2 ?_
  refine R_v2i hX dX11_requestAt_3 li_X11_205 mk_X11_queueEntry mi_X11_queueEntry rfl o_0 (c_queueEntry hbq hu h h1 h2) ⟨⟨by decide, by decide⟩, by decide, by decide, rfl, Nat.le_of_ble_eq_true rfl, rfl⟩ (fun x_3 F_3 h_3 => ?_)
  obtain ⟨h_3, e_3⟩ := h_3; replace e_3 := e_3.symm; subst e_3
  have hql : 0 ≤ l ∧ l < F u 0 → 0 ≤ F (b + 9) l ∧ F (b + 9) l ≤ 16 := fun z => (hQ.2.1 l z.1 z.2).1
  have hqe : (¬ (0 ≤ l ∧ l < F u 0 ∧ F (u + 4) l = 0 ∧ 0 ≤ k) ∧ x_3 = -1) ∨ ((0 ≤ l ∧ l < F u 0 ∧ F (u + 4) l = 0 ∧ 0 ≤ k) ∧ ¬ k < F (b + 9) l ∧ x_3 = -2) ∨ ((0 ≤ l ∧ l < F u 0 ∧ F (u + 4) l = 0 ∧ 0 ≤ k) ∧ k < F (b + 9) l ∧ x_3 = l * 16 + k) := by
    rw [h_3]
    by_cases q : 0 ≤ l ∧ l < F u 0 ∧ F (u + 4) l = 0 ∧ 0 ≤ k
    · rw [if_pos q]
      by_cases q2 : k < F (b + 9) l
      · rw [if_pos q2]; exact Or.inr (Or.inr ⟨q, q2, rfl⟩)
      · rw [if_neg q2]; exact Or.inr (Or.inl ⟨q, q2, rfl⟩)
    · rw [if_neg q]; exact Or.inl ⟨q, rfl⟩
  clear h_3
  refine R_istore_3 hX c1_i dX11_requestAt_6 ?_
  refine R_iload_3 hX dX11_requestAt_7 ?_
  refine R_ifge (tgt := 15) hX dX11_requestAt_8 (by decide) ⟨by omega, by omega⟩ (fun c_8 => ?_) (fun c_8 => ?_)
  · skip
    have hx : x_3 = l * 16 + k := by omega
    subst hx
    refine R_aload_0 hX dX11_requestAt_15 ?_
    refine R_getq (v := b) hX dX11_requestAt_16 fl_X11_40 o_0 hbq.symm (by omega) ?_
    refine R_getq (v := b + 8) hX dX11_requestAt_19 fl_X11_189 (so_0 hb) rfl (by omega) ?_
    refine R_getq (v := b + 10) hX dX11_requestAt_22 fl_X11_208 (so_8 hb) rfl (by omega) ?_
    refine R_iload_3 hX dX11_requestAt_25 ?_
    refine R_iald hX dX11_requestAt_26 (sa_10 hb) ⟨by omega, by omega⟩ ?_
    exact R_iret hX dX11_requestAt_27 ⟨by first | (rw [if_pos (by omega), if_pos (by omega)]; done) | (rcases hqe with ⟨q, z⟩ | ⟨q, q2, z⟩ | ⟨q, q2, z⟩; (rw [if_neg q]; exact z); (rw [if_pos q, if_neg q2]; exact z); omega), rfl⟩
  · skip
    refine R_iload_3 hX dX11_requestAt_11 ?_
    refine R_goto (tgt := 27) hX dX11_requestAt_12 (by decide) ?_
    exact R_iret hX dX11_requestAt_27 ⟨by first | (rw [if_pos (by omega), if_pos (by omega)]; done) | (rcases hqe with ⟨q, z⟩ | ⟨q, q2, z⟩ | ⟨q, q2, z⟩; (rw [if_neg q]; exact z); (rw [if_pos q, if_neg q2]; exact z); omega), rfl⟩
set_option maxRecDepth 100000 in
set_option maxHeartbeats 4000000 in
theorem c_costAt {V : VX} {F : Hp} {b u v K : Int} (hbq : b = 40) (hu : isSu u) (h : CI b u v K F) {l k : Int} (h1 : I32 l) (h2 : I32 k)  : Ct V yX11_costAt cX11_costAt 4 (some .int) 3 64 0 0 SH [vr V 0, vi l, vi k] F SH 1 (fun r F' => r = (if 0 ≤ l ∧ l < F u 0 ∧ F (u + 4) l = 0 ∧ 0 ≤ k then (if k < F (b + 9) l then F (b + 11) (l * 16 + k) else -2) else -1) ∧ F' = F) := by
  refine Ct.of [some (vr V 0), some (vi l), some (vi k), none] (by decide) (by simp [lg_sl, vi_cat, vl_cat, vr_cat]) rfl (by simp [asc, lv_args, vi_cat, vl_cat, vr_cat]) (fun X hV hX => ?_)
  subst hV
  have hb : isSt b := Or.inl hbq
  obtain ⟨hs, hd, hS, hK, hL, hB, hk1, hk2, hS1, hS2⟩ := id h
  obtain ⟨hU, hA, hQ, hLo, hBd⟩ := id hS
  have hN := hU.1
  have hCC := hU.2.2.2.2.1
  refine R_aload_0 hX dX11_costAt_0 ?_
  refine R_iload_1 hX dX11_costAt_1 ?_
  refine R_iload_2 hX dX11_costAt_2 ?_
  refine R_v2i hX dX11_costAt_3 li_X11_205 mk_X11_queueEntry mi_X11_queueEntry rfl o_0 (c_queueEntry hbq hu h h1 h2) ⟨⟨by decide, by decide⟩, by decide, by decide, rfl, Nat.le_of_ble_eq_true rfl, rfl⟩ (fun x_3 F_3 h_3 => ?_)
  obtain ⟨h_3, e_3⟩ := h_3; replace e_3 := e_3.symm; subst e_3
  have hql : 0 ≤ l ∧ l < F u 0 → 0 ≤ F (b + 9) l ∧ F (b + 9) l ≤ 16 := fun z => (hQ.2.1 l z.1 z.2).1
  have hqe : (¬ (0 ≤ l ∧ l < F u 0 ∧ F (u + 4) l = 0 ∧ 0 ≤ k) ∧ x_3 = -1) ∨ ((0 ≤ l ∧ l < F u 0 ∧ F (u + 4) l = 0 ∧ 0 ≤ k) ∧ ¬ k < F (b + 9) l ∧ x_3 = -2) ∨ ((0 ≤ l ∧ l < F u 0 ∧ F (u + 4) l = 0 ∧ 0 ≤ k) ∧ k < F (b + 9) l ∧ x_3 = l * 16 + k) := by
    rw [h_3]
    by_cases q : 0 ≤ l ∧ l < F u 0 ∧ F (u + 4) l = 0 ∧ 0 ≤ k
    · rw [if_pos q]
      by_cases q2 : k < F (b + 9) l
      · rw [if_pos q2]; exact Or.inr (Or.inr ⟨q, q2, rfl⟩)
      · rw [if_neg q2]; exact Or.inr (Or.inl ⟨q, q2, rfl⟩)
    · rw [if_neg q]; exact Or.inl ⟨q, rfl⟩
  clear h_3
  refine R_istore_3 hX c1_i dX11_costAt_6 ?_
  refine R_iload_3 hX dX11_costAt_7 ?_
  refine R_ifge (tgt := 15) hX dX11_costAt_8 (by decide) ⟨by omega, by omega⟩ (fun c_8 => ?_) (fun c_8 => ?_)
  · skip
    have hx : x_3 = l * 16 + k := by omega
    subst hx
    refine R_aload_0 hX dX11_costAt_15 ?_
    refine R_getq (v := b) hX dX11_costAt_16 fl_X11_40 o_0 hbq.symm (by omega) ?_
    refine R_getq (v := b + 8) hX dX11_costAt_19 fl_X11_189 (so_0 hb) rfl (by omega) ?_
    refine R_getq (v := b + 11) hX dX11_costAt_22 fl_X11_211 (so_8 hb) rfl (by omega) ?_
    refine R_iload_3 hX dX11_costAt_25 ?_
    refine R_iald hX dX11_costAt_26 (sa_11 hb) ⟨by omega, by omega⟩ ?_
    exact R_iret hX dX11_costAt_27 ⟨by first | (rw [if_pos (by omega), if_pos (by omega)]; done) | (rcases hqe with ⟨q, z⟩ | ⟨q, q2, z⟩ | ⟨q, q2, z⟩; (rw [if_neg q]; exact z); (rw [if_pos q, if_neg q2]; exact z); omega), rfl⟩
  · skip
    refine R_iload_3 hX dX11_costAt_11 ?_
    refine R_goto (tgt := 27) hX dX11_costAt_12 (by decide) ?_
    exact R_iret hX dX11_costAt_27 ⟨by first | (rw [if_pos (by omega), if_pos (by omega)]; done) | (rcases hqe with ⟨q, z⟩ | ⟨q, q2, z⟩ | ⟨q, q2, z⟩; (rw [if_neg q]; exact z); (rw [if_pos q, if_neg q2]; exact z); omega), rfl⟩
set_option maxRecDepth 100000 in
set_option maxHeartbeats 4000000 in
theorem c_ageAt {V : VX} {F : Hp} {b u v K : Int} (hbq : b = 40) (hu : isSu u) (h : CI b u v K F) {l k : Int} (h1 : I32 l) (h2 : I32 k)  : Ct V yX11_ageAt cX11_ageAt 4 (some .int) 3 64 0 0 SH [vr V 0, vi l, vi k] F SH 1 (fun r F' => r = (if 0 ≤ l ∧ l < F u 0 ∧ F (u + 4) l = 0 ∧ 0 ≤ k then (if k < F (b + 9) l then F b 1 - F (b + 12) (l * 16 + k) else -2) else -1) ∧ F' = F) := by
  refine Ct.of [some (vr V 0), some (vi l), some (vi k), none] (by decide) (by simp [lg_sl, vi_cat, vl_cat, vr_cat]) rfl (by simp [asc, lv_args, vi_cat, vl_cat, vr_cat]) (fun X hV hX => ?_)
  subst hV
  have hb : isSt b := Or.inl hbq
  obtain ⟨hs, hd, hS, hK, hL, hB, hk1, hk2, hS1, hS2⟩ := id h
  obtain ⟨hU, hA, hQ, hLo, hBd⟩ := id hS
  have hN := hU.1
  have hCC := hU.2.2.2.2.1
  refine R_aload_0 hX dX11_ageAt_0 ?_
  refine R_iload_1 hX dX11_ageAt_1 ?_
  refine R_iload_2 hX dX11_ageAt_2 ?_
  refine R_v2i hX dX11_ageAt_3 li_X11_205 mk_X11_queueEntry mi_X11_queueEntry rfl o_0 (c_queueEntry hbq hu h h1 h2) ⟨⟨by decide, by decide⟩, by decide, by decide, rfl, Nat.le_of_ble_eq_true rfl, rfl⟩ (fun x_3 F_3 h_3 => ?_)
  obtain ⟨h_3, e_3⟩ := h_3; replace e_3 := e_3.symm; subst e_3
  have hql : 0 ≤ l ∧ l < F u 0 → 0 ≤ F (b + 9) l ∧ F (b + 9) l ≤ 16 := fun z => (hQ.2.1 l z.1 z.2).1
  have hqe : (¬ (0 ≤ l ∧ l < F u 0 ∧ F (u + 4) l = 0 ∧ 0 ≤ k) ∧ x_3 = -1) ∨ ((0 ≤ l ∧ l < F u 0 ∧ F (u + 4) l = 0 ∧ 0 ≤ k) ∧ ¬ k < F (b + 9) l ∧ x_3 = -2) ∨ ((0 ≤ l ∧ l < F u 0 ∧ F (u + 4) l = 0 ∧ 0 ≤ k) ∧ k < F (b + 9) l ∧ x_3 = l * 16 + k) := by
    rw [h_3]
    by_cases q : 0 ≤ l ∧ l < F u 0 ∧ F (u + 4) l = 0 ∧ 0 ≤ k
    · rw [if_pos q]
      by_cases q2 : k < F (b + 9) l
      · rw [if_pos q2]; exact Or.inr (Or.inr ⟨q, q2, rfl⟩)
      · rw [if_neg q2]; exact Or.inr (Or.inl ⟨q, q2, rfl⟩)
    · rw [if_neg q]; exact Or.inl ⟨q, rfl⟩
  clear h_3
  refine R_istore_3 hX c1_i dX11_ageAt_6 ?_
  refine R_iload_3 hX dX11_ageAt_7 ?_
  refine R_ifge (tgt := 15) hX dX11_ageAt_8 (by decide) ⟨by omega, by omega⟩ (fun c_8 => ?_) (fun c_8 => ?_)
  · skip
    have hx : x_3 = l * 16 + k := by omega
    subst hx
    refine R_aload_0 hX dX11_ageAt_15 ?_
    refine R_getq (v := b) hX dX11_ageAt_16 fl_X11_40 o_0 hbq.symm (by omega) ?_
    refine R_geti hX dX11_ageAt_19 fl_X11_140 (so_0 hb) rfl ?_
    refine R_aload_0 hX dX11_ageAt_22 ?_
    refine R_getq (v := b) hX dX11_ageAt_23 fl_X11_40 o_0 hbq.symm (by omega) ?_
    refine R_getq (v := b + 8) hX dX11_ageAt_26 fl_X11_189 (so_0 hb) rfl (by omega) ?_
    refine R_getq (v := b + 12) hX dX11_ageAt_29 fl_X11_214 (so_8 hb) rfl (by omega) ?_
    refine R_iload_3 hX dX11_ageAt_32 ?_
    refine R_iald hX dX11_ageAt_33 (sa_12 hb) ⟨by omega, by omega⟩ ?_
    refine R_isub hX dX11_ageAt_34 ?_
    exact R_iret hX dX11_ageAt_35 ⟨by first | (rw [if_pos (by omega), if_pos (by omega)]; done) | (rcases hqe with ⟨q, z⟩ | ⟨q, q2, z⟩ | ⟨q, q2, z⟩; (rw [if_neg q]; exact z); (rw [if_pos q, if_neg q2]; exact z); omega), rfl⟩
  · skip
    refine R_iload_3 hX dX11_ageAt_11 ?_
    refine R_goto (tgt := 35) hX dX11_ageAt_12 (by decide) ?_
    exact R_iret hX dX11_ageAt_35 ⟨by first | (rw [if_pos (by omega), if_pos (by omega)]; done) | (rcases hqe with ⟨q, z⟩ | ⟨q, q2, z⟩ | ⟨q, q2, z⟩; (rw [if_neg q]; exact z); (rw [if_pos q, if_neg q2]; exact z); omega), rfl⟩
set_option maxRecDepth 100000 in
set_option maxHeartbeats 4000000 in
theorem c_canAdvance {V : VX} {F : Hp} {b u v K : Int} (hbq : b = 40) (hu : isSu u) (h : CI b u v K F) {t : Int} (h1 : I32 t)  : Ct V yX11_canAdvance cX11_canAdvance 2 (some .boolean) 0 0 0 0 SH [vr V 0, vi t] F SH 1 (fun r F' => ((r = 1 ∧ (0 < F u 0 ∧ 1 ≤ t ∧ t ≤ 500 ∧ F b 1 + t ≤ 5000)) ∨ (r = 0 ∧ ¬ (0 < F u 0 ∧ 1 ≤ t ∧ t ≤ 500 ∧ F b 1 + t ≤ 5000))) ∧ F' = F) := by
  refine Ct.of [some (vr V 0), some (vi t)] (by decide) (by simp [lg_sl, vi_cat, vl_cat, vr_cat]) rfl (by simp [asc, lv_args, vi_cat, vl_cat, vr_cat]) (fun X hV hX => ?_)
  subst hV
  have hb : isSt b := Or.inl hbq
  obtain ⟨hs, hd, hS, hK, hL, hB, hk1, hk2, hS1, hS2⟩ := id h
  obtain ⟨hU, hA, hQ, hLo, hBd⟩ := id hS
  have hN := hU.1
  have hCC := hU.2.2.2.2.1
  have ht0 := hQ.1
  refine R_aload_0 hX dX11_canAdvance_0 ?_
  refine R_getoE (v := u) hX dX11_canAdvance_1 fl_X11_33 o_0 rfl hs ?_
  refine R_geti hX dX11_canAdvance_4 fl_X11_79 (to_0 hu) rfl ?_
  refine R_ifle (tgt := 41) hX dX11_canAdvance_7 (by decide) ⟨by omega, by omega⟩ (fun c_7 => ?_) (fun c_7 => ?_)
  · skip
    refine R_iconst hX dX11_canAdvance_41 ?_
    exact R_zret hX (by omega) dX11_canAdvance_42 ⟨by omega, rfl⟩
  · skip
    refine R_iload_1 hX dX11_canAdvance_10 ?_
    refine R_iconst hX dX11_canAdvance_11 ?_
    refine R_icmplt (tgt := 41) hX dX11_canAdvance_12 (by decide) ⟨by omega, by omega⟩ ⟨by omega, by omega⟩ (fun c_12 => ?_) (fun c_12 => ?_)
    · skip
      refine R_iconst hX dX11_canAdvance_41 ?_
      exact R_zret hX (by omega) dX11_canAdvance_42 ⟨by omega, rfl⟩
    · skip
      refine R_iload_1 hX dX11_canAdvance_15 ?_
      refine R_sipush hX dX11_canAdvance_16 (by decide) ?_
      refine R_icmpgt (tgt := 41) hX dX11_canAdvance_19 (by decide) ⟨by omega, by omega⟩ ⟨by omega, by omega⟩ (fun c_19 => ?_) (fun c_19 => ?_)
      · skip
        refine R_iconst hX dX11_canAdvance_41 ?_
        exact R_zret hX (by omega) dX11_canAdvance_42 ⟨by omega, rfl⟩
      · skip
        refine R_aload_0 hX dX11_canAdvance_22 ?_
        refine R_getq (v := b) hX dX11_canAdvance_23 fl_X11_40 o_0 hbq.symm (by omega) ?_
        refine R_geti hX dX11_canAdvance_26 fl_X11_140 (so_0 hb) rfl ?_
        refine R_iload_1 hX dX11_canAdvance_29 ?_
        refine R_iadd hX dX11_canAdvance_30 ?_
        refine R_sipush hX dX11_canAdvance_31 (by decide) ?_
        refine R_icmpgt (tgt := 41) hX dX11_canAdvance_34 (by decide) ⟨by omega, by omega⟩ ⟨by omega, by omega⟩ (fun c_34 => ?_) (fun c_34 => ?_)
        · skip
          refine R_iconst hX dX11_canAdvance_41 ?_
          exact R_zret hX (by omega) dX11_canAdvance_42 ⟨by omega, rfl⟩
        · skip
          refine R_iconst hX dX11_canAdvance_37 ?_
          refine R_goto (tgt := 42) hX dX11_canAdvance_38 (by decide) ?_
          exact R_zret hX (by omega) dX11_canAdvance_42 ⟨by omega, rfl⟩
set_option maxRecDepth 100000 in
set_option maxHeartbeats 4000000 in
theorem c_advance {V : VX} {F : Hp} {b u v K : Int} (hbq : b = 40) (hu : isSu u) (h : CI b u v K F) {t : Int} (h1 : I32 t)  : Ct V yX11_advance cX11_advance 2 (some .int) 7 199 0 0 SH [vr V 0, vi t] F SH 1 (fun r F' => (¬ (0 < F u 0 ∧ 1 ≤ t ∧ t ≤ 500 ∧ F b 1 + t ≤ 5000) ∧ r = -1 ∧ F' = F) ∨ ((0 < F u 0 ∧ 1 ≤ t ∧ t ≤ 500 ∧ F b 1 + t ≤ 5000) ∧ r = (tksS b u t.toNat F).1 ∧ F' = (tksS b u t.toNat F).2)) := by
  refine Ct.of [some (vr V 0), some (vi t)] (by decide) (by simp [lg_sl, vi_cat, vl_cat, vr_cat]) rfl (by simp [asc, lv_args, vi_cat, vl_cat, vr_cat]) (fun X hV hX => ?_)
  subst hV
  have hb : isSt b := Or.inl hbq
  obtain ⟨hs, hd, hS, hK, hL, hB, hk1, hk2, hS1, hS2⟩ := id h
  obtain ⟨hU, hA, hQ, hLo, hBd⟩ := id hS
  have hN := hU.1
  have hCC := hU.2.2.2.2.1
  refine R_aload_0 hX dX11_advance_0 ?_
  refine R_iload_1 hX dX11_advance_1 ?_
  refine R_v1i hX dX11_advance_2 li_X11_217 mk_X11_canAdvance mi_X11_canAdvance rfl o_0 (c_canAdvance hbq hu h h1) ⟨⟨by decide, by decide⟩, by decide, by decide, rfl, Nat.le_of_ble_eq_true rfl, rfl⟩ (fun x_2 F_2 h_2 => ?_)
  obtain ⟨h_2, e_2⟩ := h_2; replace e_2 := e_2.symm; subst e_2
  refine R_ifeq (tgt := 23) hX dX11_advance_5 (by decide) ⟨by omega, by omega⟩ (fun c_5 => ?_) (fun c_5 => ?_)
  · skip
    refine R_iconst hX dX11_advance_23 ?_
    exact R_iret hX dX11_advance_24 (by first | exact Or.inl ⟨by omega, rfl, rfl⟩ | exact Or.inr ⟨by omega, h_17.1, h_17.2⟩)
  · skip
    refine R_aload_0 hX dX11_advance_8 ?_
    refine R_getq (v := b) hX dX11_advance_9 fl_X11_40 o_0 hbq.symm (by omega) ?_
    refine R_aload_0 hX dX11_advance_12 ?_
    refine R_getoE (v := u) hX dX11_advance_13 fl_X11_33 o_0 rfl hs ?_
    refine R_iload_1 hX dX11_advance_16 ?_
    refine R_v2i hX dX11_advance_17 li_X11_220 mk_X8_makeTicks mi_X8_makeTicks rfl (so_0 hb) (c_makeTicks hu hb hS hK (by omega) (by omega)) ⟨⟨by decide, by decide⟩, by decide, by decide, rfl, Nat.le_of_ble_eq_true rfl, rfl⟩ (fun x_17 F_17 h_17 => ?_)
    refine R_goto (tgt := 24) hX dX11_advance_20 (by decide) ?_
    exact R_iret hX dX11_advance_24 (by first | exact Or.inl ⟨by omega, rfl, rfl⟩ | exact Or.inr ⟨by omega, h_17.1, h_17.2⟩)
set_option maxRecDepth 100000 in
set_option maxHeartbeats 4000000 in
theorem c_forecast {V : VX} {F : Hp} {b u v K : Int} (hbq : b = 40) (hu : isSu u) (h : CI b u v K F) {e : Int} (heq : e = 64) {l t : Int} (h1 : I32 l) (h2 : I32 t)  : Ct V yX11_forecast cX11_forecast 3 (some .int) 7 199 0 0 SH [vr V 0, vi l, vi t] F SH 1 (fun r F' => (¬ ((0 ≤ l ∧ l < F u 0 ∧ F (u + 4) l = 0) ∧ (0 < F u 0 ∧ 1 ≤ t ∧ t ≤ 500 ∧ F b 1 + t ≤ 5000)) ∧ r = -1 ∧ F' = F) ∨ (((0 ≤ l ∧ l < F u 0 ∧ F (u + 4) l = 0) ∧ (0 < F u 0 ∧ 1 ≤ t ∧ t ≤ 500 ∧ F b 1 + t ≤ 5000)) ∧ r = (tksS e u t.toNat (cpT b e F)).2 (e + 15) l - F (b + 15) l ∧ F' = (tksS e u t.toNat (cpT b e F)).2)) := by
  refine Ct.of [some (vr V 0), some (vi l), some (vi t)] (by decide) (by simp [lg_sl, vi_cat, vl_cat, vr_cat]) rfl (by simp [asc, lv_args, vi_cat, vl_cat, vr_cat]) (fun X hV hX => ?_)
  subst hV
  have hb : isSt b := Or.inl hbq
  obtain ⟨hs, hd, hS, hK, hL, hB, hk1, hk2, hS1, hS2⟩ := id h
  obtain ⟨hU, hA, hQ, hLo, hBd⟩ := id hS
  have hN := hU.1
  have hCC := hU.2.2.2.2.1
  have he : isSt e := Or.inr (Or.inl heq)
  refine R_aload_0 hX dX11_forecast_0 ?_
  refine R_getoE (v := u) hX dX11_forecast_1 fl_X11_33 o_0 rfl hs ?_
  refine R_iload_1 hX dX11_forecast_4 ?_
  refine R_v1i hX dX11_forecast_5 li_X11_105 mk_X7_hasLeaf mi_X7_hasLeaf rfl (to_0 hu) (c_hasLeaf hu hN hCC h1) ⟨⟨by decide, by decide⟩, by decide, by decide, rfl, Nat.le_of_ble_eq_true rfl, rfl⟩ (fun x_5 F_5 h_5 => ?_)
  obtain ⟨h_5, e_5⟩ := h_5; replace e_5 := e_5.symm; subst e_5
  refine R_ifeq (tgt := 19) hX dX11_forecast_8 (by decide) ⟨by omega, by omega⟩ (fun c_8 => ?_) (fun c_8 => ?_)
  · skip
    refine R_iconst hX dX11_forecast_19 ?_
    exact R_iret hX dX11_forecast_20 (Or.inl ⟨by omega, rfl, rfl⟩)
  · skip
    refine R_aload_0 hX dX11_forecast_11 ?_
    refine R_iload_2 hX dX11_forecast_12 ?_
    refine R_v1i hX dX11_forecast_13 li_X11_217 mk_X11_canAdvance mi_X11_canAdvance rfl o_0 (c_canAdvance hbq hu h h2) ⟨⟨by decide, by decide⟩, by decide, by decide, rfl, Nat.le_of_ble_eq_true rfl, rfl⟩ (fun x_13 F_13 h_13 => ?_)
    obtain ⟨h_13, e_13⟩ := h_13; replace e_13 := e_13.symm; subst e_13
    refine R_ifne (tgt := 21) hX dX11_forecast_16 (by decide) ⟨by omega, by omega⟩ (fun c_16 => ?_) (fun c_16 => ?_)
    · skip
      refine R_aload_0 hX dX11_forecast_21 ?_
      refine R_getq (v := e) hX dX11_forecast_22 fl_X11_44 o_0 heq.symm (by omega) ?_
      refine R_aload_0 hX dX11_forecast_25 ?_
      refine R_getq (v := b) hX dX11_forecast_26 fl_X11_40 o_0 hbq.symm (by omega) ?_
      refine R_v1v hX dX11_forecast_29 li_X11_223 mk_X8_copyFrom mi_X8_copyFrom rfl (so_0 he) (c_stCopy he hb) ⟨⟨by decide, by decide⟩, by decide, by decide, rfl, Nat.le_of_ble_eq_true rfl, rfl⟩ (fun x_29 F_29 h_29 => ?_)
      subst h_29
      refine R_aload_0 hX dX11_forecast_32 ?_
      refine R_getq (v := e) hX dX11_forecast_33 fl_X11_44 o_0 heq.symm (by omega) ?_
      refine R_aload_0 hX dX11_forecast_36 ?_
      refine R_getoE (v := u) hX dX11_forecast_37 fl_X11_33 o_0 rfl (by rw [cpT_r (by omega)]; exact hs) ?_
      refine R_iload_2 hX dX11_forecast_40 ?_
      refine R_v2i hX dX11_forecast_41 li_X11_220 mk_X8_makeTicks mi_X8_makeTicks rfl (so_0 he) (c_makeTicks hu he (hS.cp (by omega) (dj_of hu he)) hK (by omega) (by rw [(cpT_f (F := F) (e := b) (b := e) (by omega)).1]; omega)) ⟨⟨by decide, by decide⟩, by decide, by decide, rfl, Nat.le_of_ble_eq_true rfl, rfl⟩ (fun x_41 F_41 h_41 => ?_)
      obtain ⟨hx, hF⟩ := h_41
      subst hF
      refine R_pop hX c1_i dX11_forecast_44 ?_
      refine R_aload_0 hX dX11_forecast_45 ?_
      refine R_getq (v := e) hX dX11_forecast_46 fl_X11_44 o_0 heq.symm (by omega) ?_
      refine R_getq (v := e + 13) hX dX11_forecast_49 fl_X11_226 (so_0 he) rfl (by omega) ?_
      refine R_getq (v := e + 15) hX dX11_forecast_52 fl_X11_230 (so_13 he) rfl (by omega) ?_
      refine R_iload_1 hX dX11_forecast_55 ?_
      refine R_iald hX dX11_forecast_56 (sa_15 he) ⟨by omega, by omega⟩ ?_
      refine R_aload_0 hX dX11_forecast_57 ?_
      refine R_getq (v := b) hX dX11_forecast_58 fl_X11_40 o_0 hbq.symm (by omega) ?_
      refine R_getq (v := b + 13) hX dX11_forecast_61 fl_X11_226 (so_0 hb) rfl (by omega) ?_
      refine R_getq (v := b + 15) hX dX11_forecast_64 fl_X11_230 (so_13 hb) rfl (by omega) ?_
      refine R_iload_1 hX dX11_forecast_67 ?_
      refine R_iald hX dX11_forecast_68 (sa_15 hb) ⟨by omega, by omega⟩ ?_
      refine R_isub hX dX11_forecast_69 ?_
      exact R_iret hX dX11_forecast_70 (Or.inr ⟨by omega, (by rw [tksS_r (a := b + 15) (by omega), cpT_r (a := b + 15) (by omega)]), rfl⟩)
    · skip
      refine R_iconst hX dX11_forecast_19 ?_
      exact R_iret hX dX11_forecast_20 (Or.inl ⟨by omega, rfl, rfl⟩)
set_option maxRecDepth 100000 in
set_option maxHeartbeats 4000000 in
theorem c_drainTime {V : VX} {F : Hp} {b u v K : Int} (hbq : b = 40) (hu : isSu u) (h : CI b u v K F) {e : Int} (heq : e = 64) {l : Int} (h1 : I32 l)  : Ct V yX11_drainTime cX11_drainTime 4 (some .int) 6 175 0 0 SH [vr V 0, vi l] F SH 1 (fun r F' => (¬ (0 ≤ l ∧ l < F u 0 ∧ F (u + 4) l = 0) ∧ r = -1 ∧ F' = F) ∨ ((0 ≤ l ∧ l < F u 0 ∧ F (u + 4) l = 0) ∧ r = drS e u l (min 500 (5000 - F b 1)).toNat 0 (cpT b e F) ∧ ∀ a : Int, a < e ∨ e + 23 < a → F' a = F a)) := by
  refine Ct.of [some (vr V 0), some (vi l), none, none] (by decide) (by simp [lg_sl, vi_cat, vl_cat, vr_cat]) rfl (by simp [asc, lv_args, vi_cat, vl_cat, vr_cat]) (fun X hV hX => ?_)
  subst hV
  have hb : isSt b := Or.inl hbq
  obtain ⟨hs, hd, hS, hK, hL, hB, hk1, hk2, hS1, hS2⟩ := id h
  obtain ⟨hU, hA, hQ, hLo, hBd⟩ := id hS
  have hN := hU.1
  have hCC := hU.2.2.2.2.1
  have he : isSt e := Or.inr (Or.inl heq)
  have ht0 := hQ.1
  refine R_aload_0 hX dX11_drainTime_0 ?_
  refine R_getoE (v := u) hX dX11_drainTime_1 fl_X11_33 o_0 rfl hs ?_
  refine R_iload_1 hX dX11_drainTime_4 ?_
  refine R_v1i hX dX11_drainTime_5 li_X11_105 mk_X7_hasLeaf mi_X7_hasLeaf rfl (to_0 hu) (c_hasLeaf hu hN hCC h1) ⟨⟨by decide, by decide⟩, by decide, by decide, rfl, Nat.le_of_ble_eq_true rfl, rfl⟩ (fun x_5 F_5 h_5 => ?_)
  obtain ⟨h_5, e_5⟩ := h_5; replace e_5 := e_5.symm; subst e_5
  refine R_ifne (tgt := 13) hX dX11_drainTime_8 (by decide) ⟨by omega, by omega⟩ (fun c_8 => ?_) (fun c_8 => ?_)
  · skip
    refine R_aload_0 hX dX11_drainTime_13 ?_
    refine R_getq (v := e) hX dX11_drainTime_14 fl_X11_44 o_0 heq.symm (by omega) ?_
    refine R_aload_0 hX dX11_drainTime_17 ?_
    refine R_getq (v := b) hX dX11_drainTime_18 fl_X11_40 o_0 hbq.symm (by omega) ?_
    refine R_v1v hX dX11_drainTime_21 li_X11_223 mk_X8_copyFrom mi_X8_copyFrom rfl (so_0 he) (c_stCopy he hb) ⟨⟨by decide, by decide⟩, by decide, by decide, rfl, Nat.le_of_ble_eq_true rfl, rfl⟩ (fun x_21 F_21 h_21 => ?_)
    subst h_21
    refine R_sipush hX dX11_drainTime_24 (by decide) ?_
    refine R_sipush hX dX11_drainTime_27 (by decide) ?_
    refine R_aload_0 hX dX11_drainTime_30 ?_
    refine R_getq (v := b) hX dX11_drainTime_31 fl_X11_40 o_0 hbq.symm (by omega) ?_
    refine R_geti hX dX11_drainTime_34 fl_X11_140 (so_0 hb) rfl ?_
    rw [cpT_r (b := e) (a := b) (by omega)]
    refine R_isub hX dX11_drainTime_37 ?_
    refine R_mmin hX dX11_drainTime_38 mm_X11_235 mm_s_min in_java_lang_Math mm_c_min ⟨by omega, by omega⟩ ⟨by omega, by omega⟩ ⟨by decide, by decide, by decide, by decide⟩ rfl (Nat.le_of_ble_eq_true rfl) ?_
    refine R_istore_2 hX c1_i dX11_drainTime_41 ?_
    refine R_iconst hX dX11_drainTime_42 ?_
    refine R_istore_3 hX c1_i dX11_drainTime_43 ?_
    have lp_44 : ∀ (n : Nat) (t : Int) (G : Hp), (0 ≤ t ∧ t ≤ min 500 (5000 - F b 1)) → (StA e u K G ∧ G e 1 = F b 1 + t) → (∀ a : Int, a < e ∨ e + 23 < a → G a = F a) → (drS e u l (min 500 (5000 - F b 1) - t).toNat t G = drS e u l (min 500 (5000 - F b 1)).toNat 0 (cpT b e F)) → (501 - t).toNat < n → R X SH 0 0 44 [some (vr (xV X) 0), some (vi l), some (vi (min 500 (5000 - F b 1))), some (vi t)] [] G (Zq X SH 1 (fun r F' => (¬ (0 ≤ l ∧ l < F u 0 ∧ F (u + 4) l = 0) ∧ r = -1 ∧ F' = F) ∨ ((0 ≤ l ∧ l < F u 0 ∧ F (u + 4) l = 0) ∧ r = drS e u l (min 500 (5000 - F b 1)).toNat 0 (cpT b e F) ∧ ∀ a : Int, a < e ∨ e + 23 < a → F' a = F a)) 0 0) := by
      intro n
      induction n with
      | zero => intro t G iv44_0 iv44_1 iv44_2 iv44_3 hm; exact absurd hm (Nat.not_lt_zero _)
      | succ n ih_44 =>
        intro t G iv44_0 iv44_1 iv44_2 iv44_3 hm_44
        have hgq := iv44_1.1.2.2.1.2.1 l (by omega) (by rw [iv44_2 u (by omega)]; omega)
        have hgs : G 0 3 = u := by rw [iv44_2 0 (by omega)]; exact hs
        refine R_iload_3 hX dX11_drainTime_44 ?_
        refine R_iload_2 hX dX11_drainTime_45 ?_
        refine R_icmpge (tgt := 84) hX dX11_drainTime_46 (by decide) ⟨by omega, by omega⟩ ⟨by omega, by omega⟩ (fun c_46 => ?_) (fun c_46 => ?_)
        · skip
          refine R_aload_0 hX dX11_drainTime_84 ?_
          refine R_getq (v := e) hX dX11_drainTime_85 fl_X11_44 o_0 heq.symm (by omega) ?_
          refine R_getq (v := e + 8) hX dX11_drainTime_88 fl_X11_189 (so_0 he) rfl (by omega) ?_
          refine R_getq (v := e + 9) hX dX11_drainTime_91 fl_X11_193 (so_8 he) rfl (by omega) ?_
          refine R_iload_1 hX dX11_drainTime_94 ?_
          refine R_iald hX dX11_drainTime_95 (sa_9 he) ⟨by omega, by omega⟩ ?_
          refine R_ifne (tgt := 103) hX dX11_drainTime_96 (by decide) ⟨by omega, by omega⟩ (fun c_96 => ?_) (fun c_96 => ?_)
          · skip
            refine R_bipush hX dX11_drainTime_103 (by decide) ?_
            exact R_iret hX dX11_drainTime_105 (Or.inr ⟨by omega, (by rw [← iv44_3, show (min 500 (5000 - F b 1) - t).toNat = 0 by omega]; unfold drS; first | (rw [if_pos (by assumption)]; omega) | rw [if_neg (by assumption)]), iv44_2⟩)
          · skip
            refine R_iload_2 hX dX11_drainTime_99 ?_
            refine R_goto (tgt := 105) hX dX11_drainTime_100 (by decide) ?_
            exact R_iret hX dX11_drainTime_105 (Or.inr ⟨by omega, (by rw [← iv44_3, show (min 500 (5000 - F b 1) - t).toNat = 0 by omega]; unfold drS; first | (rw [if_pos (by assumption)]; omega) | rw [if_neg (by assumption)]), iv44_2⟩)
        · skip
          refine R_aload_0 hX dX11_drainTime_49 ?_
          refine R_getq (v := e) hX dX11_drainTime_50 fl_X11_44 o_0 heq.symm (by omega) ?_
          refine R_getq (v := e + 8) hX dX11_drainTime_53 fl_X11_189 (so_0 he) rfl (by omega) ?_
          refine R_getq (v := e + 9) hX dX11_drainTime_56 fl_X11_193 (so_8 he) rfl (by omega) ?_
          refine R_iload_1 hX dX11_drainTime_59 ?_
          refine R_iald hX dX11_drainTime_60 (sa_9 he) ⟨by omega, by omega⟩ ?_
          refine R_ifne (tgt := 66) hX dX11_drainTime_61 (by decide) ⟨by omega, by omega⟩ (fun c_61 => ?_) (fun c_61 => ?_)
          · skip
            refine R_aload_0 hX dX11_drainTime_66 ?_
            refine R_getq (v := e) hX dX11_drainTime_67 fl_X11_44 o_0 heq.symm (by omega) ?_
            refine R_aload_0 hX dX11_drainTime_70 ?_
            refine R_getoE (v := u) hX dX11_drainTime_71 fl_X11_33 o_0 rfl hgs ?_
            refine R_v1i hX dX11_drainTime_74 li_X11_240 mk_X8_makeTick mi_X8_makeTick rfl (so_0 he) (c_makeTick hu he iv44_1.1 hK (by omega)) ⟨⟨by decide, by decide⟩, by decide, by decide, rfl, Nat.le_of_ble_eq_true rfl, rfl⟩ (fun x_74 F_74 h_74 => ?_)
            obtain ⟨hx, hF⟩ := h_74
            subst hF
            refine R_pop hX c1_i dX11_drainTime_77 ?_
            refine R_iinc_3 hX c1_i dX11_drainTime_78 ?_
            refine R_goto (tgt := 44) hX dX11_drainTime_81 (by decide) ?_
            exact ih_44 _ _ (by omega) ⟨(iv44_1.1.tik (dj_of hu he) (by omega) (by omega)).1, by rw [tikS_t]; omega⟩ (fun a z => by rw [tikS_r z]; exact iv44_2 a z) (by rw [← iv44_3, drS_go (by omega) c_61, show (min 500 (5000 - F b 1) - t).toNat - 1 = (min 500 (5000 - F b 1) - (t + 1)).toNat by omega]) (by omega)
          · skip
            refine R_iload_3 hX dX11_drainTime_64 ?_
            exact R_iret hX dX11_drainTime_65 (Or.inr ⟨by omega, (by rw [← iv44_3, drS_hit c_61]), iv44_2⟩)
    exact lp_44 502 _ _ (by omega) ⟨hS.cp (by omega) (dj_of hu he), by rw [(cpT_f (F := F) (e := b) (b := e) (by omega)).1, Int.add_zero]⟩ (fun a z => cpT_r z) (by rw [Int.sub_zero]) (by omega)
  · skip
    refine R_iconst hX dX11_drainTime_11 ?_
    exact R_iret hX dX11_drainTime_12 (Or.inl ⟨by omega, rfl, rfl⟩)
