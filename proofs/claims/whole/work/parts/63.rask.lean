theorem gcS_st {f : Int → Int} {c : Int} (h : 1 ≤ c) : gcS f c.toNat = if f c ≠ -2 then c else gcS f (c - 1).toNat := by
  obtain ⟨k, rfl⟩ : ∃ k : Nat, c = k + 1 := ⟨(c - 1).toNat, by omega⟩
  rw [show ((k : Int) + 1).toNat = k + 1 by omega, show ((k : Int) + 1 - 1).toNat = k by omega]
  rfl
theorem onP_par {par : Int → Int} {N : Int} (hT : Tr N par) {m x : Int} (h0 : 0 ≤ x) (h1 : x ≤ m) (hm : m < N) : par x ≠ m := by
  have := hT x h0 (by omega)
  omega
set_option maxRecDepth 100000 in
set_option maxHeartbeats 4000000 in
theorem r_queued {V : VX} {F : Hp} {K : Int} (h : RI K F) {l k w : Int} (h1 : I32 l) (h2 : I32 k) (hw : 0 ≤ w ∧ w < 3)  : Ct V yX12_queued cX12_queued 4 (some .int) 3 68 0 0 SH [vr V 136, vi l, vi k, vi w] F SH 1 (fun r F' => r = (if (0 ≤ l ∧ l < F 136 3 ∧ chlC (F 141) (F 136 3) l = 0) ∧ 0 ≤ k then (if k < F 137 (135 + l) then F 137 (147 + 3 * (l * 16 + k) + w) else -2) else -1) ∧ F' = F) := by
  refine Ct.of [some (vr V 136), some (vi l), some (vi k), some (vi w)] (by decide) (by simp [lg_sl, vi_cat, vl_cat, vr_cat]) rfl (by simp [asc, lv_args, vi_cat, vl_cat, vr_cat]) (fun X hV hX => ?_)
  subst hV
  have hN := ri_N h
  have hT := ri_T h
  have hQ := ri_Q h
  refine R_aload_0 hX dX12_queued_0 ?_
  refine R_iload_1 hX dX12_queued_1 ?_
  refine R_v1i hX dX12_queued_2 li_X12_247 mk_X12_isBare mi_X12_isBare rfl o_136 (r_isBare h h1) ⟨⟨by decide, by decide⟩, by decide, by decide, rfl, Nat.le_of_ble_eq_true rfl, rfl⟩ (fun x_2 F_2 h_2 => ?_)
  obtain ⟨h_2, e_2⟩ := h_2; replace e_2 := e_2.symm; subst e_2
  refine R_ifeq (tgt := 12) hX dX12_queued_5 (by decide) (by constructor <;> first | omega | (simp (disch := omega) only [up_k, up_i, up_s]; omega)) (fun c_5 => ?_) (fun c_5 => ?_)
  · skip
    refine R_iconst hX dX12_queued_12 ?_
    exact R_iret hX dX12_queued_13 ⟨by first | (rw [if_pos (by omega)]; first | (rw [if_pos (by omega)]; done) | (rw [if_neg (by omega)]; done)) | (rw [if_neg (by omega)]; done), rfl⟩
  · skip
    refine R_iload_2 hX dX12_queued_8 ?_
    refine R_ifge (tgt := 14) hX dX12_queued_9 (by decide) (by constructor <;> first | omega | (simp (disch := omega) only [up_k, up_i, up_s]; omega)) (fun c_9 => ?_) (fun c_9 => ?_)
    · skip
      have hq := hQ.2.1 l (by omega) (by omega)
      refine R_iload_2 hX dX12_queued_14 ?_
      refine R_aload_0 hX dX12_queued_15 ?_
      refine R_getq (v := 137) hX dX12_queued_16 fl_X12_7 o_136 rfl (by omega) ?_
      refine R_sipush hX dX12_queued_19 (by decide) ?_
      refine R_iload_1 hX dX12_queued_22 ?_
      refine R_iadd hX dX12_queued_23 ?_
      refine R_iald hX dX12_queued_24 a_137 ⟨by omega, by omega⟩ ?_
      refine R_icmpge (tgt := 43) hX dX12_queued_25 (by decide) (by constructor <;> first | omega | (simp (disch := omega) only [up_k, up_i, up_s]; omega)) (by constructor <;> first | omega | (simp (disch := omega) only [up_k, up_i, up_s]; omega)) (fun c_25 => ?_) (fun c_25 => ?_)
      · skip
        refine R_bipush hX dX12_queued_43 (by decide) ?_
        exact R_iret hX dX12_queued_45 ⟨by first | (rw [if_pos (by omega)]; first | (rw [if_pos (by omega)]; done) | (rw [if_neg (by omega)]; done)) | (rw [if_neg (by omega)]; done), rfl⟩
      · skip
        refine R_aload_0 hX dX12_queued_28 ?_
        refine R_getq (v := 137) hX dX12_queued_29 fl_X12_7 o_136 rfl (by omega) ?_
        refine R_iload_1 hX dX12_queued_32 ?_
        refine R_iload_2 hX dX12_queued_33 ?_
        refine R_s2i hX dX12_queued_34 li_X12_272 mk_X12_place ms_X12_place (r_place) ⟨⟨by decide, by decide⟩, by decide, by decide, rfl, Nat.le_of_ble_eq_true rfl, rfl⟩ (fun x_34 F_34 h_34 => ?_)
        obtain ⟨h_34, e_34⟩ := h_34; replace e_34 := e_34.symm; subst e_34
        rw [h_34]
        refine R_iload_3 hX dX12_queued_37 ?_
        refine R_iadd hX dX12_queued_38 ?_
        refine R_iald hX dX12_queued_39 a_137 ⟨by omega, by omega⟩ ?_
        refine R_goto (tgt := 45) hX dX12_queued_40 (by decide) ?_
        exact R_iret hX dX12_queued_45 ⟨by first | (rw [if_pos (by omega)]; first | (rw [if_pos (by omega)]; done) | (rw [if_neg (by omega)]; done)) | (rw [if_neg (by omega)]; done), rfl⟩
    · skip
      refine R_iconst hX dX12_queued_12 ?_
      exact R_iret hX dX12_queued_13 ⟨by first | (rw [if_pos (by omega)]; first | (rw [if_pos (by omega)]; done) | (rw [if_neg (by omega)]; done)) | (rw [if_neg (by omega)]; done), rfl⟩
set_option maxRecDepth 100000 in
set_option maxHeartbeats 4000000 in
theorem r_requestAt {V : VX} {F : Hp} {K : Int} (h : RI K F) {l k : Int} (h1 : I32 l) (h2 : I32 k)  : Ct V yX12_requestAt cX12_requestAt 3 (some .int) 4 91 0 0 SH [vr V 136, vi l, vi k] F SH 1 (fun r F' => F' = up F 136 0 0 ∧ r = (if (0 ≤ l ∧ l < F' 136 3 ∧ chlC (F' 141) (F' 136 3) l = 0) ∧ 0 ≤ k then (if k < F' 137 (135 + l) then F' 137 (147 + 3 * (l * 16 + k) + 0) else -2) else -1)) := by
  refine Ct.of [some (vr V 136), some (vi l), some (vi k)] (by decide) (by simp [lg_sl, vi_cat, vl_cat, vr_cat]) rfl (by simp [asc, lv_args, vi_cat, vl_cat, vr_cat]) (fun X hV hX => ?_)
  subst hV
  refine R_aload_0 hX dX12_requestAt_0 ?_
  refine R_iconst hX dX12_requestAt_1 ?_
  refine R_puti hX dX12_requestAt_2 fl_X12_88 o_136 rfl ?_
  refine R.gen (fun H hH => ?_)
  have hR : RI K H := by rw [hH]; exact h.z
  have hN := ri_N hR
  have hT := ri_T hR
  refine R_aload_0 hX dX12_requestAt_5 ?_
  refine R_iload_1 hX dX12_requestAt_6 ?_
  refine R_iload_2 hX dX12_requestAt_7 ?_
  refine R_iconst hX dX12_requestAt_8 ?_
  refine R_v3i hX dX12_requestAt_9 li_X12_288 mk_X12_queued mi_X12_queued rfl o_136 (r_queued hR h1 h2 (by omega)) ⟨⟨by decide, by decide⟩, by decide, by decide, rfl, Nat.le_of_ble_eq_true rfl, rfl⟩ (fun x_9 F_9 h_9 => ?_)
  obtain ⟨h_9, e_9⟩ := h_9; replace e_9 := e_9.symm; subst e_9
  exact R_iret hX dX12_requestAt_12 ⟨hH, h_9⟩
set_option maxRecDepth 100000 in
set_option maxHeartbeats 4000000 in
theorem r_costAt {V : VX} {F : Hp} {K : Int} (h : RI K F) {l k : Int} (h1 : I32 l) (h2 : I32 k)  : Ct V yX12_costAt cX12_costAt 3 (some .int) 4 91 0 0 SH [vr V 136, vi l, vi k] F SH 1 (fun r F' => F' = up F 136 0 0 ∧ r = (if (0 ≤ l ∧ l < F' 136 3 ∧ chlC (F' 141) (F' 136 3) l = 0) ∧ 0 ≤ k then (if k < F' 137 (135 + l) then F' 137 (147 + 3 * (l * 16 + k) + 1) else -2) else -1)) := by
  refine Ct.of [some (vr V 136), some (vi l), some (vi k)] (by decide) (by simp [lg_sl, vi_cat, vl_cat, vr_cat]) rfl (by simp [asc, lv_args, vi_cat, vl_cat, vr_cat]) (fun X hV hX => ?_)
  subst hV
  refine R_aload_0 hX dX12_costAt_0 ?_
  refine R_iconst hX dX12_costAt_1 ?_
  refine R_puti hX dX12_costAt_2 fl_X12_88 o_136 rfl ?_
  refine R.gen (fun H hH => ?_)
  have hR : RI K H := by rw [hH]; exact h.z
  have hN := ri_N hR
  have hT := ri_T hR
  refine R_aload_0 hX dX12_costAt_5 ?_
  refine R_iload_1 hX dX12_costAt_6 ?_
  refine R_iload_2 hX dX12_costAt_7 ?_
  refine R_iconst hX dX12_costAt_8 ?_
  refine R_v3i hX dX12_costAt_9 li_X12_288 mk_X12_queued mi_X12_queued rfl o_136 (r_queued hR h1 h2 (by omega)) ⟨⟨by decide, by decide⟩, by decide, by decide, rfl, Nat.le_of_ble_eq_true rfl, rfl⟩ (fun x_9 F_9 h_9 => ?_)
  obtain ⟨h_9, e_9⟩ := h_9; replace e_9 := e_9.symm; subst e_9
  exact R_iret hX dX12_costAt_12 ⟨hH, h_9⟩
set_option maxRecDepth 100000 in
set_option maxHeartbeats 4000000 in
theorem r_ageAt {V : VX} {F : Hp} {K : Int} (h : RI K F) {l k : Int} (h1 : I32 l) (h2 : I32 k)  : Ct V yX12_ageAt cX12_ageAt 4 (some .int) 4 91 0 0 SH [vr V 136, vi l, vi k] F SH 1 (fun r F' => F' = up F 136 0 0 ∧ r = (if (0 ≤ l ∧ l < F' 136 3 ∧ chlC (F' 141) (F' 136 3) l = 0) ∧ 0 ≤ k then (if k < F' 137 (135 + l) then (F' 137 0 - F' 137 (147 + 3 * (l * 16 + k) + 2)) else -2) else -1)) := by
  refine Ct.of [some (vr V 136), some (vi l), some (vi k), none] (by decide) (by simp [lg_sl, vi_cat, vl_cat, vr_cat]) rfl (by simp [asc, lv_args, vi_cat, vl_cat, vr_cat]) (fun X hV hX => ?_)
  subst hV
  refine R_aload_0 hX dX12_ageAt_0 ?_
  refine R_iconst hX dX12_ageAt_1 ?_
  refine R_puti hX dX12_ageAt_2 fl_X12_88 o_136 rfl ?_
  refine R.gen (fun H hH => ?_)
  have hR : RI K H := by rw [hH]; exact h.z
  have hN := ri_N hR
  have hT := ri_T hR
  have hQ := ri_Q hR
  refine R_aload_0 hX dX12_ageAt_5 ?_
  refine R_iload_1 hX dX12_ageAt_6 ?_
  refine R_iload_2 hX dX12_ageAt_7 ?_
  refine R_iconst hX dX12_ageAt_8 ?_
  refine R_v3i hX dX12_ageAt_9 li_X12_288 mk_X12_queued mi_X12_queued rfl o_136 (r_queued hR h1 h2 (by omega)) ⟨⟨by decide, by decide⟩, by decide, by decide, rfl, Nat.le_of_ble_eq_true rfl, rfl⟩ (fun x_9 F_9 h_9 => ?_)
  obtain ⟨h_9, e_9⟩ := h_9; replace e_9 := e_9.symm; subst e_9
  obtain ⟨cond, hcond⟩ : ∃ cond : Prop, cond = ((0 ≤ l ∧ l < H 136 3 ∧ chlC (H 141) (H 136 3) l = 0) ∧ 0 ≤ k) := ⟨_, rfl⟩
  have hqe : (¬ ((0 ≤ l ∧ l < H 136 3 ∧ chlC (H 141) (H 136 3) l = 0) ∧ 0 ≤ k) ∧ x_9 = -1) ∨ (((0 ≤ l ∧ l < H 136 3 ∧ chlC (H 141) (H 136 3) l = 0) ∧ 0 ≤ k) ∧ ¬ k < H 137 (135 + l) ∧ x_9 = -2) ∨ (((0 ≤ l ∧ l < H 136 3 ∧ chlC (H 141) (H 136 3) l = 0) ∧ 0 ≤ k) ∧ k < H 137 (135 + l) ∧ x_9 = H 137 (147 + 3 * (l * 16 + k) + 2) ∧ 0 ≤ x_9 ∧ x_9 ≤ H 137 0) := by
    rw [h_9]
    by_cases q : (0 ≤ l ∧ l < H 136 3 ∧ chlC (H 141) (H 136 3) l = 0) ∧ 0 ≤ k
    · rw [if_pos q]
      by_cases q2 : k < H 137 (135 + l)
      · rw [if_pos q2]
        have := hQ.2.2 l q.1.1 q.1.2.1 k q.2 q2
        exact Or.inr (Or.inr ⟨q, q2, rfl, this.2⟩)
      · rw [if_neg q2]; exact Or.inr (Or.inl ⟨q, q2, rfl⟩)
    · rw [if_neg q]; exact Or.inl ⟨q, rfl⟩
  have hQ0 := hQ.1
  clear h_9 hcond
  refine R_istore_3 hX c1_i dX12_ageAt_12 ?_
  refine R_iload_3 hX dX12_ageAt_13 ?_
  refine R_ifge (tgt := 21) hX dX12_ageAt_14 (by decide) (by constructor <;> first | omega | (simp (disch := omega) only [up_k, up_i, up_s]; omega)) (fun c_14 => ?_) (fun c_14 => ?_)
  · skip
    refine R_aload_0 hX dX12_ageAt_21 ?_
    refine R_getq (v := 137) hX dX12_ageAt_22 fl_X12_7 o_136 rfl (by omega) ?_
    refine R_iconst hX dX12_ageAt_25 ?_
    refine R_iald hX dX12_ageAt_26 a_137 ⟨by omega, by omega⟩ ?_
    refine R_iload_3 hX dX12_ageAt_27 ?_
    refine R_isub hX dX12_ageAt_28 ?_
    exact R_iret hX dX12_ageAt_29 ⟨hH, by rcases hqe with ⟨q, z⟩ | ⟨q, q2, z⟩ | ⟨q, q2, z, z2⟩; (rw [if_neg q]; omega); (rw [if_pos q, if_neg q2]; omega); (rw [if_pos q, if_pos q2]; omega)⟩
  · skip
    refine R_iload_3 hX dX12_ageAt_17 ?_
    refine R_goto (tgt := 29) hX dX12_ageAt_18 (by decide) ?_
    exact R_iret hX dX12_ageAt_29 ⟨hH, by rcases hqe with ⟨q, z⟩ | ⟨q, q2, z⟩ | ⟨q, q2, z, z2⟩; (rw [if_neg q]; omega); (rw [if_pos q, if_neg q2]; omega); (rw [if_pos q, if_pos q2]; omega)⟩
set_option maxRecDepth 100000 in
set_option maxHeartbeats 4000000 in
theorem r_logged {V : VX} {F : Hp} {K : Int} (h : RI K F) {k w : Int} (h1 : I32 k) (hw : 0 ≤ w ∧ w < 4)  : Ct V yX12_logged cX12_logged 3 (some .int) 0 0 0 0 SH [vr V 136, vi k, vi w] F SH 1 (fun r F' => r = (if k < 0 then -1 else if k < F 137 2 then F 137 (723 + 4 * k + w) else -2) ∧ F' = F) := by
  refine Ct.of [some (vr V 136), some (vi k), some (vi w)] (by decide) (by simp [lg_sl, vi_cat, vl_cat, vr_cat]) rfl (by simp [asc, lv_args, vi_cat, vl_cat, vr_cat]) (fun X hV hX => ?_)
  subst hV
  have hN := ri_N h
  have hT := ri_T h
  have hG := ri_G h
  refine R_iload_1 hX dX12_logged_0 ?_
  refine R_ifge (tgt := 8) hX dX12_logged_1 (by decide) (by constructor <;> first | omega | (simp (disch := omega) only [up_k, up_i, up_s]; omega)) (fun c_1 => ?_) (fun c_1 => ?_)
  · skip
    refine R_iload_1 hX dX12_logged_8 ?_
    refine R_aload_0 hX dX12_logged_9 ?_
    refine R_getq (v := 137) hX dX12_logged_10 fl_X12_7 o_136 rfl (by omega) ?_
    refine R_iconst hX dX12_logged_13 ?_
    refine R_iald hX dX12_logged_14 a_137 ⟨by omega, by omega⟩ ?_
    refine R_icmpge (tgt := 35) hX dX12_logged_15 (by decide) (by constructor <;> first | omega | (simp (disch := omega) only [up_k, up_i, up_s]; omega)) (by constructor <;> first | omega | (simp (disch := omega) only [up_k, up_i, up_s]; omega)) (fun c_15 => ?_) (fun c_15 => ?_)
    · skip
      refine R_bipush hX dX12_logged_35 (by decide) ?_
      exact R_iret hX dX12_logged_37 ⟨by first | (rw [if_pos (by omega)]; done) | (rw [if_neg (by omega)]; first | (rw [if_pos (by omega)]; done) | (rw [if_neg (by omega)]; done)), rfl⟩
    · skip
      refine R_aload_0 hX dX12_logged_18 ?_
      refine R_getq (v := 137) hX dX12_logged_19 fl_X12_7 o_136 rfl (by omega) ?_
      refine R_sipush hX dX12_logged_22 (by decide) ?_
      refine R_iconst hX dX12_logged_25 ?_
      refine R_iload_1 hX dX12_logged_26 ?_
      refine R_imul hX dX12_logged_27 ?_
      refine R_iadd hX dX12_logged_28 ?_
      refine R_iload_2 hX dX12_logged_29 ?_
      refine R_iadd hX dX12_logged_30 ?_
      refine R_iald hX dX12_logged_31 a_137 ⟨by omega, by omega⟩ ?_
      refine R_goto (tgt := 37) hX dX12_logged_32 (by decide) ?_
      exact R_iret hX dX12_logged_37 ⟨by first | (rw [if_pos (by omega)]; done) | (rw [if_neg (by omega)]; first | (rw [if_pos (by omega)]; done) | (rw [if_neg (by omega)]; done)), rfl⟩
  · skip
    refine R_iconst hX dX12_logged_4 ?_
    refine R_goto (tgt := 37) hX dX12_logged_5 (by decide) ?_
    exact R_iret hX dX12_logged_37 ⟨by first | (rw [if_pos (by omega)]; done) | (rw [if_neg (by omega)]; first | (rw [if_pos (by omega)]; done) | (rw [if_neg (by omega)]; done)), rfl⟩
set_option maxRecDepth 100000 in
set_option maxHeartbeats 4000000 in
theorem r_loggedLeaf {V : VX} {F : Hp} {K : Int} (h : RI K F) {k : Int} (h1 : I32 k)  : Ct V yX12_loggedLeaf cX12_loggedLeaf 2 (some .int) 1 22 0 0 SH [vr V 136, vi k] F SH 1 (fun r F' => F' = up F 136 0 0 ∧ r = (if k < 0 then -1 else if k < F' 137 2 then F' 137 (723 + 4 * k + 0) else -2)) := by
  refine Ct.of [some (vr V 136), some (vi k)] (by decide) (by simp [lg_sl, vi_cat, vl_cat, vr_cat]) rfl (by simp [asc, lv_args, vi_cat, vl_cat, vr_cat]) (fun X hV hX => ?_)
  subst hV
  refine R_aload_0 hX dX12_loggedLeaf_0 ?_
  refine R_iconst hX dX12_loggedLeaf_1 ?_
  refine R_puti hX dX12_loggedLeaf_2 fl_X12_88 o_136 rfl ?_
  refine R.gen (fun H hH => ?_)
  have hR : RI K H := by rw [hH]; exact h.z
  have hN := ri_N hR
  have hT := ri_T hR
  refine R_aload_0 hX dX12_loggedLeaf_5 ?_
  refine R_iload_1 hX dX12_loggedLeaf_6 ?_
  refine R_iconst hX dX12_loggedLeaf_7 ?_
  refine R_v2i hX dX12_loggedLeaf_8 li_X12_317 mk_X12_logged mi_X12_logged rfl o_136 (r_logged hR h1 (by omega)) ⟨⟨by decide, by decide⟩, by decide, by decide, rfl, Nat.le_of_ble_eq_true rfl, rfl⟩ (fun x_8 F_8 h_8 => ?_)
  obtain ⟨h_8, e_8⟩ := h_8; replace e_8 := e_8.symm; subst e_8
  exact R_iret hX dX12_loggedLeaf_11 ⟨hH, h_8⟩
set_option maxRecDepth 100000 in
set_option maxHeartbeats 4000000 in
theorem r_loggedCost {V : VX} {F : Hp} {K : Int} (h : RI K F) {k : Int} (h1 : I32 k)  : Ct V yX12_loggedCost cX12_loggedCost 2 (some .int) 1 22 0 0 SH [vr V 136, vi k] F SH 1 (fun r F' => F' = up F 136 0 0 ∧ r = (if k < 0 then -1 else if k < F' 137 2 then F' 137 (723 + 4 * k + 1) else -2)) := by
  refine Ct.of [some (vr V 136), some (vi k)] (by decide) (by simp [lg_sl, vi_cat, vl_cat, vr_cat]) rfl (by simp [asc, lv_args, vi_cat, vl_cat, vr_cat]) (fun X hV hX => ?_)
  subst hV
  refine R_aload_0 hX dX12_loggedCost_0 ?_
  refine R_iconst hX dX12_loggedCost_1 ?_
  refine R_puti hX dX12_loggedCost_2 fl_X12_88 o_136 rfl ?_
  refine R.gen (fun H hH => ?_)
  have hR : RI K H := by rw [hH]; exact h.z
  have hN := ri_N hR
  have hT := ri_T hR
  refine R_aload_0 hX dX12_loggedCost_5 ?_
  refine R_iload_1 hX dX12_loggedCost_6 ?_
  refine R_iconst hX dX12_loggedCost_7 ?_
  refine R_v2i hX dX12_loggedCost_8 li_X12_317 mk_X12_logged mi_X12_logged rfl o_136 (r_logged hR h1 (by omega)) ⟨⟨by decide, by decide⟩, by decide, by decide, rfl, Nat.le_of_ble_eq_true rfl, rfl⟩ (fun x_8 F_8 h_8 => ?_)
  obtain ⟨h_8, e_8⟩ := h_8; replace e_8 := e_8.symm; subst e_8
  exact R_iret hX dX12_loggedCost_11 ⟨hH, h_8⟩
set_option maxRecDepth 100000 in
set_option maxHeartbeats 4000000 in
theorem r_loggedLender {V : VX} {F : Hp} {K : Int} (h : RI K F) {k : Int} (h1 : I32 k)  : Ct V yX12_loggedLender cX12_loggedLender 2 (some .int) 1 22 0 0 SH [vr V 136, vi k] F SH 1 (fun r F' => F' = up F 136 0 0 ∧ r = (if k < 0 then -1 else if k < F' 137 2 then F' 137 (723 + 4 * k + 2) else -2)) := by
  refine Ct.of [some (vr V 136), some (vi k)] (by decide) (by simp [lg_sl, vi_cat, vl_cat, vr_cat]) rfl (by simp [asc, lv_args, vi_cat, vl_cat, vr_cat]) (fun X hV hX => ?_)
  subst hV
  refine R_aload_0 hX dX12_loggedLender_0 ?_
  refine R_iconst hX dX12_loggedLender_1 ?_
  refine R_puti hX dX12_loggedLender_2 fl_X12_88 o_136 rfl ?_
  refine R.gen (fun H hH => ?_)
  have hR : RI K H := by rw [hH]; exact h.z
  have hN := ri_N hR
  have hT := ri_T hR
  refine R_aload_0 hX dX12_loggedLender_5 ?_
  refine R_iload_1 hX dX12_loggedLender_6 ?_
  refine R_iconst hX dX12_loggedLender_7 ?_
  refine R_v2i hX dX12_loggedLender_8 li_X12_317 mk_X12_logged mi_X12_logged rfl o_136 (r_logged hR h1 (by omega)) ⟨⟨by decide, by decide⟩, by decide, by decide, rfl, Nat.le_of_ble_eq_true rfl, rfl⟩ (fun x_8 F_8 h_8 => ?_)
  obtain ⟨h_8, e_8⟩ := h_8; replace e_8 := e_8.symm; subst e_8
  exact R_iret hX dX12_loggedLender_11 ⟨hH, h_8⟩
set_option maxRecDepth 100000 in
set_option maxHeartbeats 4000000 in
theorem r_loggedTime {V : VX} {F : Hp} {K : Int} (h : RI K F) {k : Int} (h1 : I32 k)  : Ct V yX12_loggedTime cX12_loggedTime 2 (some .int) 1 22 0 0 SH [vr V 136, vi k] F SH 1 (fun r F' => F' = up F 136 0 0 ∧ r = (if k < 0 then -1 else if k < F' 137 2 then F' 137 (723 + 4 * k + 3) else -2)) := by
  refine Ct.of [some (vr V 136), some (vi k)] (by decide) (by simp [lg_sl, vi_cat, vl_cat, vr_cat]) rfl (by simp [asc, lv_args, vi_cat, vl_cat, vr_cat]) (fun X hV hX => ?_)
  subst hV
  refine R_aload_0 hX dX12_loggedTime_0 ?_
  refine R_iconst hX dX12_loggedTime_1 ?_
  refine R_puti hX dX12_loggedTime_2 fl_X12_88 o_136 rfl ?_
  refine R.gen (fun H hH => ?_)
  have hR : RI K H := by rw [hH]; exact h.z
  have hN := ri_N hR
  have hT := ri_T hR
  refine R_aload_0 hX dX12_loggedTime_5 ?_
  refine R_iload_1 hX dX12_loggedTime_6 ?_
  refine R_iconst hX dX12_loggedTime_7 ?_
  refine R_v2i hX dX12_loggedTime_8 li_X12_317 mk_X12_logged mi_X12_logged rfl o_136 (r_logged hR h1 (by omega)) ⟨⟨by decide, by decide⟩, by decide, by decide, rfl, Nat.le_of_ble_eq_true rfl, rfl⟩ (fun x_8 F_8 h_8 => ?_)
  obtain ⟨h_8, e_8⟩ := h_8; replace e_8 := e_8.symm; subst e_8
  exact R_iret hX dX12_loggedTime_11 ⟨hH, h_8⟩
set_option maxRecDepth 100000 in
set_option maxHeartbeats 4000000 in
theorem r_lender {V : VX} {F : Hp} {K : Int} (h : RI K F) {l c : Int} (h1 : I32 l) (h2 : I32 c)  : Ct V yX12_lender cX12_lender 3 (some .int) 4 90 0 0 SH [vr V 136, vi l, vi c] F SH 1 (fun r F' => F' = up F 136 0 0 ∧ r = (if 0 ≤ l ∧ l < F' 136 3 ∧ chlC (F' 141) (F' 136 3) l = 0 ∧ 1 ≤ c ∧ c ≤ 99 then lndS 1000 1100 (vw 0 F') l c else -1)) := by
  refine Ct.of [some (vr V 136), some (vi l), some (vi c)] (by decide) (by simp [lg_sl, vi_cat, vl_cat, vr_cat]) rfl (by simp [asc, lv_args, vi_cat, vl_cat, vr_cat]) (fun X hV hX => ?_)
  subst hV
  refine R_aload_0 hX dX12_lender_0 ?_
  refine R_iconst hX dX12_lender_1 ?_
  refine R_puti hX dX12_lender_2 fl_X12_88 o_136 rfl ?_
  refine R.gen (fun H hH => ?_)
  have hR : RI K H := by rw [hH]; exact h.z
  have hN := ri_N hR
  have hT := ri_T hR
  refine R_aload_0 hX dX12_lender_5 ?_
  refine R_iload_1 hX dX12_lender_6 ?_
  refine R_iload_2 hX dX12_lender_7 ?_
  refine R_v2i hX dX12_lender_8 li_X12_262 mk_X12_isAsked mi_X12_isAsked rfl o_136 (r_isAsked hR h1 h2) ⟨⟨by decide, by decide⟩, by decide, by decide, rfl, Nat.le_of_ble_eq_true rfl, rfl⟩ (fun x_8 F_8 h_8 => ?_)
  obtain ⟨h_8, e_8⟩ := h_8; replace e_8 := e_8.symm; subst e_8
  refine R_ifeq (tgt := 23) hX dX12_lender_11 (by decide) (by constructor <;> first | omega | (simp (disch := omega) only [up_k, up_i, up_s]; omega)) (fun c_11 => ?_) (fun c_11 => ?_)
  · skip
    refine R_iconst hX dX12_lender_23 ?_
    exact R_iret hX dX12_lender_24 ⟨hH, by first | (rw [if_pos (by omega)]; exact h_17) | (rw [if_neg (by omega)]; done)⟩
  · skip
    refine R_aload_0 hX dX12_lender_14 ?_
    refine R_iload_1 hX dX12_lender_15 ?_
    refine R_iload_2 hX dX12_lender_16 ?_
    refine R_v2i hX dX12_lender_17 li_X12_266 mk_X12_lends mi_X12_lends rfl o_136 (r_lends hR (by omega) h2) ⟨⟨by decide, by decide⟩, by decide, by decide, rfl, Nat.le_of_ble_eq_true rfl, rfl⟩ (fun x_17 F_17 h_17 => ?_)
    obtain ⟨h_17, e_17⟩ := h_17; replace e_17 := e_17.symm; subst e_17
    refine R_goto (tgt := 24) hX dX12_lender_20 (by decide) ?_
    exact R_iret hX dX12_lender_24 ⟨hH, by first | (rw [if_pos (by omega)]; exact h_17) | (rw [if_neg (by omega)]; done)⟩
set_option maxRecDepth 100000 in
set_option maxHeartbeats 4000000 in
theorem r_blockingNode {V : VX} {F : Hp} {K : Int} (h : RI K F) {l c : Int} (h1 : I32 l) (h2 : I32 c)  : Ct V yX12_blockingNode cX12_blockingNode 3 (some .int) 4 90 0 0 SH [vr V 136, vi l, vi c] F SH 1 (fun r F' => F' = up F 136 0 0 ∧ r = (if 0 ≤ l ∧ l < F' 136 3 ∧ chlC (F' 141) (F' 136 3) l = 0 ∧ 1 ≤ c ∧ c ≤ 99 then blkS (vw 0 F' 1007) (F' 141) c 13 l else -1)) := by
  refine Ct.of [some (vr V 136), some (vi l), some (vi c)] (by decide) (by simp [lg_sl, vi_cat, vl_cat, vr_cat]) rfl (by simp [asc, lv_args, vi_cat, vl_cat, vr_cat]) (fun X hV hX => ?_)
  subst hV
  refine R_aload_0 hX dX12_blockingNode_0 ?_
  refine R_iconst hX dX12_blockingNode_1 ?_
  refine R_puti hX dX12_blockingNode_2 fl_X12_88 o_136 rfl ?_
  refine R.gen (fun H hH => ?_)
  have hR : RI K H := by rw [hH]; exact h.z
  have hN := ri_N hR
  have hT := ri_T hR
  refine R_aload_0 hX dX12_blockingNode_5 ?_
  refine R_iload_1 hX dX12_blockingNode_6 ?_
  refine R_iload_2 hX dX12_blockingNode_7 ?_
  refine R_v2i hX dX12_blockingNode_8 li_X12_262 mk_X12_isAsked mi_X12_isAsked rfl o_136 (r_isAsked hR h1 h2) ⟨⟨by decide, by decide⟩, by decide, by decide, rfl, Nat.le_of_ble_eq_true rfl, rfl⟩ (fun x_8 F_8 h_8 => ?_)
  obtain ⟨h_8, e_8⟩ := h_8; replace e_8 := e_8.symm; subst e_8
  refine R_ifeq (tgt := 23) hX dX12_blockingNode_11 (by decide) (by constructor <;> first | omega | (simp (disch := omega) only [up_k, up_i, up_s]; omega)) (fun c_11 => ?_) (fun c_11 => ?_)
  · skip
    refine R_iconst hX dX12_blockingNode_23 ?_
    exact R_iret hX dX12_blockingNode_24 ⟨hH, by first | (rw [if_pos (by omega)]; exact h_17) | (rw [if_neg (by omega)]; done)⟩
  · skip
    refine R_aload_0 hX dX12_blockingNode_14 ?_
    refine R_iload_1 hX dX12_blockingNode_15 ?_
    refine R_iload_2 hX dX12_blockingNode_16 ?_
    refine R_v2i hX dX12_blockingNode_17 li_X12_255 mk_X12_blocker mi_X12_blocker rfl o_136 (r_blocker hR (by omega) h2) ⟨⟨by decide, by decide⟩, by decide, by decide, rfl, Nat.le_of_ble_eq_true rfl, rfl⟩ (fun x_17 F_17 h_17 => ?_)
    obtain ⟨h_17, e_17⟩ := h_17; replace e_17 := e_17.symm; subst e_17
    refine R_goto (tgt := 24) hX dX12_blockingNode_20 (by decide) ?_
    exact R_iret hX dX12_blockingNode_24 ⟨hH, by first | (rw [if_pos (by omega)]; exact h_17) | (rw [if_neg (by omega)]; done)⟩
set_option maxRecDepth 100000 in
set_option maxHeartbeats 4000000 in
theorem r_refusal {V : VX} {F : Hp} {K : Int} (h : RI K F) {l c : Int} (h1 : I32 l) (h2 : I32 c)  : Ct V yX12_refusal cX12_refusal 3 (some .int) 4 90 0 0 SH [vr V 136, vi l, vi c] F SH 1 (fun r F' => F' = up F 136 0 0 ∧ r = (if 0 ≤ l ∧ l < F' 136 3 ∧ chlC (F' 141) (F' 136 3) l = 0 ∧ 1 ≤ c ∧ c ≤ 99 then (if blkS (vw 0 F' 1007) (F' 141) c 13 l ≠ -2 then 1 else if lndS 1000 1100 (vw 0 F') l c = -2 then 2 else 0) else -1)) := by
  refine Ct.of [some (vr V 136), some (vi l), some (vi c)] (by decide) (by simp [lg_sl, vi_cat, vl_cat, vr_cat]) rfl (by simp [asc, lv_args, vi_cat, vl_cat, vr_cat]) (fun X hV hX => ?_)
  subst hV
  refine R_aload_0 hX dX12_refusal_0 ?_
  refine R_iconst hX dX12_refusal_1 ?_
  refine R_puti hX dX12_refusal_2 fl_X12_88 o_136 rfl ?_
  refine R.gen (fun H hH => ?_)
  have hR : RI K H := by rw [hH]; exact h.z
  have hN := ri_N hR
  have hT := ri_T hR
  refine R_aload_0 hX dX12_refusal_5 ?_
  refine R_iload_1 hX dX12_refusal_6 ?_
  refine R_iload_2 hX dX12_refusal_7 ?_
  refine R_v2i hX dX12_refusal_8 li_X12_262 mk_X12_isAsked mi_X12_isAsked rfl o_136 (r_isAsked hR h1 h2) ⟨⟨by decide, by decide⟩, by decide, by decide, rfl, Nat.le_of_ble_eq_true rfl, rfl⟩ (fun x_8 F_8 h_8 => ?_)
  obtain ⟨h_8, e_8⟩ := h_8; replace e_8 := e_8.symm; subst e_8
  refine R_ifne (tgt := 16) hX dX12_refusal_11 (by decide) (by constructor <;> first | omega | (simp (disch := omega) only [up_k, up_i, up_s]; omega)) (fun c_11 => ?_) (fun c_11 => ?_)
  · skip
    refine R_aload_0 hX dX12_refusal_16 ?_
    refine R_iload_1 hX dX12_refusal_17 ?_
    refine R_iload_2 hX dX12_refusal_18 ?_
    refine R_v2i hX dX12_refusal_19 li_X12_255 mk_X12_blocker mi_X12_blocker rfl o_136 (r_blocker hR (by omega) h2) ⟨⟨by decide, by decide⟩, by decide, by decide, rfl, Nat.le_of_ble_eq_true rfl, rfl⟩ (fun x_19 F_19 h_19 => ?_)
    obtain ⟨h_19, e_19⟩ := h_19; replace e_19 := e_19.symm; subst e_19
    have hbr := blkS_rng (hd := vw 0 H 1007) (c := c) hT 13 l (by omega)
    subst h_19
    refine R_bipush hX dX12_refusal_22 (by decide) ?_
    refine R_icmpeq (tgt := 31) hX dX12_refusal_24 (by decide) (by constructor <;> first | omega | (simp (disch := omega) only [up_k, up_i, up_s]; omega)) (by constructor <;> first | omega | (simp (disch := omega) only [up_k, up_i, up_s]; omega)) (fun c_24 => ?_) (fun c_24 => ?_)
    · skip
      refine R_aload_0 hX dX12_refusal_31 ?_
      refine R_iload_1 hX dX12_refusal_32 ?_
      refine R_iload_2 hX dX12_refusal_33 ?_
      refine R_v2i hX dX12_refusal_34 li_X12_266 mk_X12_lends mi_X12_lends rfl o_136 (r_lends hR (by omega) h2) ⟨⟨by decide, by decide⟩, by decide, by decide, rfl, Nat.le_of_ble_eq_true rfl, rfl⟩ (fun x_34 F_34 h_34 => ?_)
      obtain ⟨h_34, e_34⟩ := h_34; replace e_34 := e_34.symm; subst e_34
      subst h_34
      have hlr := lndS_rng (b := 1000) (c := c) hR.1.2.1 (show l < vw 0 H 1100 0 by rw [vw_1100_0]; omega)
      refine R_bipush hX dX12_refusal_37 (by decide) ?_
      refine R_icmpne (tgt := 46) hX dX12_refusal_39 (by decide) (by constructor <;> first | omega | (simp (disch := omega) only [up_k, up_i, up_s]; omega)) (by constructor <;> first | omega | (simp (disch := omega) only [up_k, up_i, up_s]; omega)) (fun c_39 => ?_) (fun c_39 => ?_)
      · skip
        refine R_iconst hX dX12_refusal_46 ?_
        exact R_iret hX dX12_refusal_47 ⟨hH, by first | (rw [if_pos (by omega)]; first | (rw [if_pos (by assumption)]; done) | (rw [if_neg (by omega)]; first | (rw [if_pos (by assumption)]; done) | (rw [if_neg (by assumption)]; done))) | (rw [if_neg (by omega)]; done)⟩
      · skip
        refine R_iconst hX dX12_refusal_42 ?_
        refine R_goto (tgt := 47) hX dX12_refusal_43 (by decide) ?_
        exact R_iret hX dX12_refusal_47 ⟨hH, by first | (rw [if_pos (by omega)]; first | (rw [if_pos (by assumption)]; done) | (rw [if_neg (by omega)]; first | (rw [if_pos (by assumption)]; done) | (rw [if_neg (by assumption)]; done))) | (rw [if_neg (by omega)]; done)⟩
    · skip
      refine R_iconst hX dX12_refusal_27 ?_
      refine R_goto (tgt := 47) hX dX12_refusal_28 (by decide) ?_
      exact R_iret hX dX12_refusal_47 ⟨hH, by first | (rw [if_pos (by omega)]; first | (rw [if_pos (by assumption)]; done) | (rw [if_neg (by omega)]; first | (rw [if_pos (by assumption)]; done) | (rw [if_neg (by assumption)]; done))) | (rw [if_neg (by omega)]; done)⟩
  · skip
    refine R_iconst hX dX12_refusal_14 ?_
    exact R_iret hX dX12_refusal_15 ⟨hH, by first | (rw [if_pos (by omega)]; first | (rw [if_pos (by assumption)]; done) | (rw [if_neg (by omega)]; first | (rw [if_pos (by assumption)]; done) | (rw [if_neg (by assumption)]; done))) | (rw [if_neg (by omega)]; done)⟩
set_option maxRecDepth 100000 in
set_option maxHeartbeats 4000000 in
theorem r_nextLeaf {V : VX} {F : Hp} {K : Int} (h : RI K F) (hK : K ≤ 1000000)  : Ct V yX12_nextLeaf cX12_nextLeaf 1 (some .int) 4 92 0 0 SH [vr V 136] F SH 1 (fun r F' => F' = up F 136 0 0 ∧ r = chlS 1000 1100 (vw 0 F')) := by
  refine Ct.of [some (vr V 136)] (by decide) (by simp [lg_sl, vi_cat, vl_cat, vr_cat]) rfl (by simp [asc, lv_args, vi_cat, vl_cat, vr_cat]) (fun X hV hX => ?_)
  subst hV
  refine R_aload_0 hX dX12_nextLeaf_0 ?_
  refine R_iconst hX dX12_nextLeaf_1 ?_
  refine R_puti hX dX12_nextLeaf_2 fl_X12_88 o_136 rfl ?_
  refine R.gen (fun H hH => ?_)
  have hR : RI K H := by rw [hH]; exact h.z
  have hN := ri_N hR
  have hT := ri_T hR
  refine R_aload_0 hX dX12_nextLeaf_5 ?_
  refine R_v0i hX dX12_nextLeaf_6 li_X12_285 mk_X12_chosen mi_X12_chosen rfl o_136 (r_chosen hR hK) ⟨⟨by decide, by decide⟩, by decide, by decide, rfl, Nat.le_of_ble_eq_true rfl, rfl⟩ (fun x_6 F_6 h_6 => ?_)
  obtain ⟨h_6, e_6⟩ := h_6; replace e_6 := e_6.symm; subst e_6
  exact R_iret hX dX12_nextLeaf_9 ⟨hH, h_6⟩
set_option maxRecDepth 100000 in
set_option maxHeartbeats 4000000 in
theorem r_greatestCost {V : VX} {F : Hp} {K : Int} (h : RI K F) {l : Int} (h1 : I32 l)  : Ct V yX12_greatestCost cX12_greatestCost 4 (some .int) 3 68 0 0 SH [vr V 136, vi l] F SH 1 (fun r F' => F' = up F 136 0 0 ∧ r = (if 0 ≤ l ∧ l < F' 136 3 ∧ chlC (F' 141) (F' 136 3) l = 0 then gcS (fun c => lndS 1000 1100 (vw 0 F') l c) 99 else -1)) := by
  refine Ct.of [some (vr V 136), some (vi l), none, none] (by decide) (by simp [lg_sl, vi_cat, vl_cat, vr_cat]) rfl (by simp [asc, lv_args, vi_cat, vl_cat, vr_cat]) (fun X hV hX => ?_)
  subst hV
  refine R_aload_0 hX dX12_greatestCost_0 ?_
  refine R_iconst hX dX12_greatestCost_1 ?_
  refine R_puti hX dX12_greatestCost_2 fl_X12_88 o_136 rfl ?_
  refine R.gen (fun H hH => ?_)
  have hR : RI K H := by rw [hH]; exact h.z
  have hN := ri_N hR
  have hT := ri_T hR
  refine R_aload_0 hX dX12_greatestCost_5 ?_
  refine R_iload_1 hX dX12_greatestCost_6 ?_
  refine R_v1i hX dX12_greatestCost_7 li_X12_247 mk_X12_isBare mi_X12_isBare rfl o_136 (r_isBare hR h1) ⟨⟨by decide, by decide⟩, by decide, by decide, rfl, Nat.le_of_ble_eq_true rfl, rfl⟩ (fun x_7 F_7 h_7 => ?_)
  obtain ⟨h_7, e_7⟩ := h_7; replace e_7 := e_7.symm; subst e_7
  refine R_ifne (tgt := 15) hX dX12_greatestCost_10 (by decide) (by constructor <;> first | omega | (simp (disch := omega) only [up_k, up_i, up_s]; omega)) (fun c_10 => ?_) (fun c_10 => ?_)
  · skip
    refine R_iconst hX dX12_greatestCost_15 ?_
    refine R_istore_2 hX c1_i dX12_greatestCost_16 ?_
    refine R_iconst hX dX12_greatestCost_17 ?_
    refine R_istore_3 hX c1_i dX12_greatestCost_18 ?_
    have lp_19 : ∀ (n : Nat) (m : Int) (c : Int), (1 ≤ c ∧ c ≤ 100) → (m = gcS (fun c => lndS 1000 1100 (vw 0 H) l c) (c - 1).toNat) → (101 - c).toNat < n → R X SH 0 0 19 [some (vr (xV X) 136), some (vi l), some (vi m), some (vi c)] [] H (Zq X SH 1 (fun r F' => F' = up F 136 0 0 ∧ r = (if 0 ≤ l ∧ l < F' 136 3 ∧ chlC (F' 141) (F' 136 3) l = 0 then gcS (fun c => lndS 1000 1100 (vw 0 F') l c) 99 else -1)) 0 0) := by
      intro n
      induction n with
      | zero => intro m c iv19_0 iv19_1 hm; exact absurd hm (Nat.not_lt_zero _)
      | succ n ih_19 =>
        intro m c iv19_0 iv19_1 hm_19
        refine R_iload_3 hX dX12_greatestCost_19 ?_
        refine R_bipush hX dX12_greatestCost_20 (by decide) ?_
        refine R_icmpgt (tgt := 48) hX dX12_greatestCost_22 (by decide) (by constructor <;> first | omega | (simp (disch := omega) only [up_k, up_i, up_s]; omega)) (by constructor <;> first | omega | (simp (disch := omega) only [up_k, up_i, up_s]; omega)) (fun c_22 => ?_) (fun c_22 => ?_)
        · skip
          refine R_iload_2 hX dX12_greatestCost_48 ?_
          exact R_iret hX dX12_greatestCost_49 ⟨hH, by first | (rw [if_pos (by omega), iv19_1, show c = 100 by omega]; rfl) | (rw [if_neg (by omega)]; done)⟩
        · skip
          refine R_aload_0 hX dX12_greatestCost_25 ?_
          refine R_iload_1 hX dX12_greatestCost_26 ?_
          refine R_iload_3 hX dX12_greatestCost_27 ?_
          refine R_v2i hX dX12_greatestCost_28 li_X12_266 mk_X12_lends mi_X12_lends rfl o_136 (r_lends hR (by omega) (by constructor <;> omega)) ⟨⟨by decide, by decide⟩, by decide, by decide, rfl, Nat.le_of_ble_eq_true rfl, rfl⟩ (fun x_28 F_28 h_28 => ?_)
          obtain ⟨h_28, e_28⟩ := h_28; replace e_28 := e_28.symm; subst e_28
          have hlr := lndS_rng (b := 1000) (c := c) hR.1.2.1 (show l < vw 0 H 1100 0 by rw [vw_1100_0]; omega)
          refine R_bipush hX dX12_greatestCost_31 (by decide) ?_
          refine R_icmpeq (tgt := 40) hX dX12_greatestCost_33 (by decide) (by constructor <;> first | omega | (simp (disch := omega) only [up_k, up_i, up_s]; omega)) (by constructor <;> first | omega | (simp (disch := omega) only [up_k, up_i, up_s]; omega)) (fun c_33 => ?_) (fun c_33 => ?_)
          · skip
            refine R_iload_2 hX dX12_greatestCost_40 ?_
            refine R_istore_2 hX c1_i dX12_greatestCost_41 ?_
            refine R_iinc_3 hX c1_i dX12_greatestCost_42 ?_
            refine R_goto (tgt := 19) hX dX12_greatestCost_45 (by decide) ?_
            exact ih_19 _ (c + 1) (by omega) (by rw [show c + 1 - 1 = c by omega, gcS_st (by omega), ← iv19_1]; first | (rw [if_pos (by rw [← h_28]; exact c_33)]; done) | (rw [if_neg (fun z => z (by rw [← h_28]; exact c_33))]; done)) (by omega)
          · skip
            refine R_iload_3 hX dX12_greatestCost_36 ?_
            refine R_goto (tgt := 41) hX dX12_greatestCost_37 (by decide) ?_
            refine R_istore_2 hX c1_i dX12_greatestCost_41 ?_
            refine R_iinc_3 hX c1_i dX12_greatestCost_42 ?_
            refine R_goto (tgt := 19) hX dX12_greatestCost_45 (by decide) ?_
            exact ih_19 _ (c + 1) (by omega) (by rw [show c + 1 - 1 = c by omega, gcS_st (by omega), ← iv19_1]; first | (rw [if_pos (by rw [← h_28]; exact c_33)]; done) | (rw [if_neg (fun z => z (by rw [← h_28]; exact c_33))]; done)) (by omega)
    exact lp_19 102 0 1 (by omega) rfl (by omega)
  · skip
    refine R_iconst hX dX12_greatestCost_13 ?_
    exact R_iret hX dX12_greatestCost_14 ⟨hH, by first | (rw [if_pos (by omega), iv19_1, show c = 100 by omega]; rfl) | (rw [if_neg (by omega)]; done)⟩
set_option maxRecDepth 100000 in
set_option maxHeartbeats 4000000 in
theorem r_queuedCost {V : VX} {F : Hp} {K : Int} (h : RI K F) {l : Int} (h1 : I32 l)  : Ct V yX12_queuedCost cX12_queuedCost 4 (some .int) 3 68 0 0 SH [vr V 136, vi l] F SH 1 (fun r F' => F' = up F 136 0 0 ∧ r = (if 0 ≤ l ∧ l < F' 136 3 ∧ chlC (F' 141) (F' 136 3) l = 0 then sumN (fun k => F' 137 (147 + 3 * (l * 16 + k) + 1)) (F' 137 (135 + l)).toNat else -1)) := by
  refine Ct.of [some (vr V 136), some (vi l), none, none] (by decide) (by simp [lg_sl, vi_cat, vl_cat, vr_cat]) rfl (by simp [asc, lv_args, vi_cat, vl_cat, vr_cat]) (fun X hV hX => ?_)
  subst hV
  refine R_aload_0 hX dX12_queuedCost_0 ?_
  refine R_iconst hX dX12_queuedCost_1 ?_
  refine R_puti hX dX12_queuedCost_2 fl_X12_88 o_136 rfl ?_
  refine R.gen (fun H hH => ?_)
  have hR : RI K H := by rw [hH]; exact h.z
  have hN := ri_N hR
  have hT := ri_T hR
  have hQ := ri_Q hR
  refine R_aload_0 hX dX12_queuedCost_5 ?_
  refine R_iload_1 hX dX12_queuedCost_6 ?_
  refine R_v1i hX dX12_queuedCost_7 li_X12_247 mk_X12_isBare mi_X12_isBare rfl o_136 (r_isBare hR h1) ⟨⟨by decide, by decide⟩, by decide, by decide, rfl, Nat.le_of_ble_eq_true rfl, rfl⟩ (fun x_7 F_7 h_7 => ?_)
  obtain ⟨h_7, e_7⟩ := h_7; replace e_7 := e_7.symm; subst e_7
  refine R_ifne (tgt := 15) hX dX12_queuedCost_10 (by decide) (by constructor <;> first | omega | (simp (disch := omega) only [up_k, up_i, up_s]; omega)) (fun c_10 => ?_) (fun c_10 => ?_)
  · skip
    have hq := hQ.2.1 l (by omega) (by omega)
    refine R_iconst hX dX12_queuedCost_15 ?_
    refine R_istore_2 hX c1_i dX12_queuedCost_16 ?_
    refine R_iconst hX dX12_queuedCost_17 ?_
    refine R_istore_3 hX c1_i dX12_queuedCost_18 ?_
    have lp_19 : ∀ (n : Nat) (m : Int) (x : Int), (0 ≤ x ∧ x ≤ H 137 (135 + l)) → (m = sumN (fun k => H 137 (147 + 3 * (l * 16 + k) + 1)) x.toNat) → (20 - x).toNat < n → R X SH 0 0 19 [some (vr (xV X) 136), some (vi l), some (vi m), some (vi x)] [] H (Zq X SH 1 (fun r F' => F' = up F 136 0 0 ∧ r = (if 0 ≤ l ∧ l < F' 136 3 ∧ chlC (F' 141) (F' 136 3) l = 0 then sumN (fun k => F' 137 (147 + 3 * (l * 16 + k) + 1)) (F' 137 (135 + l)).toNat else -1)) 0 0) := by
      intro n
      induction n with
      | zero => intro m x iv19_0 iv19_1 hm; exact absurd hm (Nat.not_lt_zero _)
      | succ n ih_19 =>
        intro m x iv19_0 iv19_1 hm_19
        have hbm := sumN_bd (f := (fun k => H 137 (147 + 3 * (l * 16 + k) + 1))) (c := 99) x.toNat (by intro j z0 z1; have := hQ.2.2 l (by omega) (by omega) j z0 (by omega); show 0 ≤ H 137 (147 + 3 * (l * 16 + j) + 1) ∧ _; omega)
        rw [← iv19_1] at hbm
        refine R_iload_3 hX dX12_queuedCost_19 ?_
        refine R_aload_0 hX dX12_queuedCost_20 ?_
        refine R_getq (v := 137) hX dX12_queuedCost_21 fl_X12_7 o_136 rfl (by omega) ?_
        refine R_sipush hX dX12_queuedCost_24 (by decide) ?_
        refine R_iload_1 hX dX12_queuedCost_27 ?_
        refine R_iadd hX dX12_queuedCost_28 ?_
        refine R_iald hX dX12_queuedCost_29 a_137 ⟨by omega, by omega⟩ ?_
        refine R_icmpge (tgt := 54) hX dX12_queuedCost_30 (by decide) (by constructor <;> first | omega | (simp (disch := omega) only [up_k, up_i, up_s]; omega)) (by constructor <;> first | omega | (simp (disch := omega) only [up_k, up_i, up_s]; omega)) (fun c_30 => ?_) (fun c_30 => ?_)
        · skip
          refine R_iload_2 hX dX12_queuedCost_54 ?_
          exact R_iret hX dX12_queuedCost_55 ⟨hH, by first | (rw [if_pos (by omega), iv19_1, show x = H 137 (135 + l) by omega]; done) | (rw [if_neg (by omega)]; done)⟩
        · skip
          refine R_iload_2 hX dX12_queuedCost_33 ?_
          refine R_aload_0 hX dX12_queuedCost_34 ?_
          refine R_getq (v := 137) hX dX12_queuedCost_35 fl_X12_7 o_136 rfl (by omega) ?_
          refine R_iload_1 hX dX12_queuedCost_38 ?_
          refine R_iload_3 hX dX12_queuedCost_39 ?_
          refine R_s2i hX dX12_queuedCost_40 li_X12_272 mk_X12_place ms_X12_place (r_place) ⟨⟨by decide, by decide⟩, by decide, by decide, rfl, Nat.le_of_ble_eq_true rfl, rfl⟩ (fun x_40 F_40 h_40 => ?_)
          obtain ⟨h_40, e_40⟩ := h_40; replace e_40 := e_40.symm; subst e_40
          rw [h_40]
          refine R_iconst hX dX12_queuedCost_43 ?_
          refine R_iadd hX dX12_queuedCost_44 ?_
          refine R_iald hX dX12_queuedCost_45 a_137 ⟨by omega, by omega⟩ ?_
          refine R_iadd hX dX12_queuedCost_46 ?_
          refine R_istore_2 hX c1_i dX12_queuedCost_47 ?_
          refine R_iinc_3 hX c1_i dX12_queuedCost_48 ?_
          refine R_goto (tgt := 19) hX dX12_queuedCost_51 (by decide) ?_
          exact ih_19 _ (x + 1) (by omega) (by rw [sumN_s (by omega), ← iv19_1]) (by omega)
    exact lp_19 22 0 0 (by omega) rfl (by omega)
  · skip
    refine R_iconst hX dX12_queuedCost_13 ?_
    exact R_iret hX dX12_queuedCost_14 ⟨hH, by first | (rw [if_pos (by omega), iv19_1, show x = H 137 (135 + l) by omega]; done) | (rw [if_neg (by omega)]; done)⟩
