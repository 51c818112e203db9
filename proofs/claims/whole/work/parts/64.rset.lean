set_option maxRecDepth 100000 in
set_option maxHeartbeats 4000000 in
theorem r_child {V : VX} {F : Hp} {K : Int} (h : RI K F) {d i : Int} (h1 : I32 d) (h2 : I32 i)  : Ct V yX12_child cX12_child 5 (some .int) 2 46 0 0 SH [vr V 136, vi d, vi i] F SH 1 (fun r F' => F' = up F 136 0 0 ∧ r = (if (0 ≤ d ∧ d < F' 136 3) ∧ 0 ≤ i then chS (F' 141) d (F' 136 3) i 12 1 else -1)) := by
  refine Ct.of [some (vr V 136), some (vi d), some (vi i), none, none] (by decide) (by simp [lg_sl, vi_cat, vl_cat, vr_cat]) rfl (by simp [asc, lv_args, vi_cat, vl_cat, vr_cat]) (fun X hV hX => ?_)
  subst hV
  refine R_aload_0 hX dX12_child_0 ?_
  refine R_iconst hX dX12_child_1 ?_
  refine R_puti hX dX12_child_2 fl_X12_88 o_136 rfl ?_
  refine R.gen (fun H hH => ?_)
  have hR : RI K H := by rw [hH]; exact h.z
  have hN := ri_N hR
  have hT := ri_T hR
  refine R_aload_0 hX dX12_child_5 ?_
  refine R_iload_1 hX dX12_child_6 ?_
  refine R_v1i hX dX12_child_7 li_X12_98 mk_X12_isNode mi_X12_isNode rfl o_136 (r_isNode hR h1) ⟨⟨by decide, by decide⟩, by decide, by decide, rfl, Nat.le_of_ble_eq_true rfl, rfl⟩ (fun x_7 F_7 h_7 => ?_)
  obtain ⟨h_7, e_7⟩ := h_7; replace e_7 := e_7.symm; subst e_7
  refine R_ifeq (tgt := 17) hX dX12_child_10 (by decide) (by constructor <;> first | omega | (simp (disch := omega) only [up_k, up_i, up_s]; omega)) (fun c_10 => ?_) (fun c_10 => ?_)
  · skip
    refine R_iconst hX dX12_child_17 ?_
    exact R_iret hX dX12_child_18 ⟨hH, by rw [if_neg (by omega)]⟩
  · skip
    refine R_iload_2 hX dX12_child_13 ?_
    refine R_ifge (tgt := 19) hX dX12_child_14 (by decide) (by constructor <;> first | omega | (simp (disch := omega) only [up_k, up_i, up_s]; omega)) (fun c_14 => ?_) (fun c_14 => ?_)
    · skip
      refine R_iload_2 hX dX12_child_19 ?_
      refine R_istore_3 hX c1_i dX12_child_20 ?_
      refine R_iconst hX dX12_child_21 ?_
      refine R_istore_4 hX c1_i dX12_child_22 ?_
      have lp_24 : ∀ (n : Nat) (q : Nat) (j : Int) (x : Int), (1 ≤ x ∧ x ≤ H 136 3 ∧ H 136 3 - x ≤ q) → (0 ≤ j ∧ j ≤ i) → (chS (H 141) d (H 136 3) j q x = chS (H 141) d (H 136 3) i 12 1) → (13 - x).toNat < n → R X SH 0 0 24 [some (vr (xV X) 136), some (vi d), some (vi i), some (vi j), some (vi x)] [] H (Zq X SH 1 (fun r F' => F' = up F 136 0 0 ∧ r = (if (0 ≤ d ∧ d < F' 136 3) ∧ 0 ≤ i then chS (F' 141) d (F' 136 3) i 12 1 else -1)) 0 0) := by
        intro n
        induction n with
        | zero => intro q j x iv24_0 iv24_1 iv24_2 hm; exact absurd hm (Nat.not_lt_zero _)
        | succ n ih_24 =>
          intro q j x iv24_0 iv24_1 iv24_2 hm_24
          refine R_iload_4 hX dX12_child_24 ?_
          refine R_aload_0 hX dX12_child_26 ?_
          refine R_geti hX dX12_child_27 fl_X12_91 o_136 rfl ?_
          refine R_icmpge (tgt := 60) hX dX12_child_30 (by decide) (by constructor <;> first | omega | (simp (disch := omega) only [up_k, up_i, up_s]; omega)) (by constructor <;> first | omega | (simp (disch := omega) only [up_k, up_i, up_s]; omega)) (fun c_30 => ?_) (fun c_30 => ?_)
          · skip
            refine R_bipush hX dX12_child_60 (by decide) ?_
            exact R_iret hX dX12_child_62 ⟨hH, by rw [if_pos (by omega), ← iv24_2, chS_end (by omega)]⟩
          · skip
            refine R_aload_0 hX dX12_child_33 ?_
            refine R_getq (v := 141) hX dX12_child_34 fl_X12_31 o_136 rfl (by omega) ?_
            refine R_iload_4 hX dX12_child_37 ?_
            refine R_iald hX dX12_child_39 a_141 ⟨by omega, by omega⟩ ?_
            have htx := hT x (by omega) (by omega)
            refine R_iload_1 hX dX12_child_40 ?_
            refine R_icmpne (tgt := 54) hX dX12_child_41 (by decide) (by constructor <;> first | omega | (simp (disch := omega) only [up_k, up_i, up_s]; omega)) (by constructor <;> first | omega | (simp (disch := omega) only [up_k, up_i, up_s]; omega)) (fun c_41 => ?_) (fun c_41 => ?_)
            · skip
              refine R_iinc_4 hX c1_i dX12_child_54 ?_
              refine R_goto (tgt := 24) hX dX12_child_57 (by decide) ?_
              exact ih_24 (q - 1) _ (x + 1) (by omega) (by omega) (by rw [← iv24_2]; first | exact (chS_next (by omega) (by omega) c_41 (by omega)).symm | exact (chS_skip (by omega) (by omega) c_41).symm) (by omega)
            · skip
              refine R_iload_3 hX dX12_child_44 ?_
              refine R_ifne (tgt := 51) hX dX12_child_45 (by decide) (by constructor <;> first | omega | (simp (disch := omega) only [up_k, up_i, up_s]; omega)) (fun c_45 => ?_) (fun c_45 => ?_)
              · skip
                refine R_iinc_3 hX c1_i dX12_child_51 ?_
                refine R_iinc_4 hX c1_i dX12_child_54 ?_
                refine R_goto (tgt := 24) hX dX12_child_57 (by decide) ?_
                exact ih_24 (q - 1) _ (x + 1) (by omega) (by omega) (by rw [← iv24_2]; first | exact (chS_next (by omega) (by omega) c_41 (by omega)).symm | exact (chS_skip (by omega) (by omega) c_41).symm) (by omega)
              · skip
                refine R_iload_4 hX dX12_child_48 ?_
                exact R_iret hX dX12_child_50 ⟨hH, by rw [if_pos (by omega), ← iv24_2, chS_hit (by omega) (by omega) c_41 (by omega)]⟩
      exact lp_24 14 12 i 1 (by omega) (by omega) rfl (by omega)
    · skip
      refine R_iconst hX dX12_child_17 ?_
      exact R_iret hX dX12_child_18 ⟨hH, by rw [if_neg (by omega)]⟩
set_option maxRecDepth 100000 in
set_option maxHeartbeats 4000000 in
theorem r_isOversubscribed {V : VX} {F : Hp} {K : Int} (h : RI K F) {d : Int} (h1 : I32 d)  : Ct V yX12_isOversubscribed cX12_isOversubscribed 4 (some .boolean) 2 46 0 0 SH [vr V 136, vi d] F SH 1 (fun r F' => F' = up F 136 0 0 ∧ ((r = 1 ∧ (0 ≤ d ∧ d < F' 136 3 ∧ F' 137 (99 + d) < sumN (fun c => if F' 141 c = d then F' 137 (99 + c) else 0) (F' 136 3).toNat)) ∨ (r = 0 ∧ ¬ (0 ≤ d ∧ d < F' 136 3 ∧ F' 137 (99 + d) < sumN (fun c => if F' 141 c = d then F' 137 (99 + c) else 0) (F' 136 3).toNat)))) := by
  refine Ct.of [some (vr V 136), some (vi d), none, none] (by decide) (by simp [lg_sl, vi_cat, vl_cat, vr_cat]) rfl (by simp [asc, lv_args, vi_cat, vl_cat, vr_cat]) (fun X hV hX => ?_)
  subst hV
  refine R_aload_0 hX dX12_isOversubscribed_0 ?_
  refine R_iconst hX dX12_isOversubscribed_1 ?_
  refine R_puti hX dX12_isOversubscribed_2 fl_X12_88 o_136 rfl ?_
  refine R.gen (fun H hH => ?_)
  have hR : RI K H := by rw [hH]; exact h.z
  have hN := ri_N hR
  have hT := ri_T hR
  have hA := ri_A hR
  have hSS := ri_S hR
  have hP := ri_P hR
  refine R_aload_0 hX dX12_isOversubscribed_5 ?_
  refine R_iload_1 hX dX12_isOversubscribed_6 ?_
  refine R_v1i hX dX12_isOversubscribed_7 li_X12_98 mk_X12_isNode mi_X12_isNode rfl o_136 (r_isNode hR h1) ⟨⟨by decide, by decide⟩, by decide, by decide, rfl, Nat.le_of_ble_eq_true rfl, rfl⟩ (fun x_7 F_7 h_7 => ?_)
  obtain ⟨h_7, e_7⟩ := h_7; replace e_7 := e_7.symm; subst e_7
  refine R_ifne (tgt := 15) hX dX12_isOversubscribed_10 (by decide) (by constructor <;> first | omega | (simp (disch := omega) only [up_k, up_i, up_s]; omega)) (fun c_10 => ?_) (fun c_10 => ?_)
  · skip
    refine R_iconst hX dX12_isOversubscribed_15 ?_
    refine R_istore_2 hX c1_i dX12_isOversubscribed_16 ?_
    refine R_iconst hX dX12_isOversubscribed_17 ?_
    refine R_istore_3 hX c1_i dX12_isOversubscribed_18 ?_
    have lp_19 : ∀ (n : Nat) (m : Int) (x : Int), (1 ≤ x ∧ x ≤ H 136 3) → (m = sumN (fun c => if H 141 c = d then H 137 (99 + c) else 0) x.toNat) → (13 - x).toNat < n → R X SH 0 0 19 [some (vr (xV X) 136), some (vi d), some (vi m), some (vi x)] [] H (Zq X SH 1 (fun r F' => F' = up F 136 0 0 ∧ ((r = 1 ∧ (0 ≤ d ∧ d < F' 136 3 ∧ F' 137 (99 + d) < sumN (fun c => if F' 141 c = d then F' 137 (99 + c) else 0) (F' 136 3).toNat)) ∨ (r = 0 ∧ ¬ (0 ≤ d ∧ d < F' 136 3 ∧ F' 137 (99 + d) < sumN (fun c => if F' 141 c = d then F' 137 (99 + c) else 0) (F' 136 3).toNat)))) 0 0) := by
      intro n
      induction n with
      | zero => intro m x iv19_0 iv19_1 hm; exact absurd hm (Nat.not_lt_zero _)
      | succ n ih_19 =>
        intro m x iv19_0 iv19_1 hm_19
        have hbm := sumN_bd (f := (fun c => if H 141 c = d then H 137 (99 + c) else 0)) (c := 99) x.toNat (by intro j z0 z1; have := hA j z0 (by omega); show 0 ≤ (if H 141 j = d then H 137 (99 + j) else 0) ∧ _; split <;> omega)
        rw [← iv19_1] at hbm
        refine R_iload_3 hX dX12_isOversubscribed_19 ?_
        refine R_aload_0 hX dX12_isOversubscribed_20 ?_
        refine R_geti hX dX12_isOversubscribed_21 fl_X12_91 o_136 rfl ?_
        refine R_icmpge (tgt := 59) hX dX12_isOversubscribed_24 (by decide) (by constructor <;> first | omega | (simp (disch := omega) only [up_k, up_i, up_s]; omega)) (by constructor <;> first | omega | (simp (disch := omega) only [up_k, up_i, up_s]; omega)) (fun c_24 => ?_) (fun c_24 => ?_)
        · skip
          have hax := hA d (by omega) (by omega)
          have hxe : x = H 136 3 := by omega
          subst hxe
          rw [iv19_1] at hbm ⊢
          refine R_iload_2 hX dX12_isOversubscribed_59 ?_
          refine R_aload_0 hX dX12_isOversubscribed_60 ?_
          refine R_getq (v := 137) hX dX12_isOversubscribed_61 fl_X12_7 o_136 rfl (by omega) ?_
          refine R_bipush hX dX12_isOversubscribed_64 (by decide) ?_
          refine R_iload_1 hX dX12_isOversubscribed_66 ?_
          refine R_iadd hX dX12_isOversubscribed_67 ?_
          refine R_iald hX dX12_isOversubscribed_68 a_137 ⟨by omega, by omega⟩ ?_
          refine R_icmple (tgt := 76) hX dX12_isOversubscribed_69 (by decide) (by constructor <;> first | omega | (simp (disch := omega) only [up_k, up_i, up_s]; omega)) (by constructor <;> first | omega | (simp (disch := omega) only [up_k, up_i, up_s]; omega)) (fun c_69 => ?_) (fun c_69 => ?_)
          · skip
            refine R_iconst hX dX12_isOversubscribed_76 ?_
            exact R_zret hX (by omega) dX12_isOversubscribed_77 ⟨hH, by first | exact Or.inr ⟨rfl, by omega⟩ | exact Or.inl ⟨rfl, by omega⟩⟩
          · skip
            refine R_iconst hX dX12_isOversubscribed_72 ?_
            refine R_goto (tgt := 77) hX dX12_isOversubscribed_73 (by decide) ?_
            exact R_zret hX (by omega) dX12_isOversubscribed_77 ⟨hH, by first | exact Or.inr ⟨rfl, by omega⟩ | exact Or.inl ⟨rfl, by omega⟩⟩
        · skip
          refine R_iload_2 hX dX12_isOversubscribed_27 ?_
          refine R_aload_0 hX dX12_isOversubscribed_28 ?_
          refine R_getq (v := 141) hX dX12_isOversubscribed_29 fl_X12_31 o_136 rfl (by omega) ?_
          refine R_iload_3 hX dX12_isOversubscribed_32 ?_
          have htx := hT x (by omega) (by omega)
          refine R_iald hX dX12_isOversubscribed_33 a_141 ⟨by omega, by omega⟩ ?_
          refine R_iload_1 hX dX12_isOversubscribed_34 ?_
          refine R_icmpne (tgt := 50) hX dX12_isOversubscribed_35 (by decide) (by constructor <;> first | omega | (simp (disch := omega) only [up_k, up_i, up_s]; omega)) (by constructor <;> first | omega | (simp (disch := omega) only [up_k, up_i, up_s]; omega)) (fun c_35 => ?_) (fun c_35 => ?_)
          · skip
            refine R_iconst hX dX12_isOversubscribed_50 ?_
            refine R_iadd hX dX12_isOversubscribed_51 ?_
            refine R_istore_2 hX c1_i dX12_isOversubscribed_52 ?_
            refine R_iinc_3 hX c1_i dX12_isOversubscribed_53 ?_
            refine R_goto (tgt := 19) hX dX12_isOversubscribed_56 (by decide) ?_
            exact ih_19 _ (x + 1) (by omega) (by rw [sumN_s (by omega), ← iv19_1]; first | (rw [if_pos c_35]; done) | (rw [if_neg c_35]; done)) (by omega)
          · skip
            have hax := hA x (by omega) (by omega)
            refine R_aload_0 hX dX12_isOversubscribed_38 ?_
            refine R_getq (v := 137) hX dX12_isOversubscribed_39 fl_X12_7 o_136 rfl (by omega) ?_
            refine R_bipush hX dX12_isOversubscribed_42 (by decide) ?_
            refine R_iload_3 hX dX12_isOversubscribed_44 ?_
            refine R_iadd hX dX12_isOversubscribed_45 ?_
            refine R_iald hX dX12_isOversubscribed_46 a_137 ⟨by omega, by omega⟩ ?_
            refine R_goto (tgt := 51) hX dX12_isOversubscribed_47 (by decide) ?_
            refine R_iadd hX dX12_isOversubscribed_51 ?_
            refine R_istore_2 hX c1_i dX12_isOversubscribed_52 ?_
            refine R_iinc_3 hX c1_i dX12_isOversubscribed_53 ?_
            refine R_goto (tgt := 19) hX dX12_isOversubscribed_56 (by decide) ?_
            exact ih_19 _ (x + 1) (by omega) (by rw [sumN_s (by omega), ← iv19_1]; first | (rw [if_pos c_35]; done) | (rw [if_neg c_35]; done)) (by omega)
    exact lp_19 14 0 1 (by omega) (by have hp0 := (hP 0 (by omega) (by omega)).1 rfl; show (0 : Int) = 0 + (if H 141 0 = d then H 137 (99 + 0) else 0); rw [if_neg (by show ¬ H 141 0 = d; omega)]; rfl) (by omega)
  · skip
    refine R_iconst hX dX12_isOversubscribed_13 ?_
    exact R_zret hX (by omega) dX12_isOversubscribed_14 ⟨hH, by first | exact Or.inr ⟨rfl, by omega⟩ | exact Or.inl ⟨rfl, by omega⟩⟩
set_option maxRecDepth 100000 in
set_option maxHeartbeats 4000000 in
theorem r_pathCeiling {V : VX} {F : Hp} {K : Int} (h : RI K F) {d : Int} (h1 : I32 d)  : Ct V yX12_pathCeiling cX12_pathCeiling 4 (some .int) 2 46 0 0 SH [vr V 136, vi d] F SH 1 (fun r F' => F' = up F 136 0 0 ∧ r = (if 0 ≤ d ∧ d < F' 136 3 then lcS (fun i => F' 137 (111 + i)) (F' 141) 13 d 999 else -1)) := by
  refine Ct.of [some (vr V 136), some (vi d), none, none] (by decide) (by simp [lg_sl, vi_cat, vl_cat, vr_cat]) rfl (by simp [asc, lv_args, vi_cat, vl_cat, vr_cat]) (fun X hV hX => ?_)
  subst hV
  refine R_aload_0 hX dX12_pathCeiling_0 ?_
  refine R_iconst hX dX12_pathCeiling_1 ?_
  refine R_puti hX dX12_pathCeiling_2 fl_X12_88 o_136 rfl ?_
  refine R.gen (fun H hH => ?_)
  have hR : RI K H := by rw [hH]; exact h.z
  have hN := ri_N hR
  have hT := ri_T hR
  have hA := ri_A hR
  have hSS := ri_S hR
  refine R_aload_0 hX dX12_pathCeiling_5 ?_
  refine R_iload_1 hX dX12_pathCeiling_6 ?_
  refine R_v1i hX dX12_pathCeiling_7 li_X12_98 mk_X12_isNode mi_X12_isNode rfl o_136 (r_isNode hR h1) ⟨⟨by decide, by decide⟩, by decide, by decide, rfl, Nat.le_of_ble_eq_true rfl, rfl⟩ (fun x_7 F_7 h_7 => ?_)
  obtain ⟨h_7, e_7⟩ := h_7; replace e_7 := e_7.symm; subst e_7
  refine R_ifne (tgt := 15) hX dX12_pathCeiling_10 (by decide) (by constructor <;> first | omega | (simp (disch := omega) only [up_k, up_i, up_s]; omega)) (fun c_10 => ?_) (fun c_10 => ?_)
  · skip
    have han := hA d (by omega) (by omega)
    refine R_aload_0 hX dX12_pathCeiling_15 ?_
    refine R_getq (v := 137) hX dX12_pathCeiling_16 fl_X12_7 o_136 rfl (by omega) ?_
    refine R_bipush hX dX12_pathCeiling_19 (by decide) ?_
    refine R_iload_1 hX dX12_pathCeiling_21 ?_
    refine R_iadd hX dX12_pathCeiling_22 ?_
    refine R_iald hX dX12_pathCeiling_23 a_137 ⟨by omega, by omega⟩ ?_
    refine R_istore_2 hX c1_i dX12_pathCeiling_24 ?_
    refine R_iload_1 hX dX12_pathCeiling_25 ?_
    refine R_istore_3 hX c1_i dX12_pathCeiling_26 ?_
    have lp_27 : ∀ (n : Nat) (k : Nat) (m : Int) (x : Int), (-2 ≤ x ∧ x < H 136 3 ∧ x < k) → (0 ≤ m ∧ m ≤ 999) → (lcS (fun i => H 137 (111 + i)) (H 141) k x m = lcS (fun i => H 137 (111 + i)) (H 141) 13 d 999) → (x + 3).toNat < n → R X SH 0 0 27 [some (vr (xV X) 136), some (vi d), some (vi m), some (vi x)] [] H (Zq X SH 1 (fun r F' => F' = up F 136 0 0 ∧ r = (if 0 ≤ d ∧ d < F' 136 3 then lcS (fun i => F' 137 (111 + i)) (F' 141) 13 d 999 else -1)) 0 0) := by
      intro n
      induction n with
      | zero => intro k m x iv27_0 iv27_1 iv27_2 hm; exact absurd hm (Nat.not_lt_zero _)
      | succ n ih_27 =>
        intro k m x iv27_0 iv27_1 iv27_2 hm_27
        refine R_iload_3 hX dX12_pathCeiling_27 ?_
        refine R_iflt (tgt := 68) hX dX12_pathCeiling_28 (by decide) (by constructor <;> first | omega | (simp (disch := omega) only [up_k, up_i, up_s]; omega)) (fun c_28 => ?_) (fun c_28 => ?_)
        · skip
          refine R_iload_2 hX dX12_pathCeiling_68 ?_
          exact R_iret hX dX12_pathCeiling_69 ⟨hH, by rw [if_pos (by omega), ← iv27_2, lcS_neg (by omega)]⟩
        · skip
          have hax := hA x (by omega) (by omega)
          have htx := hT x (by omega) (by omega)
          refine R_aload_0 hX dX12_pathCeiling_31 ?_
          refine R_getq (v := 137) hX dX12_pathCeiling_32 fl_X12_7 o_136 rfl (by omega) ?_
          refine R_bipush hX dX12_pathCeiling_35 (by decide) ?_
          refine R_iload_3 hX dX12_pathCeiling_37 ?_
          refine R_iadd hX dX12_pathCeiling_38 ?_
          refine R_iald hX dX12_pathCeiling_39 a_137 ⟨by omega, by omega⟩ ?_
          refine R_iload_2 hX dX12_pathCeiling_40 ?_
          refine R_icmpge (tgt := 56) hX dX12_pathCeiling_41 (by decide) (by constructor <;> first | omega | (simp (disch := omega) only [up_k, up_i, up_s]; omega)) (by constructor <;> first | omega | (simp (disch := omega) only [up_k, up_i, up_s]; omega)) (fun c_41 => ?_) (fun c_41 => ?_)
          · skip
            refine R_iload_2 hX dX12_pathCeiling_56 ?_
            refine R_istore_2 hX c1_i dX12_pathCeiling_57 ?_
            refine R_aload_0 hX dX12_pathCeiling_58 ?_
            refine R_getq (v := 141) hX dX12_pathCeiling_59 fl_X12_31 o_136 rfl (by omega) ?_
            refine R_iload_3 hX dX12_pathCeiling_62 ?_
            refine R_iald hX dX12_pathCeiling_63 a_141 ⟨by omega, by omega⟩ ?_
            refine R_istore_3 hX c1_i dX12_pathCeiling_64 ?_
            refine R_goto (tgt := 27) hX dX12_pathCeiling_65 (by decide) ?_
            exact ih_27 (k - 1) _ _ (by omega) (by omega) (by rw [← iv27_2, lcS_go (k := k) (by omega) (by omega)]; congr 1; show _ = min m (H 137 (111 + x)); omega) (by omega)
          · skip
            refine R_aload_0 hX dX12_pathCeiling_44 ?_
            refine R_getq (v := 137) hX dX12_pathCeiling_45 fl_X12_7 o_136 rfl (by omega) ?_
            refine R_bipush hX dX12_pathCeiling_48 (by decide) ?_
            refine R_iload_3 hX dX12_pathCeiling_50 ?_
            refine R_iadd hX dX12_pathCeiling_51 ?_
            refine R_iald hX dX12_pathCeiling_52 a_137 ⟨by omega, by omega⟩ ?_
            refine R_goto (tgt := 57) hX dX12_pathCeiling_53 (by decide) ?_
            refine R_istore_2 hX c1_i dX12_pathCeiling_57 ?_
            refine R_aload_0 hX dX12_pathCeiling_58 ?_
            refine R_getq (v := 141) hX dX12_pathCeiling_59 fl_X12_31 o_136 rfl (by omega) ?_
            refine R_iload_3 hX dX12_pathCeiling_62 ?_
            refine R_iald hX dX12_pathCeiling_63 a_141 ⟨by omega, by omega⟩ ?_
            refine R_istore_3 hX c1_i dX12_pathCeiling_64 ?_
            refine R_goto (tgt := 27) hX dX12_pathCeiling_65 (by decide) ?_
            exact ih_27 (k - 1) _ _ (by omega) (by omega) (by rw [← iv27_2, lcS_go (k := k) (by omega) (by omega)]; congr 1; show _ = min m (H 137 (111 + x)); omega) (by omega)
    exact lp_27 20 13 _ _ (by omega) (by omega) (by rw [lcS_go (by omega) (by omega), lcS_go (a := 999) (by omega) (by omega), show min (H 137 (111 + d)) ((fun i => H 137 (111 + i)) d) = min 999 ((fun i => H 137 (111 + i)) d) by show min (H 137 (111 + d)) (H 137 (111 + d)) = min 999 (H 137 (111 + d)); omega]) (by omega)
  · skip
    refine R_iconst hX dX12_pathCeiling_13 ?_
    exact R_iret hX dX12_pathCeiling_14 ⟨hH, by rw [if_neg (by omega)]⟩
set_option maxRecDepth 100000 in
set_option maxHeartbeats 4000000 in
theorem r_clearQueue {V : VX} {F : Hp} {K : Int} (h : RI K F) {l : Int} (h1 : I32 l)  : Ct V yX12_clearQueue cX12_clearQueue 3 (some .int) 3 68 0 0 SH [vr V 136, vi l] F SH 1 (fun r F' => ∃ H : Hp, H = up F 136 0 0 ∧ ((¬ (0 ≤ l ∧ l < H 136 3 ∧ chlC (H 141) (H 136 3) l = 0) ∧ r = -1 ∧ F' = H) ∨ ((0 ≤ l ∧ l < H 136 3 ∧ chlC (H 141) (H 136 3) l = 0) ∧ r = H 137 (135 + l) ∧ F' = up H 137 (135 + l) 0))) := by
  refine Ct.of [some (vr V 136), some (vi l), none] (by decide) (by simp [lg_sl, vi_cat, vl_cat, vr_cat]) rfl (by simp [asc, lv_args, vi_cat, vl_cat, vr_cat]) (fun X hV hX => ?_)
  subst hV
  refine R_aload_0 hX dX12_clearQueue_0 ?_
  refine R_iconst hX dX12_clearQueue_1 ?_
  refine R_puti hX dX12_clearQueue_2 fl_X12_88 o_136 rfl ?_
  refine R.gen (fun H hH => ?_)
  have hR : RI K H := by rw [hH]; exact h.z
  have hN := ri_N hR
  have hT := ri_T hR
  refine R_aload_0 hX dX12_clearQueue_5 ?_
  refine R_iload_1 hX dX12_clearQueue_6 ?_
  refine R_v1i hX dX12_clearQueue_7 li_X12_247 mk_X12_isBare mi_X12_isBare rfl o_136 (r_isBare hR h1) ⟨⟨by decide, by decide⟩, by decide, by decide, rfl, Nat.le_of_ble_eq_true rfl, rfl⟩ (fun x_7 F_7 h_7 => ?_)
  obtain ⟨h_7, e_7⟩ := h_7; replace e_7 := e_7.symm; subst e_7
  refine R_ifne (tgt := 15) hX dX12_clearQueue_10 (by decide) (by constructor <;> first | omega | (simp (disch := omega) only [up_k, up_i, up_s]; omega)) (fun c_10 => ?_) (fun c_10 => ?_)
  · skip
    refine R_aload_0 hX dX12_clearQueue_15 ?_
    refine R_getq (v := 137) hX dX12_clearQueue_16 fl_X12_7 o_136 rfl (by omega) ?_
    refine R_sipush hX dX12_clearQueue_19 (by decide) ?_
    refine R_iload_1 hX dX12_clearQueue_22 ?_
    refine R_iadd hX dX12_clearQueue_23 ?_
    refine R_iald hX dX12_clearQueue_24 a_137 ⟨by omega, by omega⟩ ?_
    refine R_istore_2 hX c1_i dX12_clearQueue_25 ?_
    refine R_aload_0 hX dX12_clearQueue_26 ?_
    refine R_getq (v := 137) hX dX12_clearQueue_27 fl_X12_7 o_136 rfl (by omega) ?_
    refine R_sipush hX dX12_clearQueue_30 (by decide) ?_
    refine R_iload_1 hX dX12_clearQueue_33 ?_
    refine R_iadd hX dX12_clearQueue_34 ?_
    refine R_iconst hX dX12_clearQueue_35 ?_
    refine R_iast hX dX12_clearQueue_36 a_137 ⟨by omega, by omega⟩ ?_
    refine R_iload_2 hX dX12_clearQueue_37 ?_
    exact R_iret hX dX12_clearQueue_38 ⟨H, hH, Or.inr ⟨by omega, rfl, rfl⟩⟩
  · skip
    refine R_iconst hX dX12_clearQueue_13 ?_
    exact R_iret hX dX12_clearQueue_14 ⟨H, hH, Or.inl ⟨by omega, rfl, rfl⟩⟩
set_option maxRecDepth 100000 in
set_option maxHeartbeats 4000000 in
theorem r_sets {V : VX} {F : Hp} {K : Int} (h : RI K F) {n w x lo hi : Int} (h1 : I32 n) (hw : 0 ≤ w ∧ w ≤ 200) (h2 : I32 x) (h3 : I32 lo) (h4 : I32 hi)  : Ct V yX12_sets cX12_sets 7 (some .int) 2 46 0 0 SH [vr V 136, vi n, vi w, vi x, vi lo, vi hi] F SH 1 (fun r F' => (¬ ((0 ≤ n ∧ n < F 136 3) ∧ lo ≤ x ∧ x ≤ hi) ∧ r = -1 ∧ F' = F) ∨ (((0 ≤ n ∧ n < F 136 3) ∧ lo ≤ x ∧ x ≤ hi) ∧ r = F 137 (w + n) ∧ F' = up F 137 (w + n) x)) := by
  refine Ct.of [some (vr V 136), some (vi n), some (vi w), some (vi x), some (vi lo), some (vi hi), none] (by decide) (by simp [lg_sl, vi_cat, vl_cat, vr_cat]) rfl (by simp [asc, lv_args, vi_cat, vl_cat, vr_cat]) (fun X hV hX => ?_)
  subst hV
  have hN := ri_N h
  have hT := ri_T h
  refine R_aload_0 hX dX12_sets_0 ?_
  refine R_iload_1 hX dX12_sets_1 ?_
  refine R_v1i hX dX12_sets_2 li_X12_98 mk_X12_isNode mi_X12_isNode rfl o_136 (r_isNode h h1) ⟨⟨by decide, by decide⟩, by decide, by decide, rfl, Nat.le_of_ble_eq_true rfl, rfl⟩ (fun x_2 F_2 h_2 => ?_)
  obtain ⟨h_2, e_2⟩ := h_2; replace e_2 := e_2.symm; subst e_2
  refine R_ifeq (tgt := 22) hX dX12_sets_5 (by decide) (by constructor <;> first | omega | (simp (disch := omega) only [up_k, up_i, up_s]; omega)) (fun c_5 => ?_) (fun c_5 => ?_)
  · skip
    refine R_iconst hX dX12_sets_22 ?_
    exact R_iret hX dX12_sets_23 (Or.inl ⟨by omega, rfl, rfl⟩)
  · skip
    refine R_iload_3 hX dX12_sets_8 ?_
    refine R_i2l hX h2 dX12_sets_9 ?_
    refine R_iload_4 hX dX12_sets_10 ?_
    refine R_i2l hX h3 dX12_sets_12 ?_
    refine R_iload_5 hX dX12_sets_13 ?_
    refine R_i2l hX h4 dX12_sets_15 ?_
    refine R_s3i hX dX12_sets_16 li_X12_94 mk_X12_in ms_X12_in (r_in (by constructor <;> omega) (by constructor <;> omega) (by constructor <;> omega)) ⟨⟨by decide, by decide⟩, by decide, by decide, rfl, Nat.le_of_ble_eq_true rfl, rfl⟩ (fun x_16 F_16 h_16 => ?_)
    obtain ⟨h_16, e_16⟩ := h_16; replace e_16 := e_16.symm; subst e_16
    refine R_ifne (tgt := 24) hX dX12_sets_19 (by decide) (by constructor <;> first | omega | (simp (disch := omega) only [up_k, up_i, up_s]; omega)) (fun c_19 => ?_) (fun c_19 => ?_)
    · skip
      refine R_aload_0 hX dX12_sets_24 ?_
      refine R_getq (v := 137) hX dX12_sets_25 fl_X12_7 o_136 rfl (by omega) ?_
      refine R_iload_2 hX dX12_sets_28 ?_
      refine R_iload_1 hX dX12_sets_29 ?_
      refine R_iadd hX dX12_sets_30 ?_
      refine R_iald hX dX12_sets_31 a_137 ⟨by omega, by omega⟩ ?_
      refine R_istore_6 hX c1_i dX12_sets_32 ?_
      refine R_aload_0 hX dX12_sets_34 ?_
      refine R_getq (v := 137) hX dX12_sets_35 fl_X12_7 o_136 rfl (by omega) ?_
      refine R_iload_2 hX dX12_sets_38 ?_
      refine R_iload_1 hX dX12_sets_39 ?_
      refine R_iadd hX dX12_sets_40 ?_
      refine R_iload_3 hX dX12_sets_41 ?_
      refine R_iast hX dX12_sets_42 a_137 ⟨by omega, by omega⟩ ?_
      refine R_iload_6 hX dX12_sets_43 ?_
      exact R_iret hX dX12_sets_45 (Or.inr ⟨by omega, rfl, rfl⟩)
    · skip
      refine R_iconst hX dX12_sets_22 ?_
      exact R_iret hX dX12_sets_23 (Or.inl ⟨by omega, rfl, rfl⟩)
set_option maxRecDepth 100000 in
set_option maxHeartbeats 4000000 in
theorem r_setRate {V : VX} {F : Hp} {K : Int} (h : RI K F) {n x : Int} (h1 : I32 n) (h2 : I32 x)  : Ct V yX12_setRate cX12_setRate 3 (some .int) 3 72 0 0 SH [vr V 136, vi n, vi x] F SH 1 (fun r F' => ∃ H : Hp, H = up F 136 0 0 ∧ ((¬ ((0 ≤ n ∧ n < H 136 3) ∧ 0 ≤ x ∧ x ≤ 99) ∧ r = -1 ∧ F' = H) ∨ (((0 ≤ n ∧ n < H 136 3) ∧ 0 ≤ x ∧ x ≤ 99) ∧ r = H 137 (99 + n) ∧ F' = up H 137 (99 + n) x))) := by
  refine Ct.of [some (vr V 136), some (vi n), some (vi x)] (by decide) (by simp [lg_sl, vi_cat, vl_cat, vr_cat]) rfl (by simp [asc, lv_args, vi_cat, vl_cat, vr_cat]) (fun X hV hX => ?_)
  subst hV
  refine R_aload_0 hX dX12_setRate_0 ?_
  refine R_iconst hX dX12_setRate_1 ?_
  refine R_puti hX dX12_setRate_2 fl_X12_88 o_136 rfl ?_
  refine R.gen (fun H hH => ?_)
  have hR : RI K H := by rw [hH]; exact h.z
  have hN := ri_N hR
  have hT := ri_T hR
  refine R_aload_0 hX dX12_setRate_5 ?_
  refine R_iload_1 hX dX12_setRate_6 ?_
  refine R_bipush hX dX12_setRate_7 (by decide) ?_
  refine R_iload_2 hX dX12_setRate_9 ?_
  refine R_iconst hX dX12_setRate_10 ?_
  refine R_bipush hX dX12_setRate_11 (by decide) ?_
  refine R_v5i hX dX12_setRate_13 li_X12_347 mk_X12_sets mi_X12_sets rfl o_136 (r_sets hR h1 (by omega) h2 (by constructor <;> omega) (by constructor <;> omega)) ⟨⟨by decide, by decide⟩, by decide, by decide, rfl, Nat.le_of_ble_eq_true rfl, rfl⟩ (fun x_13 F_13 h_13 => ?_)
  exact R_iret hX dX12_setRate_16 ⟨H, hH, h_13⟩
set_option maxRecDepth 100000 in
set_option maxHeartbeats 4000000 in
theorem r_setCeiling {V : VX} {F : Hp} {K : Int} (h : RI K F) {n x : Int} (h1 : I32 n) (h2 : I32 x)  : Ct V yX12_setCeiling cX12_setCeiling 3 (some .int) 3 72 0 0 SH [vr V 136, vi n, vi x] F SH 1 (fun r F' => ∃ H : Hp, H = up F 136 0 0 ∧ ((¬ ((0 ≤ n ∧ n < H 136 3) ∧ 0 ≤ x ∧ x ≤ 999) ∧ r = -1 ∧ F' = H) ∨ (((0 ≤ n ∧ n < H 136 3) ∧ 0 ≤ x ∧ x ≤ 999) ∧ r = H 137 (111 + n) ∧ F' = up H 137 (111 + n) x))) := by
  refine Ct.of [some (vr V 136), some (vi n), some (vi x)] (by decide) (by simp [lg_sl, vi_cat, vl_cat, vr_cat]) rfl (by simp [asc, lv_args, vi_cat, vl_cat, vr_cat]) (fun X hV hX => ?_)
  subst hV
  refine R_aload_0 hX dX12_setCeiling_0 ?_
  refine R_iconst hX dX12_setCeiling_1 ?_
  refine R_puti hX dX12_setCeiling_2 fl_X12_88 o_136 rfl ?_
  refine R.gen (fun H hH => ?_)
  have hR : RI K H := by rw [hH]; exact h.z
  have hN := ri_N hR
  have hT := ri_T hR
  refine R_aload_0 hX dX12_setCeiling_5 ?_
  refine R_iload_1 hX dX12_setCeiling_6 ?_
  refine R_bipush hX dX12_setCeiling_7 (by decide) ?_
  refine R_iload_2 hX dX12_setCeiling_9 ?_
  refine R_iconst hX dX12_setCeiling_10 ?_
  refine R_sipush hX dX12_setCeiling_11 (by decide) ?_
  refine R_v5i hX dX12_setCeiling_14 li_X12_347 mk_X12_sets mi_X12_sets rfl o_136 (r_sets hR h1 (by omega) h2 (by constructor <;> omega) (by constructor <;> omega)) ⟨⟨by decide, by decide⟩, by decide, by decide, rfl, Nat.le_of_ble_eq_true rfl, rfl⟩ (fun x_14 F_14 h_14 => ?_)
  exact R_iret hX dX12_setCeiling_17 ⟨H, hH, h_14⟩
set_option maxRecDepth 100000 in
set_option maxHeartbeats 4000000 in
theorem r_setWeight {V : VX} {F : Hp} {K : Int} (h : RI K F) {n x : Int} (h1 : I32 n) (h2 : I32 x)  : Ct V yX12_setWeight cX12_setWeight 3 (some .int) 3 72 0 0 SH [vr V 136, vi n, vi x] F SH 1 (fun r F' => ∃ H : Hp, H = up F 136 0 0 ∧ ((¬ ((0 ≤ n ∧ n < H 136 3) ∧ 1 ≤ x ∧ x ≤ 9) ∧ r = -1 ∧ F' = H) ∨ (((0 ≤ n ∧ n < H 136 3) ∧ 1 ≤ x ∧ x ≤ 9) ∧ r = H 137 (123 + n) ∧ F' = up H 137 (123 + n) x))) := by
  refine Ct.of [some (vr V 136), some (vi n), some (vi x)] (by decide) (by simp [lg_sl, vi_cat, vl_cat, vr_cat]) rfl (by simp [asc, lv_args, vi_cat, vl_cat, vr_cat]) (fun X hV hX => ?_)
  subst hV
  refine R_aload_0 hX dX12_setWeight_0 ?_
  refine R_iconst hX dX12_setWeight_1 ?_
  refine R_puti hX dX12_setWeight_2 fl_X12_88 o_136 rfl ?_
  refine R.gen (fun H hH => ?_)
  have hR : RI K H := by rw [hH]; exact h.z
  have hN := ri_N hR
  have hT := ri_T hR
  refine R_aload_0 hX dX12_setWeight_5 ?_
  refine R_iload_1 hX dX12_setWeight_6 ?_
  refine R_bipush hX dX12_setWeight_7 (by decide) ?_
  refine R_iload_2 hX dX12_setWeight_9 ?_
  refine R_iconst hX dX12_setWeight_10 ?_
  refine R_bipush hX dX12_setWeight_11 (by decide) ?_
  refine R_v5i hX dX12_setWeight_13 li_X12_347 mk_X12_sets mi_X12_sets rfl o_136 (r_sets hR h1 (by omega) h2 (by constructor <;> omega) (by constructor <;> omega)) ⟨⟨by decide, by decide⟩, by decide, by decide, rfl, Nat.le_of_ble_eq_true rfl, rfl⟩ (fun x_13 F_13 h_13 => ?_)
  exact R_iret hX dX12_setWeight_16 ⟨H, hH, h_13⟩
set_option maxRecDepth 100000 in
set_option maxHeartbeats 4000000 in
theorem r_save {V : VX} {F : Hp} {K : Int} (h : RI K F) {k : Int} (h1 : I32 k)  : Ct V yX12_save cX12_save 2 (some .boolean) 1 25 0 0 SH [vr V 136, vi k] F SH 1 (fun r F' => ∃ H : Hp, H = up F 136 0 0 ∧ ((¬ (0 ≤ k ∧ k ≤ 1) ∧ r = 0 ∧ F' = H) ∨ ((0 ≤ k ∧ k ≤ 1) ∧ r = 1 ∧ F' = up (cpR 0 (k + 1) 819 H) 138 k 1))) := by
  refine Ct.of [some (vr V 136), some (vi k)] (by decide) (by simp [lg_sl, vi_cat, vl_cat, vr_cat]) rfl (by simp [asc, lv_args, vi_cat, vl_cat, vr_cat]) (fun X hV hX => ?_)
  subst hV
  refine R_aload_0 hX dX12_save_0 ?_
  refine R_iconst hX dX12_save_1 ?_
  refine R_puti hX dX12_save_2 fl_X12_88 o_136 rfl ?_
  refine R.gen (fun H hH => ?_)
  have hR : RI K H := by rw [hH]; exact h.z
  have hN := ri_N hR
  have hT := ri_T hR
  refine R_iload_1 hX dX12_save_5 ?_
  refine R_i2l hX (by constructor <;> first | omega | (simp (disch := omega) only [up_k, up_i, up_s]; omega)) dX12_save_6 ?_
  refine R_lconst0 hX dX12_save_7 ?_
  refine R_lconst1 hX dX12_save_8 ?_
  refine R_s3i hX dX12_save_9 li_X12_94 mk_X12_in ms_X12_in (r_in (by constructor <;> omega) (by constructor <;> omega) (by constructor <;> omega)) ⟨⟨by decide, by decide⟩, by decide, by decide, rfl, Nat.le_of_ble_eq_true rfl, rfl⟩ (fun x_9 F_9 h_9 => ?_)
  obtain ⟨h_9, e_9⟩ := h_9; replace e_9 := e_9.symm; subst e_9
  refine R_ifne (tgt := 17) hX dX12_save_12 (by decide) (by constructor <;> first | omega | (simp (disch := omega) only [up_k, up_i, up_s]; omega)) (fun c_12 => ?_) (fun c_12 => ?_)
  · skip
    refine R_aload_0 hX dX12_save_17 ?_
    refine R_iconst hX dX12_save_18 ?_
    refine R_iload_1 hX dX12_save_19 ?_
    refine R_iconst hX dX12_save_20 ?_
    refine R_iadd hX dX12_save_21 ?_
    refine R_v2v hX dX12_save_22 li_X12_275 mk_X12_copies mi_X12_copies rfl o_136 (r_copies (by omega) (by omega) (by omega)) ⟨⟨by decide, by decide⟩, by decide, by decide, rfl, Nat.le_of_ble_eq_true rfl, rfl⟩ (fun x_22 F_22 h_22 => ?_)
    subst h_22
    refine R_aload_0 hX dX12_save_25 ?_
    refine R_getq (v := 138) hX dX12_save_26 fl_X12_13 o_136 rfl (by omega) ?_
    refine R_iload_1 hX dX12_save_29 ?_
    refine R_iconst hX dX12_save_30 ?_
    refine R_zast hX dX12_save_31 a_138 ⟨by omega, by omega⟩ (Or.inr rfl) ?_
    refine R_iconst hX dX12_save_32 ?_
    exact R_zret hX (by omega) dX12_save_33 ⟨H, hH, Or.inr ⟨by omega, rfl, rfl⟩⟩
  · skip
    refine R_iconst hX dX12_save_15 ?_
    exact R_zret hX (by omega) dX12_save_16 ⟨H, hH, Or.inl ⟨by omega, rfl, rfl⟩⟩
set_option maxRecDepth 100000 in
set_option maxHeartbeats 4000000 in
theorem r_restore {V : VX} {F : Hp} {K : Int} (h : RI K F) (hk : ∀ k : Int, 0 ≤ k → k ≤ 1 → F 138 k = 0 ∨ F 138 k = 1) {k : Int} (h1 : I32 k)  : Ct V yX12_restore cX12_restore 2 (some .boolean) 1 25 0 0 SH [vr V 136, vi k] F SH 1 (fun r F' => ∃ H : Hp, H = up F 136 0 0 ∧ ((¬ ((0 ≤ k ∧ k ≤ 1) ∧ H 138 k = 1) ∧ r = 0 ∧ F' = H) ∨ (((0 ≤ k ∧ k ≤ 1) ∧ H 138 k = 1) ∧ r = 1 ∧ F' = cpR (k + 1) 0 819 H))) := by
  refine Ct.of [some (vr V 136), some (vi k)] (by decide) (by simp [lg_sl, vi_cat, vl_cat, vr_cat]) rfl (by simp [asc, lv_args, vi_cat, vl_cat, vr_cat]) (fun X hV hX => ?_)
  subst hV
  refine R_aload_0 hX dX12_restore_0 ?_
  refine R_iconst hX dX12_restore_1 ?_
  refine R_puti hX dX12_restore_2 fl_X12_88 o_136 rfl ?_
  refine R.gen (fun H hH => ?_)
  have hR : RI K H := by rw [hH]; exact h.z
  have hN := ri_N hR
  have hT := ri_T hR
  refine R_iload_1 hX dX12_restore_5 ?_
  refine R_i2l hX (by constructor <;> first | omega | (simp (disch := omega) only [up_k, up_i, up_s]; omega)) dX12_restore_6 ?_
  refine R_lconst0 hX dX12_restore_7 ?_
  refine R_lconst1 hX dX12_restore_8 ?_
  refine R_s3i hX dX12_restore_9 li_X12_94 mk_X12_in ms_X12_in (r_in (by constructor <;> omega) (by constructor <;> omega) (by constructor <;> omega)) ⟨⟨by decide, by decide⟩, by decide, by decide, rfl, Nat.le_of_ble_eq_true rfl, rfl⟩ (fun x_9 F_9 h_9 => ?_)
  obtain ⟨h_9, e_9⟩ := h_9; replace e_9 := e_9.symm; subst e_9
  refine R_ifeq (tgt := 24) hX dX12_restore_12 (by decide) (by constructor <;> first | omega | (simp (disch := omega) only [up_k, up_i, up_s]; omega)) (fun c_12 => ?_) (fun c_12 => ?_)
  · skip
    refine R_iconst hX dX12_restore_24 ?_
    exact R_zret hX (by omega) dX12_restore_25 ⟨H, hH, Or.inl ⟨by omega, rfl, rfl⟩⟩
  · skip
    have hkk : H 138 k = 0 ∨ H 138 k = 1 := by rw [hH, up_k (by decide)]; exact hk k (by omega) (by omega)
    refine R_aload_0 hX dX12_restore_15 ?_
    refine R_getq (v := 138) hX dX12_restore_16 fl_X12_13 o_136 rfl (by omega) ?_
    refine R_iload_1 hX dX12_restore_19 ?_
    refine R_zald hX dX12_restore_20 a_138 ⟨by omega, by omega⟩ ?_
    refine R_ifne (tgt := 26) hX dX12_restore_21 (by decide) (by constructor <;> first | omega | (simp (disch := omega) only [up_k, up_i, up_s]; omega)) (fun c_21 => ?_) (fun c_21 => ?_)
    · skip
      refine R_aload_0 hX dX12_restore_26 ?_
      refine R_iload_1 hX dX12_restore_27 ?_
      refine R_iconst hX dX12_restore_28 ?_
      refine R_iadd hX dX12_restore_29 ?_
      refine R_iconst hX dX12_restore_30 ?_
      refine R_v2v hX dX12_restore_31 li_X12_275 mk_X12_copies mi_X12_copies rfl o_136 (r_copies (by omega) (by omega) (by omega)) ⟨⟨by decide, by decide⟩, by decide, by decide, rfl, Nat.le_of_ble_eq_true rfl, rfl⟩ (fun x_31 F_31 h_31 => ?_)
      subst h_31
      refine R_iconst hX dX12_restore_34 ?_
      exact R_zret hX (by omega) dX12_restore_35 ⟨H, hH, Or.inr ⟨by omega, rfl, rfl⟩⟩
    · skip
      refine R_iconst hX dX12_restore_24 ?_
      exact R_zret hX (by omega) dX12_restore_25 ⟨H, hH, Or.inl ⟨by omega, rfl, rfl⟩⟩
