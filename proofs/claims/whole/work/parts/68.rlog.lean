theorem sumN_ge {f : Int → Int} : ∀ (n : Nat) (j : Int), (∀ k : Int, 0 ≤ k → k < n → 0 ≤ f k) → 0 ≤ j → j < n → f j ≤ sumN f n ∧ 0 ≤ sumN f n
  | 0, j, _, _, _ => by omega
  | n + 1, j, h, h0, h1 => by
    unfold sumN
    have hn := h n (by omega) (by omega)
    have hz : 0 ≤ sumN f n := by
      cases n with
      | zero => exact Int.le_refl _
      | succ m => exact (sumN_ge (m + 1) 0 (fun k q0 q1 => h k q0 (by omega)) (by omega) (by omega)).2
    by_cases q : j = n
    · rw [q]; omega
    · have ih := sumN_ge n j (fun k q0 q1 => h k q0 (by omega)) h0 (by omega)
      omega
theorem p32_s {k : Nat} : ((32 ^ (k + 1) : Nat) : Int) = ((32 ^ k : Nat) : Int) * 32 := by rw [Nat.pow_succ]; exact Int.natCast_mul _ _
theorem p32_0 {k : Nat} : 0 < ((32 ^ k : Nat) : Int) := Int.natCast_pos.mpr (Nat.pow_pos (by decide))
theorem dv_lt {v : Int} {k : Nat} (h : v < ((32 ^ (k + 1) : Nat) : Int)) : v / 32 < ((32 ^ k : Nat) : Int) := by
  rw [p32_s] at h
  omega
theorem dv_dv {w : Int} {e : Nat} : w / ((32 ^ e : Nat) : Int) / 32 = w / ((32 ^ (e + 1) : Nat) : Int) := by
  rw [p32_s, Int.ediv_ediv_of_nonneg (Int.le_of_lt p32_0)]
theorem dv_rng {w d : Int} (h : 0 ≤ w) (hd : 0 < d) : 0 ≤ w / d ∧ w / d ≤ w := ⟨Int.ediv_nonneg h (Int.le_of_lt hd), Int.ediv_le_self _ h⟩
theorem nlF_st {v : Int} {k : Nat} (h : 0 < v) (hk : 0 < k) : nlF k v = nlF (k - 1) (v / 32) + 1 := by
  cases k with
  | zero => omega
  | succ k => exact if_neg (by omega)
theorem nlF_0 {v : Int} {k : Nat} (h : v ≤ 0) : nlF k v = 0 := by
  cases k with
  | zero => rfl
  | succ k => exact if_pos h
theorem nlF_le : ∀ (k : Nat) (v : Int), nlF k v ≤ k
  | 0, _ => Nat.le_refl _
  | k + 1, v => by
    unfold nlF
    have := nlF_le k (v / 32)
    split <;> omega
/-- letter i of a word of the reference -/
def ldS (w i : Int) : Int := if i < nlF 8 w then w / ((32 ^ (nlF 8 w - 1 - i.toNat) : Nat) : Int) % 32 else 0
set_option maxRecDepth 100000 in
set_option maxHeartbeats 4000000 in
theorem r_lettersOf {V : VX} {F : Hp} {w : Int} (hw : 0 ≤ w ∧ w < 1099511627776)  : Ct V yX12_lettersOf cX12_lettersOf 5 (some .int) 0 0 0 0 SH [vl w] F SH 1 (fun r F' => r = (nlF 8 w : Int) ∧ F' = F) := by
  refine Ct.of [some (vl w), none, none, none, none] (by decide) (by simp [lg_sl, vi_cat, vl_cat, vr_cat]) rfl (by simp [asc, lv_args, vi_cat, vl_cat, vr_cat]) (fun X hV hX => ?_)
  subst hV
  refine R_iconst hX dX12_lettersOf_0 ?_
  refine R_istore_2 hX c1_n dX12_lettersOf_1 ?_
  refine R_lload_0 hX dX12_lettersOf_2 ?_
  refine R_lstore_3 hX c1_i dX12_lettersOf_3 ?_
  have lp_4 : ∀ (n : Nat) (k : Nat) (x : Int) (v : Int), (x + (nlF k v : Int) = (nlF 8 w : Int) ∧ 0 ≤ x) → (0 ≤ v ∧ v < ((32 ^ k : Nat) : Int) ∧ v < 1099511627776) → k < n → R X SH 0 0 4 [some (vl w), none, some (vi x), some (vl v), none] [] F (Zq X SH 1 (fun r F' => r = (nlF 8 w : Int) ∧ F' = F) 0 0) := by
    intro n
    induction n with
    | zero => intro k x v iv4_0 iv4_1 hm; exact absurd hm (Nat.not_lt_zero _)
    | succ n ih_4 =>
      intro k x v iv4_0 iv4_1 hm_4
      refine R_lload_3 hX dX12_lettersOf_4 ?_
      refine R_lconst0 hX dX12_lettersOf_5 ?_
      refine R_lcmp hX (by constructor <;> first | omega | (simp (disch := omega) only [up_k, up_i, up_s]; omega)) (by constructor <;> first | omega | (simp (disch := omega) only [up_k, up_i, up_s]; omega)) dX12_lettersOf_6 ?_
      refine R_ifle (tgt := 22) hX dX12_lettersOf_7 (by decide) (by unfold lc; split <;> (try split) <;> constructor <;> omega) (fun c_7 => ?_) (fun c_7 => ?_)
      · skip
        have hv : v ≤ 0 := by unfold lc at c_7; split at c_7 <;> (try split at c_7) <;> omega
        have hz := nlF_0 (k := k) hv
        refine R_iload_2 hX dX12_lettersOf_22 ?_
        exact R_iret hX dX12_lettersOf_23 ⟨by omega, rfl⟩
      · skip
        have hv : 0 < v := by unfold lc at c_7; split at c_7 <;> (try split at c_7) <;> omega
        have hk : 0 < k := by cases k with | zero => (have := iv4_1.2.1; simp at this; omega) | succ k => omega
        have hst := nlF_st (v := v) (k := k) hv hk
        have htd : v.tdiv 32 = v / 32 := Int.tdiv_eq_ediv_of_nonneg (by omega)
        have hlt : v / 32 < ((32 ^ (k - 1) : Nat) : Int) := dv_lt (by rw [show k - 1 + 1 = k by omega]; exact iv4_1.2.1)
        rw [← htd] at hst
        refine R_iinc_2 hX c1_n dX12_lettersOf_10 ?_
        refine R_lload_3 hX dX12_lettersOf_13 ?_
        refine R_ldc2 (n := 32) hX k2_X12_139 rfl dX12_lettersOf_14 ?_
        refine R_ldiv hX (by constructor <;> first | omega | (simp (disch := omega) only [up_k, up_i, up_s]; omega)) (by constructor <;> first | omega | (simp (disch := omega) only [up_k, up_i, up_s]; omega)) (by omega) dX12_lettersOf_17 ?_
        refine R_lstore_3 hX c1_i dX12_lettersOf_18 ?_
        refine R_goto (tgt := 4) hX dX12_lettersOf_19 (by decide) ?_
        exact ih_4 (k - 1) _ _ (by omega) (by rw [htd]; exact ⟨by omega, hlt, by omega⟩) (by omega)
  exact lp_4 9 8 0 w (by omega) ⟨hw.1, hw.2, hw.2⟩ (by omega)
set_option maxRecDepth 100000 in
set_option maxHeartbeats 4000000 in
theorem r_letterOf {V : VX} {F : Hp} {w i : Int} (hw : 0 ≤ w ∧ w < 1099511627776) (h0 : 0 ≤ i) (h1 : I32 i)  : Ct V yX12_letterOf cX12_letterOf 6 (some .int) 1 24 0 0 SH [vl w, vi i] F SH 1 (fun r F' => r = ldS w i ∧ F' = F) := by
  refine Ct.of [some (vl w), none, some (vi i), none, none, none] (by decide) (by simp [lg_sl, vi_cat, vl_cat, vr_cat]) rfl (by simp [asc, lv_args, vi_cat, vl_cat, vr_cat]) (fun X hV hX => ?_)
  subst hV
  have hnl := nlF_le 8 w
  refine R_lload_0 hX dX12_letterOf_0 ?_
  refine R_lstore_3 hX c1_i dX12_letterOf_1 ?_
  refine R_lload_0 hX dX12_letterOf_2 ?_
  refine R_s1i hX dX12_letterOf_3 li_X12_239 mk_X12_lettersOf ms_X12_lettersOf (r_lettersOf hw) ⟨⟨by decide, by decide⟩, by decide, by decide, rfl, Nat.le_of_ble_eq_true rfl, rfl⟩ (fun x_3 F_3 h_3 => ?_)
  obtain ⟨h_3, e_3⟩ := h_3; replace e_3 := e_3.symm; subst e_3
  refine R_iconst hX dX12_letterOf_6 ?_
  refine R_isub hX dX12_letterOf_7 ?_
  refine R_istore_5 hX c1_n dX12_letterOf_8 ?_
  have lp_10 : ∀ (n : Nat) (e : Nat), ((e : Int) ≤ (nlF 8 w : Int) - 1 - i ∨ e = 0) → (9 - e : Int).toNat < n → R X SH 0 0 10 [some (vl w), none, some (vi i), some (vl (w / ((32 ^ e : Nat) : Int))), none, some (vi ((nlF 8 w : Int) - 1 - (e : Int)))] [] F (Zq X SH 1 (fun r F' => r = ldS w i ∧ F' = F) 0 0) := by
    intro n
    induction n with
    | zero => intro e iv10_0 hm; exact absurd hm (Nat.not_lt_zero _)
    | succ n ih_10 =>
      intro e iv10_0 hm_10
      have hdv := dv_rng (d := ((32 ^ e : Nat) : Int)) hw.1 p32_0
      refine R_iload_5 hX dX12_letterOf_10 ?_
      refine R_iload_2 hX dX12_letterOf_12 ?_
      refine R_icmple (tgt := 28) hX dX12_letterOf_13 (by decide) (by constructor <;> first | omega | (simp (disch := omega) only [up_k, up_i, up_s]; omega)) (by constructor <;> first | omega | (simp (disch := omega) only [up_k, up_i, up_s]; omega)) (fun c_13 => ?_) (fun c_13 => ?_)
      · skip
        refine R_iload_2 hX dX12_letterOf_28 ?_
        refine R_lload_0 hX dX12_letterOf_29 ?_
        refine R_s1i hX dX12_letterOf_30 li_X12_239 mk_X12_lettersOf ms_X12_lettersOf (r_lettersOf hw) ⟨⟨by decide, by decide⟩, by decide, by decide, rfl, Nat.le_of_ble_eq_true rfl, rfl⟩ (fun x_30 F_30 h_30 => ?_)
        obtain ⟨h_30, e_30⟩ := h_30; replace e_30 := e_30.symm; subst e_30
        refine R_icmpge (tgt := 45) hX dX12_letterOf_33 (by decide) (by constructor <;> first | omega | (simp (disch := omega) only [up_k, up_i, up_s]; omega)) (by constructor <;> first | omega | (simp (disch := omega) only [up_k, up_i, up_s]; omega)) (fun c_33 => ?_) (fun c_33 => ?_)
        · skip
          refine R_iconst hX dX12_letterOf_45 ?_
          exact R_iret hX dX12_letterOf_46 ⟨by unfold ldS; first | (rw [if_pos (by omega), Int.tmod_eq_emod_of_nonneg hdv.1, show nlF 8 w - 1 - i.toNat = e by omega]; done) | (rw [if_neg (by omega)]; done), rfl⟩
        · skip
          refine R_lload_3 hX dX12_letterOf_36 ?_
          refine R_ldc2 (n := 32) hX k2_X12_139 rfl dX12_letterOf_37 ?_
          refine R_lrem hX (by constructor <;> first | omega | (simp (disch := omega) only [up_k, up_i, up_s]; omega)) (by constructor <;> first | omega | (simp (disch := omega) only [up_k, up_i, up_s]; omega)) (by omega) dX12_letterOf_40 ?_
          refine R_l2i hX dX12_letterOf_41 ?_
          refine R_goto (tgt := 46) hX dX12_letterOf_42 (by decide) ?_
          exact R_iret hX dX12_letterOf_46 ⟨by unfold ldS; first | (rw [if_pos (by omega), Int.tmod_eq_emod_of_nonneg hdv.1, show nlF 8 w - 1 - i.toNat = e by omega]; done) | (rw [if_neg (by omega)]; done), rfl⟩
      · skip
        refine R_lload_3 hX dX12_letterOf_16 ?_
        refine R_ldc2 (n := 32) hX k2_X12_139 rfl dX12_letterOf_17 ?_
        refine R_ldiv hX (by constructor <;> first | omega | (simp (disch := omega) only [up_k, up_i, up_s]; omega)) (by constructor <;> first | omega | (simp (disch := omega) only [up_k, up_i, up_s]; omega)) (by omega) dX12_letterOf_20 ?_
        refine R_lstore_3 hX c1_i dX12_letterOf_21 ?_
        refine R_iinc_5 hX c1_n dX12_letterOf_22 ?_
        refine R.eq (show _ = [some (vl w), none, some (vi i), some (vl (w / ((32 ^ (e + 1) : Nat) : Int))), none, some (vi ((nlF 8 w : Int) - 1 - ((e + 1 : Nat) : Int)))] by rw [Int.tdiv_eq_ediv_of_nonneg hdv.1, dv_dv, show (nlF 8 w : Int) - 1 - ((e + 1 : Nat) : Int) = (nlF 8 w : Int) - 1 - (e : Int) + -1 by omega]) rfl rfl ?_
        refine R_goto (tgt := 10) hX dX12_letterOf_25 (by decide) ?_
        exact ih_10 (e + 1) (by omega) (by omega)
  refine R.eq (show _ = [some (vl w), none, some (vi i), some (vl (w / ((32 ^ 0 : Nat) : Int))), none, some (vi ((nlF 8 w : Int) - 1 - ((0 : Nat) : Int)))] by rw [h_3, show w / ((32 ^ 0 : Nat) : Int) = w from Int.ediv_one w, show (nlF 8 w : Int) - 1 - ((0 : Nat) : Int) = (nlF 8 w : Int) - 1 by omega]) rfl rfl ?_
  exact lp_10 11 0 (Or.inr rfl) (by omega)
set_option maxRecDepth 100000 in
set_option maxHeartbeats 4000000 in
theorem r_nameLetter {V : VX} {F : Hp} {K : Int} (h : RI K F) (hn : ∀ d : Int, 0 ≤ d → d < F 136 3 → 0 ≤ F 139 d ∧ F 139 d < 1099511627776) {d i : Int} (h1 : I32 d) (h2 : I32 i)  : Ct V yX12_nameLetter cX12_nameLetter 3 (some .int) 2 49 0 0 SH [vr V 136, vi d, vi i] F SH 1 (fun r F' => F' = up F 136 0 0 ∧ r = (if (0 ≤ d ∧ d < F' 136 3) ∧ 0 ≤ i then ldS (F' 139 d) i else -1)) := by
  refine Ct.of [some (vr V 136), some (vi d), some (vi i)] (by decide) (by simp [lg_sl, vi_cat, vl_cat, vr_cat]) rfl (by simp [asc, lv_args, vi_cat, vl_cat, vr_cat]) (fun X hV hX => ?_)
  subst hV
  refine R_aload_0 hX dX12_nameLetter_0 ?_
  refine R_iconst hX dX12_nameLetter_1 ?_
  refine R_puti hX dX12_nameLetter_2 fl_X12_88 o_136 rfl ?_
  refine R.gen (fun H hH => ?_)
  have hR : RI K H := by rw [hH]; exact h.z
  have hN := ri_N hR
  have hT := ri_T hR
  refine R_aload_0 hX dX12_nameLetter_5 ?_
  refine R_iload_1 hX dX12_nameLetter_6 ?_
  refine R_v1i hX dX12_nameLetter_7 li_X12_98 mk_X12_isNode mi_X12_isNode rfl o_136 (r_isNode hR h1) ⟨⟨by decide, by decide⟩, by decide, by decide, rfl, Nat.le_of_ble_eq_true rfl, rfl⟩ (fun x_7 F_7 h_7 => ?_)
  obtain ⟨h_7, e_7⟩ := h_7; replace e_7 := e_7.symm; subst e_7
  refine R_ifeq (tgt := 30) hX dX12_nameLetter_10 (by decide) (by constructor <;> first | omega | (simp (disch := omega) only [up_k, up_i, up_s]; omega)) (fun c_10 => ?_) (fun c_10 => ?_)
  · skip
    refine R_iconst hX dX12_nameLetter_30 ?_
    exact R_iret hX dX12_nameLetter_31 ⟨hH, by first | (rw [if_pos (by omega)]; exact h_24) | (rw [if_neg (by omega)]; done)⟩
  · skip
    refine R_iload_2 hX dX12_nameLetter_13 ?_
    refine R_iflt (tgt := 30) hX dX12_nameLetter_14 (by decide) (by constructor <;> first | omega | (simp (disch := omega) only [up_k, up_i, up_s]; omega)) (fun c_14 => ?_) (fun c_14 => ?_)
    · skip
      refine R_iconst hX dX12_nameLetter_30 ?_
      exact R_iret hX dX12_nameLetter_31 ⟨hH, by first | (rw [if_pos (by omega)]; exact h_24) | (rw [if_neg (by omega)]; done)⟩
    · skip
      have h3 : H 136 3 = F 136 3 := by rw [hH]; exact up_i (by decide)
      have hnd : 0 ≤ H 139 d ∧ H 139 d < 1099511627776 := by rw [hH, up_k (by decide)]; exact hn d (by omega) (by omega)
      refine R_aload_0 hX dX12_nameLetter_17 ?_
      refine R_getq (v := 139) hX dX12_nameLetter_18 fl_X12_24 o_136 rfl (by omega) ?_
      refine R_iload_1 hX dX12_nameLetter_21 ?_
      refine R_lald hX dX12_nameLetter_22 a_139 ⟨by omega, by omega⟩ ?_
      refine R_iload_2 hX dX12_nameLetter_23 ?_
      refine R_s2i hX dX12_nameLetter_24 li_X12_243 mk_X12_letterOf ms_X12_letterOf (r_letterOf hnd (by omega) h2) ⟨⟨by decide, by decide⟩, by decide, by decide, rfl, Nat.le_of_ble_eq_true rfl, rfl⟩ (fun x_24 F_24 h_24 => ?_)
      obtain ⟨h_24, e_24⟩ := h_24; replace e_24 := e_24.symm; subst e_24
      refine R_goto (tgt := 31) hX dX12_nameLetter_27 (by decide) ?_
      exact R_iret hX dX12_nameLetter_31 ⟨hH, by first | (rw [if_pos (by omega)]; exact h_24) | (rw [if_neg (by omega)]; done)⟩
set_option maxRecDepth 100000 in
set_option maxHeartbeats 4000000 in
theorem r_between {V : VX} {F : Hp} {K : Int} (h : RI K F) {p q : Int} (h1 : I64 p) (h2 : I64 q)  : Ct V yX12_between cX12_between 7 (some .int) 1 25 0 0 SH [vr V 136, vl p, vl q] F SH 1 (fun r F' => (r = sumN (fun k => if p ≤ F 137 (723 + 4 * k + 3) ∧ F 137 (723 + 4 * k + 3) ≤ q then F 137 (723 + 4 * k + 1) else 0) (F 137 2).toNat ∧ 0 ≤ r ∧ r ≤ 2376) ∧ F' = F) := by
  refine Ct.of [some (vr V 136), some (vl p), none, some (vl q), none, none, none] (by decide) (by simp [lg_sl, vi_cat, vl_cat, vr_cat]) rfl (by simp [asc, lv_args, vi_cat, vl_cat, vr_cat]) (fun X hV hX => ?_)
  subst hV
  have hG := ri_G h
  have hT0 := (ri_Q h).1
  refine R_iconst hX dX12_between_0 ?_
  refine R_istore_5 hX c1_n dX12_between_1 ?_
  refine R_iconst hX dX12_between_3 ?_
  refine R_istore_6 hX c1_i dX12_between_4 ?_
  have lp_6 : ∀ (n : Nat) (m : Int) (x : Int), (0 ≤ x ∧ x ≤ F 137 2) → (m = sumN (fun k => if p ≤ F 137 (723 + 4 * k + 3) ∧ F 137 (723 + 4 * k + 3) ≤ q then F 137 (723 + 4 * k + 1) else 0) x.toNat) → (25 - x).toNat < n → R X SH 0 0 6 [some (vr (xV X) 136), some (vl p), none, some (vl q), none, some (vi m), some (vi x)] [] F (Zq X SH 1 (fun r F' => (r = sumN (fun k => if p ≤ F 137 (723 + 4 * k + 3) ∧ F 137 (723 + 4 * k + 3) ≤ q then F 137 (723 + 4 * k + 1) else 0) (F 137 2).toNat ∧ 0 ≤ r ∧ r ≤ 2376) ∧ F' = F) 0 0) := by
    intro n
    induction n with
    | zero => intro m x iv6_0 iv6_1 hm; exact absurd hm (Nat.not_lt_zero _)
    | succ n ih_6 =>
      intro m x iv6_0 iv6_1 hm_6
      have hbm := sumN_bd (f := (fun k => if p ≤ F 137 (723 + 4 * k + 3) ∧ F 137 (723 + 4 * k + 3) ≤ q then F 137 (723 + 4 * k + 1) else 0)) (c := 99) x.toNat (by intro j z0 z1; have := hG.2 j z0 (by omega); show 0 ≤ (if p ≤ F 137 (723 + 4 * j + 3) ∧ F 137 (723 + 4 * j + 3) ≤ q then F 137 (723 + 4 * j + 1) else 0) ∧ _; split <;> omega)
      rw [← iv6_1] at hbm
      refine R_iload_6 hX dX12_between_6 ?_
      refine R_aload_0 hX dX12_between_8 ?_
      refine R_getq (v := 137) hX dX12_between_9 fl_X12_7 o_136 rfl (by omega) ?_
      refine R_iconst hX dX12_between_12 ?_
      refine R_iald hX dX12_between_13 a_137 ⟨by omega, by omega⟩ ?_
      refine R_icmpge (tgt := 71) hX dX12_between_14 (by decide) (by constructor <;> first | omega | (simp (disch := omega) only [up_k, up_i, up_s]; omega)) (by constructor <;> first | omega | (simp (disch := omega) only [up_k, up_i, up_s]; omega)) (fun c_14 => ?_) (fun c_14 => ?_)
      · skip
        refine R_iload_5 hX dX12_between_71 ?_
        exact R_iret hX dX12_between_73 ⟨⟨by rw [iv6_1, show x = F 137 2 by omega], by omega, by omega⟩, rfl⟩
      · skip
        have hgx := hG.2 x (by omega) (by omega)
        refine R_iload_5 hX dX12_between_17 ?_
        refine R_aload_0 hX dX12_between_19 ?_
        refine R_getq (v := 137) hX dX12_between_20 fl_X12_7 o_136 rfl (by omega) ?_
        refine R_sipush hX dX12_between_23 (by decide) ?_
        refine R_iconst hX dX12_between_26 ?_
        refine R_iload_6 hX dX12_between_27 ?_
        refine R_imul hX dX12_between_29 ?_
        refine R_iadd hX dX12_between_30 ?_
        refine R_iconst hX dX12_between_31 ?_
        refine R_iadd hX dX12_between_32 ?_
        refine R_iald hX dX12_between_33 a_137 ⟨by omega, by omega⟩ ?_
        refine R_i2l hX (by constructor <;> first | omega | (simp (disch := omega) only [up_k, up_i, up_s]; omega)) dX12_between_34 ?_
        refine R_lload_1 hX dX12_between_35 ?_
        refine R_lload_3 hX dX12_between_36 ?_
        refine R_s3i hX dX12_between_37 li_X12_94 mk_X12_in ms_X12_in (r_in (by constructor <;> omega) h1 h2) ⟨⟨by decide, by decide⟩, by decide, by decide, rfl, Nat.le_of_ble_eq_true rfl, rfl⟩ (fun x_37 F_37 h_37 => ?_)
        obtain ⟨h_37, e_37⟩ := h_37; replace e_37 := e_37.symm; subst e_37
        refine R_ifeq (tgt := 61) hX dX12_between_40 (by decide) (by constructor <;> first | omega | (simp (disch := omega) only [up_k, up_i, up_s]; omega)) (fun c_40 => ?_) (fun c_40 => ?_)
        · skip
          refine R_iconst hX dX12_between_61 ?_
          refine R_iadd hX dX12_between_62 ?_
          refine R_istore_5 hX c1_n dX12_between_63 ?_
          refine R_iinc_6 hX c1_i dX12_between_65 ?_
          refine R_goto (tgt := 6) hX dX12_between_68 (by decide) ?_
          exact ih_6 _ (x + 1) (by omega) (by rw [sumN_s (by omega), ← iv6_1]; first | (rw [if_pos (by omega)]; done) | (rw [if_neg (by omega)]; done)) (by omega)
        · skip
          refine R_aload_0 hX dX12_between_43 ?_
          refine R_getq (v := 137) hX dX12_between_44 fl_X12_7 o_136 rfl (by omega) ?_
          refine R_sipush hX dX12_between_47 (by decide) ?_
          refine R_iconst hX dX12_between_50 ?_
          refine R_iload_6 hX dX12_between_51 ?_
          refine R_imul hX dX12_between_53 ?_
          refine R_iadd hX dX12_between_54 ?_
          refine R_iconst hX dX12_between_55 ?_
          refine R_iadd hX dX12_between_56 ?_
          refine R_iald hX dX12_between_57 a_137 ⟨by omega, by omega⟩ ?_
          refine R_goto (tgt := 62) hX dX12_between_58 (by decide) ?_
          refine R_iadd hX dX12_between_62 ?_
          refine R_istore_5 hX c1_n dX12_between_63 ?_
          refine R_iinc_6 hX c1_i dX12_between_65 ?_
          refine R_goto (tgt := 6) hX dX12_between_68 (by decide) ?_
          exact ih_6 _ (x + 1) (by omega) (by rw [sumN_s (by omega), ← iv6_1]; first | (rw [if_pos (by omega)]; done) | (rw [if_neg (by omega)]; done)) (by omega)
  exact lp_6 27 0 0 (by omega) rfl (by omega)
set_option maxRecDepth 100000 in
set_option maxHeartbeats 4000000 in
theorem r_recentCost {V : VX} {F : Hp} {K : Int} (h : RI K F) {w : Int} (h1 : I32 w)  : Ct V yX12_recentCost cX12_recentCost 2 (some .int) 2 51 0 0 SH [vr V 136, vi w] F SH 1 (fun r F' => F' = up F 136 0 0 ∧ r = (if w < 1 then -1 else sumN (fun k => if F' 137 0 - w + 1 ≤ F' 137 (723 + 4 * k + 3) ∧ F' 137 (723 + 4 * k + 3) ≤ 5000 then F' 137 (723 + 4 * k + 1) else 0) (F' 137 2).toNat)) := by
  refine Ct.of [some (vr V 136), some (vi w)] (by decide) (by simp [lg_sl, vi_cat, vl_cat, vr_cat]) rfl (by simp [asc, lv_args, vi_cat, vl_cat, vr_cat]) (fun X hV hX => ?_)
  subst hV
  refine R_aload_0 hX dX12_recentCost_0 ?_
  refine R_iconst hX dX12_recentCost_1 ?_
  refine R_puti hX dX12_recentCost_2 fl_X12_88 o_136 rfl ?_
  refine R.gen (fun H hH => ?_)
  have hR : RI K H := by rw [hH]; exact h.z
  have hN := ri_N hR
  have hT := ri_T hR
  have hT0 := (ri_Q hR).1
  refine R_iload_1 hX dX12_recentCost_5 ?_
  refine R_iconst hX dX12_recentCost_6 ?_
  refine R_icmpge (tgt := 14) hX dX12_recentCost_7 (by decide) (by constructor <;> first | omega | (simp (disch := omega) only [up_k, up_i, up_s]; omega)) (by constructor <;> first | omega | (simp (disch := omega) only [up_k, up_i, up_s]; omega)) (fun c_7 => ?_) (fun c_7 => ?_)
  · skip
    refine R_aload_0 hX dX12_recentCost_14 ?_
    refine R_aload_0 hX dX12_recentCost_15 ?_
    refine R_getq (v := 137) hX dX12_recentCost_16 fl_X12_7 o_136 rfl (by omega) ?_
    refine R_iconst hX dX12_recentCost_19 ?_
    refine R_iald hX dX12_recentCost_20 a_137 ⟨by omega, by omega⟩ ?_
    refine R_i2l hX (by constructor <;> first | omega | (simp (disch := omega) only [up_k, up_i, up_s]; omega)) dX12_recentCost_21 ?_
    refine R_iload_1 hX dX12_recentCost_22 ?_
    refine R_i2l hX (by constructor <;> first | omega | (simp (disch := omega) only [up_k, up_i, up_s]; omega)) dX12_recentCost_23 ?_
    refine R_lsub hX dX12_recentCost_24 ?_
    refine R_lconst1 hX dX12_recentCost_25 ?_
    refine R_ladd hX dX12_recentCost_26 ?_
    refine R_ldc2 (n := 5000) hX k2_X12_320 rfl dX12_recentCost_27 ?_
    refine R_v2i hX dX12_recentCost_30 li_X12_313 mk_X12_between mi_X12_between rfl o_136 (r_between hR (by constructor <;> omega) (by constructor <;> omega)) ⟨⟨by decide, by decide⟩, by decide, by decide, rfl, Nat.le_of_ble_eq_true rfl, rfl⟩ (fun x_30 F_30 h_30 => ?_)
    obtain ⟨h_30, e_30⟩ := h_30; replace e_30 := e_30.symm; subst e_30
    exact R_iret hX dX12_recentCost_33 ⟨hH, by first | (rw [if_neg (by omega)]; exact h_30.1) | (rw [if_pos (by omega)]; done)⟩
  · skip
    refine R_iconst hX dX12_recentCost_10 ?_
    refine R_goto (tgt := 33) hX dX12_recentCost_11 (by decide) ?_
    exact R_iret hX dX12_recentCost_33 ⟨hH, by first | (rw [if_neg (by omega)]; exact h_30.1) | (rw [if_pos (by omega)]; done)⟩
set_option maxRecDepth 100000 in
set_option maxHeartbeats 4000000 in
theorem r_busiestCost {V : VX} {F : Hp} {K : Int} (h : RI K F) {w : Int} (h1 : I32 w)  : Ct V yX12_busiestCost cX12_busiestCost 7 (some .int) 2 51 0 0 SH [vr V 136, vi w] F SH 1 (fun r F' => F' = up F 136 0 0 ∧ r = (if w < 1 then -1 else maxN (fun k => sumN (fun j => if F' 137 (723 + 4 * k + 3) ≤ F' 137 (723 + 4 * j + 3) ∧ F' 137 (723 + 4 * j + 3) ≤ F' 137 (723 + 4 * k + 3) + w - 1 then F' 137 (723 + 4 * j + 1) else 0) (F' 137 2).toNat) (F' 137 2).toNat)) := by
  refine Ct.of [some (vr V 136), some (vi w), none, none, none, none, none] (by decide) (by simp [lg_sl, vi_cat, vl_cat, vr_cat]) rfl (by simp [asc, lv_args, vi_cat, vl_cat, vr_cat]) (fun X hV hX => ?_)
  subst hV
  refine R_aload_0 hX dX12_busiestCost_0 ?_
  refine R_iconst hX dX12_busiestCost_1 ?_
  refine R_puti hX dX12_busiestCost_2 fl_X12_88 o_136 rfl ?_
  refine R.gen (fun H hH => ?_)
  have hR : RI K H := by rw [hH]; exact h.z
  have hN := ri_N hR
  have hT := ri_T hR
  have hT0 := (ri_Q hR).1
  have hG := ri_G hR
  refine R_iload_1 hX dX12_busiestCost_5 ?_
  refine R_iconst hX dX12_busiestCost_6 ?_
  refine R_icmpge (tgt := 12) hX dX12_busiestCost_7 (by decide) (by constructor <;> first | omega | (simp (disch := omega) only [up_k, up_i, up_s]; omega)) (by constructor <;> first | omega | (simp (disch := omega) only [up_k, up_i, up_s]; omega)) (fun c_7 => ?_) (fun c_7 => ?_)
  · skip
    refine R_iconst hX dX12_busiestCost_12 ?_
    refine R_istore_2 hX c1_i dX12_busiestCost_13 ?_
    refine R_iconst hX dX12_busiestCost_14 ?_
    refine R_istore_3 hX c1_i dX12_busiestCost_15 ?_
    have lp_16 : ∀ (n : Nat) (m : Int) (x : Int), (0 ≤ x ∧ x ≤ H 137 2) → (m = maxN (fun k => sumN (fun j => if H 137 (723 + 4 * k + 3) ≤ H 137 (723 + 4 * j + 3) ∧ H 137 (723 + 4 * j + 3) ≤ H 137 (723 + 4 * k + 3) + w - 1 then H 137 (723 + 4 * j + 1) else 0) (H 137 2).toNat) x.toNat ∧ 0 ≤ m ∧ m ≤ 2376) → (25 - x).toNat < n → R X SH 0 0 16 [some (vr (xV X) 136), some (vi w), some (vi m), some (vi x), none, none, none] [] H (Zq X SH 1 (fun r F' => F' = up F 136 0 0 ∧ r = (if w < 1 then -1 else maxN (fun k => sumN (fun j => if F' 137 (723 + 4 * k + 3) ≤ F' 137 (723 + 4 * j + 3) ∧ F' 137 (723 + 4 * j + 3) ≤ F' 137 (723 + 4 * k + 3) + w - 1 then F' 137 (723 + 4 * j + 1) else 0) (F' 137 2).toNat) (F' 137 2).toNat)) 0 0) := by
      intro n
      induction n with
      | zero => intro m x iv16_0 iv16_1 hm; exact absurd hm (Nat.not_lt_zero _)
      | succ n ih_16 =>
        intro m x iv16_0 iv16_1 hm_16
        refine R_iload_3 hX dX12_busiestCost_16 ?_
        refine R_aload_0 hX dX12_busiestCost_17 ?_
        refine R_getq (v := 137) hX dX12_busiestCost_18 fl_X12_7 o_136 rfl (by omega) ?_
        refine R_iconst hX dX12_busiestCost_21 ?_
        refine R_iald hX dX12_busiestCost_22 a_137 ⟨by omega, by omega⟩ ?_
        refine R_icmpge (tgt := 77) hX dX12_busiestCost_23 (by decide) (by constructor <;> first | omega | (simp (disch := omega) only [up_k, up_i, up_s]; omega)) (by constructor <;> first | omega | (simp (disch := omega) only [up_k, up_i, up_s]; omega)) (fun c_23 => ?_) (fun c_23 => ?_)
        · skip
          refine R_iload_2 hX dX12_busiestCost_77 ?_
          exact R_iret hX dX12_busiestCost_78 ⟨hH, by rw [if_neg (by omega), iv16_1.1, show x = H 137 2 by omega]⟩
        · skip
          have hgx := hG.2 x (by omega) (by omega)
          refine R_aload_0 hX dX12_busiestCost_26 ?_
          refine R_getq (v := 137) hX dX12_busiestCost_27 fl_X12_7 o_136 rfl (by omega) ?_
          refine R_sipush hX dX12_busiestCost_30 (by decide) ?_
          refine R_iconst hX dX12_busiestCost_33 ?_
          refine R_iload_3 hX dX12_busiestCost_34 ?_
          refine R_imul hX dX12_busiestCost_35 ?_
          refine R_iadd hX dX12_busiestCost_36 ?_
          refine R_iconst hX dX12_busiestCost_37 ?_
          refine R_iadd hX dX12_busiestCost_38 ?_
          refine R_iald hX dX12_busiestCost_39 a_137 ⟨by omega, by omega⟩ ?_
          refine R_i2l hX (by constructor <;> first | omega | (simp (disch := omega) only [up_k, up_i, up_s]; omega)) dX12_busiestCost_40 ?_
          refine R_lstore_4 hX c1_i dX12_busiestCost_41 ?_
          refine R_aload_0 hX dX12_busiestCost_43 ?_
          refine R_lload_4 hX dX12_busiestCost_44 ?_
          refine R_lload_4 hX dX12_busiestCost_46 ?_
          refine R_iload_1 hX dX12_busiestCost_48 ?_
          refine R_i2l hX (by constructor <;> first | omega | (simp (disch := omega) only [up_k, up_i, up_s]; omega)) dX12_busiestCost_49 ?_
          refine R_ladd hX dX12_busiestCost_50 ?_
          refine R_lconst1 hX dX12_busiestCost_51 ?_
          refine R_lsub hX dX12_busiestCost_52 ?_
          refine R_v2i hX dX12_busiestCost_53 li_X12_313 mk_X12_between mi_X12_between rfl o_136 (r_between hR (by constructor <;> omega) (by constructor <;> omega)) ⟨⟨by decide, by decide⟩, by decide, by decide, rfl, Nat.le_of_ble_eq_true rfl, rfl⟩ (fun x_53 F_53 h_53 => ?_)
          obtain ⟨h_53, e_53⟩ := h_53; replace e_53 := e_53.symm; subst e_53
          refine R_istore_6 hX c1_n dX12_busiestCost_56 ?_
          refine R_iload_6 hX dX12_busiestCost_58 ?_
          refine R_iload_2 hX dX12_busiestCost_60 ?_
          refine R_icmple (tgt := 69) hX dX12_busiestCost_61 (by decide) (by constructor <;> first | omega | (simp (disch := omega) only [up_k, up_i, up_s]; omega)) (by constructor <;> first | omega | (simp (disch := omega) only [up_k, up_i, up_s]; omega)) (fun c_61 => ?_) (fun c_61 => ?_)
          · skip
            refine R_iload_2 hX dX12_busiestCost_69 ?_
            refine R_istore_2 hX c1_i dX12_busiestCost_70 ?_
            refine R_iinc_3 hX c1_i dX12_busiestCost_71 ?_
            refine R_goto (tgt := 16) hX dX12_busiestCost_74 (by decide) ?_
            refine R_drop_4 ?_
            refine R_drop_6 ?_
            exact ih_16 _ (x + 1) (by omega) (by refine ⟨?_, by omega, by omega⟩; rw [maxN_s (by omega), ← iv16_1.1]; rw [← h_53.1]; omega) (by omega)
          · skip
            refine R_iload_6 hX dX12_busiestCost_64 ?_
            refine R_goto (tgt := 70) hX dX12_busiestCost_66 (by decide) ?_
            refine R_istore_2 hX c1_i dX12_busiestCost_70 ?_
            refine R_iinc_3 hX c1_i dX12_busiestCost_71 ?_
            refine R_goto (tgt := 16) hX dX12_busiestCost_74 (by decide) ?_
            refine R_drop_4 ?_
            refine R_drop_6 ?_
            exact ih_16 _ (x + 1) (by omega) (by refine ⟨?_, by omega, by omega⟩; rw [maxN_s (by omega), ← iv16_1.1]; rw [← h_53.1]; omega) (by omega)
    exact lp_16 27 0 0 (by omega) ⟨rfl, by omega, by omega⟩ (by omega)
  · skip
    refine R_iconst hX dX12_busiestCost_10 ?_
    exact R_iret hX dX12_busiestCost_11 ⟨hH, by rw [if_pos (by omega)]⟩
