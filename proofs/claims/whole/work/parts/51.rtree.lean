/-- what holds of the reference at each call -/
def RI (K : Int) (F : Hp) : Prop := StA 1000 1100 K (vw 0 F)
theorem vw_z {o x : Int} {F : Hp} : vw o (up F 136 0 x) = vw o F := vw_fr (fun j _ _ => up_k (by decide)) ⟨up_i (by decide), up_i (by decide), up_i (by decide), up_i (by decide)⟩ (fun a h => up_r (by omega))
theorem RI.z {K x : Int} {F : Hp} (h : RI K F) : RI K (up F 136 0 x) := by unfold RI; rw [vw_z]; exact h
theorem ri_N {K : Int} {F : Hp} (h : RI K F) : 0 ≤ F 136 3 ∧ F 136 3 ≤ 12 := by have := h.1.1; rw [vw_1100_0] at this; exact this
theorem ri_T {K : Int} {F : Hp} (h : RI K F) : Tr (F 136 3) (F 141) := by have := h.1.2.1; rw [vw_1100_0] at this; exact this
theorem ri_P {K : Int} {F : Hp} (h : RI K F) : ∀ n : Int, 0 ≤ n → n < F 136 3 → (n = 0 → F 141 n = -2) ∧ (1 ≤ n → 0 ≤ F 141 n) := by have := h.1.2.2.1; rw [vw_1100_0] at this; exact this
theorem ri_D {K : Int} {F : Hp} (h : RI K F) : ∀ n : Int, 0 ≤ n → n < F 136 3 → (0 ≤ dptF (F 141) 13 n ∧ dptF (F 141) 13 n ≤ n) ∧ (F 141 n < 0 → dptF (F 141) 13 n = 0) ∧ (0 ≤ F 141 n → dptF (F 141) 13 n = dptF (F 141) 13 (F 141 n) + 1) := by have := h.1.2.2.2.1; rw [vw_1100_0, show (1100 : Int) + 3 = 1103 from rfl, show (1100 : Int) + 2 = 1102 from rfl, vw_1103, vw_1102] at this; exact this
theorem ri_S {K : Int} {F : Hp} (h : RI K F) : ∀ n : Int, 0 ≤ n → n < F 136 3 → (1 ≤ F 142 n ∧ F 142 n ≤ 999) ∧ (0 ≤ F 143 n ∧ F 143 n ≤ 999) ∧ (0 ≤ F 144 n ∧ F 144 n ≤ 7) ∧ (0 ≤ F 145 n ∧ F 145 n ≤ 1) := by
  have h1 := h.1.2.2.2.2.2.2.1
  have h2 := h.1.2.2.2.2.2.2.2.1
  rw [vw_1100_0] at h1 h2
  intro n h0 hn
  have a := h1 n h0 hn
  have b : 0 ≤ F 145 n ∧ F 145 n ≤ 1 := h2 n h0 hn
  exact ⟨a.2.2.1, a.2.2.2.1, a.2.2.2.2.2, b⟩
theorem ri_L {K : Int} {F : Hp} (h : RI K F) : (0 ≤ F 136 4 ∧ F 136 4 ≤ 99) ∧ (-1 ≤ F 136 5 ∧ F 136 5 ≤ 999) ∧ (0 ≤ F 136 38 ∧ F 136 38 ≤ 12) := by
  have h1 := h.1.2.2.2.2.2.2.2.2
  rw [vw_1100_13, vw_1100_14] at h1
  exact ⟨h1.1, h1.2.1, h1.2.2.1⟩
theorem ri_C {K : Int} {F : Hp} (h : RI K F) : ∀ k : Int, 0 ≤ k → k < F 136 38 → (1 ≤ F 150 k ∧ F 150 k ≤ 5000) ∧ (0 ≤ F 151 k ∧ F 151 k < F 136 3) ∧ (F 152 k = 0 ∨ F 152 k = 1 ∨ F 152 k = 4) ∧ (0 ≤ F 153 k ∧ F 153 k ≤ 999) ∧ (F 152 k = 0 → F 153 k ≤ 99) ∧ (F 152 k = 4 → 1 ≤ F 153 k ∧ F 153 k ≤ 9) := by
  have h1 := h.1.2.2.2.2.2.2.2.2.2.2.2
  rw [vw_1100_0] at h1
  exact h1
theorem ri_A {K : Int} {F : Hp} (h : RI K F) : ∀ n : Int, 0 ≤ n → n < F 136 3 → (0 ≤ F 137 (99 + n) ∧ F 137 (99 + n) ≤ 99) ∧ (0 ≤ F 137 (111 + n) ∧ F 137 (111 + n) ≤ 999) ∧ (1 ≤ F 137 (123 + n) ∧ F 137 (123 + n) ≤ 9) ∧ (0 ≤ F 137 (3 + n) ∧ F 137 (3 + n) ≤ F 142 n) ∧ (0 ≤ F 137 (15 + n) ∧ F 137 (15 + n) ≤ F 143 n) ∧ (0 ≤ F 137 (27 + n) ∧ F 137 (27 + n) ≤ F 142 n) := by
  intro n h0 hn
  have hN := ri_N h
  have h1 := h.2.1 n h0 (by rw [vw_1100_0]; exact hn)
  rw [show (1000 : Int) + 1 = 1001 from rfl, show (1000 : Int) + 2 = 1002 from rfl, show (1000 : Int) + 3 = 1003 from rfl, show (1000 : Int) + 5 = 1005 from rfl, show (1000 : Int) + 6 = 1006 from rfl, show (1000 : Int) + 7 = 1007 from rfl, vw_1 (by omega), vw_2 (by omega), vw_3 (by omega), vw_5 (by omega), vw_6 (by omega), vw_7 (by omega)] at h1
  exact h1
theorem ri_Q {K : Int} {F : Hp} (h : RI K F) : (0 ≤ F 137 0 ∧ F 137 0 ≤ 5000) ∧ (∀ n : Int, 0 ≤ n → n < F 136 3 → (0 ≤ F 137 (135 + n) ∧ F 137 (135 + n) ≤ 16) ∧ (chlC (F 141) (F 136 3) n ≠ 0 → F 137 (135 + n) = 0)) ∧ ∀ n : Int, 0 ≤ n → n < F 136 3 → ∀ k : Int, 0 ≤ k → k < F 137 (135 + n) → (1 ≤ F 137 (147 + 3 * (n * 16 + k) + 1) ∧ F 137 (147 + 3 * (n * 16 + k) + 1) ≤ 99) ∧ (0 ≤ F 137 (147 + 3 * (n * 16 + k) + 2) ∧ F 137 (147 + 3 * (n * 16 + k) + 2) ≤ F 137 0) := by
  have hN := ri_N h
  have h1 := h.2.2.1
  refine ⟨h1.1, fun n h0 hn => ?_, fun n h0 hn k k0 k1 => ?_⟩
  · have a := h1.2.1 n h0 (by rw [vw_1100_0]; exact hn)
    rw [show (1000 : Int) + 9 = 1009 from rfl, show (1100 : Int) + 4 = 1104 from rfl, vw_9 (by omega), vw_1104] at a
    exact a
  · have b := h1.2.1 n h0 (by rw [vw_1100_0]; exact hn)
    have a := h1.2.2 n h0 (by rw [vw_1100_0]; exact hn) k k0
    rw [show (1000 : Int) + 9 = 1009 from rfl, vw_9 (by omega)] at a b
    have c := a k1
    rw [show (1000 : Int) + 11 = 1011 from rfl, show (1000 : Int) + 12 = 1012 from rfl, vw_q1 (by omega), vw_q2 (by omega)] at c
    exact c
theorem ri_G {K : Int} {F : Hp} (h : RI K F) : (0 ≤ F 137 2 ∧ F 137 2 ≤ 24) ∧ ∀ k : Int, 0 ≤ k → k < F 137 2 → (0 ≤ F 137 (723 + 4 * k + 3) ∧ F 137 (723 + 4 * k + 3) ≤ F 137 0) ∧ (0 ≤ F 137 (723 + 4 * k + 1) ∧ F 137 (723 + 4 * k + 1) ≤ 99) := by
  have h1 := h.2.2.2.1
  have h2 : 0 ≤ F 137 2 ∧ F 137 2 ≤ 24 := h1.1
  refine ⟨h2, fun k k0 k1 => ?_⟩
  have c := h1.2 k k0 k1
  rw [show (1000 : Int) + 23 = 1023 from rfl, show (1000 : Int) + 21 = 1021 from rfl, vw_l3 (by omega), vw_l1 (by omega)] at c
  exact c
theorem ri_B {K : Int} {F : Hp} (h : RI K F) : ∀ n : Int, 0 ≤ n → n < F 136 3 → 0 ≤ F 137 (39 + n) ∧ F 137 (39 + n) + 99 * F 137 (135 + n) ≤ K := by
  intro n h0 hn
  have hN := ri_N h
  have h1 := h.2.2.2.2 n h0 (by rw [vw_1100_0]; exact hn)
  rw [show (1000 : Int) + 14 = 1014 from rfl, show (1000 : Int) + 9 = 1009 from rfl, vw_14 (by omega), vw_9 (by omega)] at h1
  exact h1
theorem hasC_t {par : Int → Int} {n : Int} : ∀ m : Nat, hasC par n m = true ↔ ∃ j : Int, 0 ≤ j ∧ j < m ∧ par j = n
  | 0 => Iff.intro (fun h => by cases h) (fun h => by obtain ⟨j, h0, h1, _⟩ := h; omega)
  | m + 1 => by
    unfold hasC
    rw [Bool.or_eq_true, decide_eq_true_iff, hasC_t m]
    constructor
    · rintro (h | ⟨j, h0, h1, h2⟩)
      · exact ⟨m, by omega, by omega, h⟩
      · exact ⟨j, h0, by omega, h2⟩
    · rintro ⟨j, h0, h1, h2⟩
      by_cases q : j = m
      · left; rw [← q]; exact h2
      · right; exact ⟨j, h0, by omega, h2⟩
theorem chlC_0 {par : Int → Int} {N n : Int} (hN : 0 ≤ N) : chlC par N n = 0 ↔ ∀ j : Int, 0 ≤ j → j < N → par j ≠ n := by
  unfold chlC
  constructor
  · intro h j h0 h1 h2
    rw [if_pos ((hasC_t _).mpr ⟨j, h0, by omega, h2⟩)] at h
    omega
  · intro h
    rw [if_neg]
    intro q
    obtain ⟨j, h0, h1, h2⟩ := (hasC_t _).mp q
    exact h j h0 (by omega) h2
set_option maxRecDepth 100000 in
set_option maxHeartbeats 4000000 in
theorem r_in {V : VX} {F : Hp} {x lo hi : Int} (h1 : I64 x) (h2 : I64 lo) (h3 : I64 hi) : Ct V yX12_in cX12_in 6 (some .boolean) 0 0 0 0 SH [vl x, vl lo, vl hi] F SH 1 (fun r F' => ((r = 1 ∧ (lo ≤ x ∧ x ≤ hi)) ∨ (r = 0 ∧ ¬ (lo ≤ x ∧ x ≤ hi))) ∧ F' = F) := by
  refine Ct.of [some (vl x), none, some (vl lo), none, some (vl hi), none] (by decide) (by simp [lg_sl, vi_cat, vl_cat, vr_cat]) rfl (by simp [asc, lv_args, vi_cat, vl_cat, vr_cat]) (fun X hV hX => ?_)
  subst hV
  refine R_lload_0 hX dX12_in_0 ?_
  refine R_lload_2 hX dX12_in_1 ?_
  refine R_lcmp hX ⟨by omega, by omega⟩ ⟨by omega, by omega⟩ dX12_in_2 ?_
  refine R_iflt (tgt := 17) hX dX12_in_3 (by decide) (by unfold lc; split <;> (try split) <;> constructor <;> omega) (fun c_3 => ?_) (fun c_3 => ?_)
  · skip
    have g3 : ¬ (lo ≤ x ∧ x ≤ hi) := by first | (unfold lc at c_10; split at c_10 <;> (try split at c_10) <;> omega) | (unfold lc at c_3; split at c_3 <;> (try split at c_3) <;> omega)
    refine R_iconst hX dX12_in_17 ?_
    exact R_zret hX (by omega) dX12_in_18 ⟨by omega, rfl⟩
  · skip
    have g1 : lo ≤ x := by unfold lc at c_3; split at c_3 <;> (try split at c_3) <;> omega
    refine R_lload_0 hX dX12_in_6 ?_
    refine R_lload_4 hX dX12_in_7 ?_
    refine R_lcmp hX ⟨by omega, by omega⟩ ⟨by omega, by omega⟩ dX12_in_9 ?_
    refine R_ifgt (tgt := 17) hX dX12_in_10 (by decide) (by unfold lc; split <;> (try split) <;> constructor <;> omega) (fun c_10 => ?_) (fun c_10 => ?_)
    · skip
      have g3 : ¬ (lo ≤ x ∧ x ≤ hi) := by first | (unfold lc at c_10; split at c_10 <;> (try split at c_10) <;> omega) | (unfold lc at c_3; split at c_3 <;> (try split at c_3) <;> omega)
      refine R_iconst hX dX12_in_17 ?_
      exact R_zret hX (by omega) dX12_in_18 ⟨by omega, rfl⟩
    · skip
      have g2 : x ≤ hi := by unfold lc at c_10; split at c_10 <;> (try split at c_10) <;> omega
      refine R_iconst hX dX12_in_13 ?_
      refine R_goto (tgt := 18) hX dX12_in_14 (by decide) ?_
      exact R_zret hX (by omega) dX12_in_18 ⟨by omega, rfl⟩
set_option maxRecDepth 100000 in
set_option maxHeartbeats 4000000 in
theorem r_isNode {V : VX} {F : Hp} {K : Int} (h : RI K F) {n : Int} (h1 : I32 n)  : Ct V yX12_isNode cX12_isNode 2 (some .boolean) 1 25 0 0 SH [vr V 136, vi n] F SH 1 (fun r F' => ((r = 1 ∧ (0 ≤ n ∧ n < F 136 3)) ∨ (r = 0 ∧ ¬ (0 ≤ n ∧ n < F 136 3))) ∧ F' = F) := by
  refine Ct.of [some (vr V 136), some (vi n)] (by decide) (by simp [lg_sl, vi_cat, vl_cat, vr_cat]) rfl (by simp [asc, lv_args, vi_cat, vl_cat, vr_cat]) (fun X hV hX => ?_)
  subst hV
  have hN := ri_N h
  have hT := ri_T h
  refine R_iload_1 hX dX12_isNode_0 ?_
  refine R_i2l hX (by constructor <;> first | omega | (simp (disch := omega) only [up_k, up_i, up_s]; omega)) dX12_isNode_1 ?_
  refine R_lconst0 hX dX12_isNode_2 ?_
  refine R_aload_0 hX dX12_isNode_3 ?_
  refine R_geti hX dX12_isNode_4 fl_X12_91 o_136 rfl ?_
  refine R_iconst hX dX12_isNode_7 ?_
  refine R_isub hX dX12_isNode_8 ?_
  refine R_i2l hX (by constructor <;> first | omega | (simp (disch := omega) only [up_k, up_i, up_s]; omega)) dX12_isNode_9 ?_
  refine R_s3i hX dX12_isNode_10 li_X12_94 mk_X12_in ms_X12_in (r_in (by constructor <;> omega) (by constructor <;> omega) (by constructor <;> omega)) ⟨⟨by decide, by decide⟩, by decide, by decide, rfl, Nat.le_of_ble_eq_true rfl, rfl⟩ (fun x_10 F_10 h_10 => ?_)
  obtain ⟨h_10, e_10⟩ := h_10; replace e_10 := e_10.symm; subst e_10
  exact R_zret hX (by omega) dX12_isNode_13 ⟨by omega, rfl⟩
set_option maxRecDepth 100000 in
set_option maxHeartbeats 4000000 in
theorem r_isBare {V : VX} {F : Hp} {K : Int} (h : RI K F) {m : Int} (h1 : I32 m)  : Ct V yX12_isBare cX12_isBare 3 (some .boolean) 2 46 0 0 SH [vr V 136, vi m] F SH 1 (fun r F' => ((r = 1 ∧ (0 ≤ m ∧ m < F 136 3 ∧ chlC (F 141) (F 136 3) m = 0)) ∨ (r = 0 ∧ ¬ (0 ≤ m ∧ m < F 136 3 ∧ chlC (F 141) (F 136 3) m = 0))) ∧ F' = F) := by
  refine Ct.of [some (vr V 136), some (vi m), none] (by decide) (by simp [lg_sl, vi_cat, vl_cat, vr_cat]) rfl (by simp [asc, lv_args, vi_cat, vl_cat, vr_cat]) (fun X hV hX => ?_)
  subst hV
  have hN := ri_N h
  have hT := ri_T h
  refine R_aload_0 hX dX12_isBare_0 ?_
  refine R_iload_1 hX dX12_isBare_1 ?_
  refine R_v1i hX dX12_isBare_2 li_X12_98 mk_X12_isNode mi_X12_isNode rfl o_136 (r_isNode h h1) ⟨⟨by decide, by decide⟩, by decide, by decide, rfl, Nat.le_of_ble_eq_true rfl, rfl⟩ (fun x_2 F_2 h_2 => ?_)
  obtain ⟨h_2, e_2⟩ := h_2; replace e_2 := e_2.symm; subst e_2
  refine R_ifne (tgt := 10) hX dX12_isBare_5 (by decide) ⟨by omega, by omega⟩ (fun c_5 => ?_) (fun c_5 => ?_)
  · skip
    refine R_iload_1 hX dX12_isBare_10 ?_
    refine R_iconst hX dX12_isBare_11 ?_
    refine R_iadd hX dX12_isBare_12 ?_
    refine R_istore_2 hX c1_i dX12_isBare_13 ?_
    have lp_14 : ∀ (n : Nat) (k : Int), (m < k ∧ k ≤ F 136 3) → (∀ j : Int, m < j → j < k → F 141 j ≠ m) → (13 - k).toNat < n → R X SH 0 0 14 [some (vr (xV X) 136), some (vi m), some (vi k)] [] F (Zq X SH 1 (fun r F' => ((r = 1 ∧ (0 ≤ m ∧ m < F 136 3 ∧ chlC (F 141) (F 136 3) m = 0)) ∨ (r = 0 ∧ ¬ (0 ≤ m ∧ m < F 136 3 ∧ chlC (F 141) (F 136 3) m = 0))) ∧ F' = F) 0 0) := by
      intro n
      induction n with
      | zero => intro k iv14_0 iv14_1 hm; exact absurd hm (Nat.not_lt_zero _)
      | succ n ih_14 =>
        intro k iv14_0 iv14_1 hm_14
        refine R_iload_2 hX dX12_isBare_14 ?_
        refine R_aload_0 hX dX12_isBare_15 ?_
        refine R_geti hX dX12_isBare_16 fl_X12_91 o_136 rfl ?_
        refine R_icmpge (tgt := 40) hX dX12_isBare_19 (by decide) ⟨by omega, by omega⟩ ⟨by omega, by omega⟩ (fun c_19 => ?_) (fun c_19 => ?_)
        · skip
          refine R_iconst hX dX12_isBare_40 ?_
          exact R_zret hX (by omega) dX12_isBare_41 ⟨Or.inl ⟨rfl, by omega, by omega, (chlC_0 hN.1).mpr (fun j h0 h1 h2 => by have ht := hT j h0 h1; exact iv14_1 j (by omega) (by omega) h2)⟩, rfl⟩
        · skip
          have ht := hT k (by omega) (by omega)
          refine R_aload_0 hX dX12_isBare_22 ?_
          refine R_getq (v := 141) hX dX12_isBare_23 fl_X12_31 o_136 rfl (by omega) ?_
          refine R_iload_2 hX dX12_isBare_26 ?_
          refine R_iald hX dX12_isBare_27 a_141 ⟨by omega, by omega⟩ ?_
          refine R_iload_1 hX dX12_isBare_28 ?_
          refine R_icmpne (tgt := 34) hX dX12_isBare_29 (by decide) ⟨by omega, by omega⟩ ⟨by omega, by omega⟩ (fun c_29 => ?_) (fun c_29 => ?_)
          · skip
            refine R_iinc_2 hX c1_i dX12_isBare_34 ?_
            refine R_goto (tgt := 14) hX dX12_isBare_37 (by decide) ?_
            exact ih_14 _ (by omega) (fun j h0 h1 => by by_cases z : j = k; (rw [z]; omega); exact iv14_1 j h0 (by omega)) (by omega)
          · skip
            refine R_iconst hX dX12_isBare_32 ?_
            exact R_zret hX (by omega) dX12_isBare_33 ⟨Or.inr ⟨rfl, fun z => by have := (chlC_0 hN.1).mp z.2.2 k (by omega) (by omega); omega⟩, rfl⟩
    exact lp_14 14 _ (by omega) (fun j h0 h1 => by omega) (by omega)
  · skip
    refine R_iconst hX dX12_isBare_8 ?_
    exact R_zret hX (by omega) dX12_isBare_9 ⟨by omega, rfl⟩
set_option maxRecDepth 100000 in
set_option maxHeartbeats 4000000 in
theorem r_isAsked {V : VX} {F : Hp} {K : Int} (h : RI K F) {l c : Int} (h1 : I32 l) (h2 : I32 c)  : Ct V yX12_isAsked cX12_isAsked 3 (some .boolean) 3 68 0 0 SH [vr V 136, vi l, vi c] F SH 1 (fun r F' => ((r = 1 ∧ (0 ≤ l ∧ l < F 136 3 ∧ chlC (F 141) (F 136 3) l = 0 ∧ 1 ≤ c ∧ c ≤ 99)) ∨ (r = 0 ∧ ¬ (0 ≤ l ∧ l < F 136 3 ∧ chlC (F 141) (F 136 3) l = 0 ∧ 1 ≤ c ∧ c ≤ 99))) ∧ F' = F) := by
  refine Ct.of [some (vr V 136), some (vi l), some (vi c)] (by decide) (by simp [lg_sl, vi_cat, vl_cat, vr_cat]) rfl (by simp [asc, lv_args, vi_cat, vl_cat, vr_cat]) (fun X hV hX => ?_)
  subst hV
  have hN := ri_N h
  have hT := ri_T h
  refine R_aload_0 hX dX12_isAsked_0 ?_
  refine R_iload_1 hX dX12_isAsked_1 ?_
  refine R_v1i hX dX12_isAsked_2 li_X12_247 mk_X12_isBare mi_X12_isBare rfl o_136 (r_isBare h h1) ⟨⟨by decide, by decide⟩, by decide, by decide, rfl, Nat.le_of_ble_eq_true rfl, rfl⟩ (fun x_2 F_2 h_2 => ?_)
  obtain ⟨h_2, e_2⟩ := h_2; replace e_2 := e_2.symm; subst e_2
  refine R_ifeq (tgt := 24) hX dX12_isAsked_5 (by decide) ⟨by omega, by omega⟩ (fun c_5 => ?_) (fun c_5 => ?_)
  · skip
    refine R_iconst hX dX12_isAsked_24 ?_
    exact R_zret hX (by omega) dX12_isAsked_25 ⟨by omega, rfl⟩
  · skip
    refine R_iload_2 hX dX12_isAsked_8 ?_
    refine R_i2l hX ⟨by omega, by omega⟩ dX12_isAsked_9 ?_
    refine R_lconst1 hX dX12_isAsked_10 ?_
    refine R_ldc2 (n := 99) hX k2_X12_253 rfl dX12_isAsked_11 ?_
    refine R_s3i hX dX12_isAsked_14 li_X12_94 mk_X12_in ms_X12_in (r_in (by constructor <;> omega) (by constructor <;> omega) (by constructor <;> omega)) ⟨⟨by decide, by decide⟩, by decide, by decide, rfl, Nat.le_of_ble_eq_true rfl, rfl⟩ (fun x_14 F_14 h_14 => ?_)
    obtain ⟨h_14, e_14⟩ := h_14; replace e_14 := e_14.symm; subst e_14
    refine R_ifeq (tgt := 24) hX dX12_isAsked_17 (by decide) ⟨by omega, by omega⟩ (fun c_17 => ?_) (fun c_17 => ?_)
    · skip
      refine R_iconst hX dX12_isAsked_24 ?_
      exact R_zret hX (by omega) dX12_isAsked_25 ⟨by omega, rfl⟩
    · skip
      refine R_iconst hX dX12_isAsked_20 ?_
      refine R_goto (tgt := 25) hX dX12_isAsked_21 (by decide) ?_
      exact R_zret hX (by omega) dX12_isAsked_25 ⟨by omega, rfl⟩
set_option maxRecDepth 100000 in
set_option maxHeartbeats 4000000 in
theorem r_steps {V : VX} {F : Hp} {K : Int} (h : RI K F) {m t : Int} (hn : 0 ≤ m ∧ m < F 136 3) (ht : onP (F 141) 13 m t = true)  : Ct V yX12_steps cX12_steps 5 (some .int) 0 0 0 0 SH [vr V 136, vi m, vi t] F SH 1 (fun r F' => r = dptF (F 141) 13 m - dptF (F 141) 13 t ∧ F' = F) := by
  refine Ct.of [some (vr V 136), some (vi m), some (vi t), none, none] (by decide) (by simp [lg_sl, vi_cat, vl_cat, vr_cat]) rfl (by simp [asc, lv_args, vi_cat, vl_cat, vr_cat]) (fun X hV hX => ?_)
  subst hV
  have hN := ri_N h
  have hT := ri_T h
  have hD := ri_D h
  have htr := onP_le hT _ _ _ hn.2 ht
  refine R_iconst hX dX12_steps_0 ?_
  refine R_istore_3 hX c1_i dX12_steps_1 ?_
  refine R_iload_1 hX dX12_steps_2 ?_
  refine R_istore_4 hX c1_i dX12_steps_3 ?_
  have lp_5 : ∀ (n : Nat) (j : Nat) (s : Int) (k : Int), (0 ≤ k ∧ k < F 136 3 ∧ k < j ∧ t ≤ k) → (onP (F 141) j k t = true) → (s + dptF (F 141) 13 k = dptF (F 141) 13 m) → k.toNat < n → R X SH 0 0 5 [some (vr (xV X) 136), some (vi m), some (vi t), some (vi s), some (vi k)] [] F (Zq X SH 1 (fun r F' => r = dptF (F 141) 13 m - dptF (F 141) 13 t ∧ F' = F) 0 0) := by
    intro n
    induction n with
    | zero => intro j s k iv5_0 iv5_1 iv5_2 hm; exact absurd hm (Nat.not_lt_zero _)
    | succ n ih_5 =>
      intro j s k iv5_0 iv5_1 iv5_2 hm_5
      refine R_iload_4 hX dX12_steps_5 ?_
      refine R_iload_2 hX dX12_steps_7 ?_
      refine R_icmpeq (tgt := 26) hX dX12_steps_8 (by decide) ⟨by omega, by omega⟩ ⟨by omega, by omega⟩ (fun c_8 => ?_) (fun c_8 => ?_)
      · skip
        refine R_iload_3 hX dX12_steps_26 ?_
        exact R_iret hX dX12_steps_27 ⟨by rw [c_8] at iv5_2; omega, rfl⟩
      · skip
        have hp := hT k (by omega) (by omega)
        have hd := hD k (by omega) (by omega)
        have hon : onP (F 141) (j - 1) (F 141 k) t = true := by rw [← onP_up (k := j) (by omega) (by omega) (by omega)]; exact iv5_1
        have hol := onP_le hT _ _ _ (by omega) hon
        refine R_iinc_3 hX c1_i dX12_steps_11 ?_
        refine R_aload_0 hX dX12_steps_14 ?_
        refine R_getq (v := 141) hX dX12_steps_15 fl_X12_31 o_136 rfl (by omega) ?_
        refine R_iload_4 hX dX12_steps_18 ?_
        refine R_iald hX dX12_steps_20 a_141 ⟨by omega, by omega⟩ ?_
        refine R_istore_4 hX c1_i dX12_steps_21 ?_
        refine R_goto (tgt := 5) hX dX12_steps_23 (by decide) ?_
        exact ih_5 (j - 1) _ _ (by omega) hon (by omega) (by omega)
  exact lp_5 13 13 _ _ (by omega) ht (by omega) (by omega)
set_option maxRecDepth 100000 in
set_option maxHeartbeats 4000000 in
theorem r_blocker {V : VX} {F : Hp} {K : Int} (h : RI K F) {l c : Int} (hl : 0 ≤ l ∧ l < F 136 3) (hc : I32 c)  : Ct V yX12_blocker cX12_blocker 4 (some .int) 0 0 0 0 SH [vr V 136, vi l, vi c] F SH 1 (fun r F' => r = blkS (vw 0 F 1007) (F 141) c 13 l ∧ F' = F) := by
  refine Ct.of [some (vr V 136), some (vi l), some (vi c), none] (by decide) (by simp [lg_sl, vi_cat, vl_cat, vr_cat]) rfl (by simp [asc, lv_args, vi_cat, vl_cat, vr_cat]) (fun X hV hX => ?_)
  subst hV
  have hN := ri_N h
  have hT := ri_T h
  have hA := ri_A h
  have hSS := ri_S h
  refine R_iload_1 hX dX12_blocker_0 ?_
  refine R_istore_3 hX c1_i dX12_blocker_1 ?_
  have lp_2 : ∀ (n : Nat) (k : Nat) (x : Int), (-2 ≤ x ∧ x < F 136 3 ∧ x < k) → (blkS (vw 0 F 1007) (F 141) c k x = blkS (vw 0 F 1007) (F 141) c 13 l) → (x + 3).toNat < n → R X SH 0 0 2 [some (vr (xV X) 136), some (vi l), some (vi c), some (vi x)] [] F (Zq X SH 1 (fun r F' => r = blkS (vw 0 F 1007) (F 141) c 13 l ∧ F' = F) 0 0) := by
    intro n
    induction n with
    | zero => intro k x iv2_0 iv2_1 hm; exact absurd hm (Nat.not_lt_zero _)
    | succ n ih_2 =>
      intro k x iv2_0 iv2_1 hm_2
      refine R_iload_3 hX dX12_blocker_2 ?_
      refine R_iflt (tgt := 31) hX dX12_blocker_3 (by decide) ⟨by omega, by omega⟩ (fun c_3 => ?_) (fun c_3 => ?_)
      · skip
        refine R_bipush hX dX12_blocker_31 (by decide) ?_
        exact R_iret hX dX12_blocker_33 ⟨by rw [← iv2_1, blkS_neg (by omega)], rfl⟩
      · skip
        have ha := hA x (by omega) (by omega)
        have hs := hSS x (by omega) (by omega)
        have hp := hT x (by omega) (by omega)
        have e7 := vw_7 (F := F) (n := x) (by omega)
        refine R_aload_0 hX dX12_blocker_6 ?_
        refine R_getq (v := 137) hX dX12_blocker_7 fl_X12_7 o_136 rfl (by omega) ?_
        refine R_bipush hX dX12_blocker_10 (by decide) ?_
        refine R_iload_3 hX dX12_blocker_12 ?_
        refine R_iadd hX dX12_blocker_13 ?_
        refine R_iald hX dX12_blocker_14 a_137 ⟨by omega, by omega⟩ ?_
        refine R_iload_2 hX dX12_blocker_15 ?_
        refine R_icmpge (tgt := 21) hX dX12_blocker_16 (by decide) ⟨by omega, by omega⟩ hc (fun c_16 => ?_) (fun c_16 => ?_)
        · skip
          refine R_aload_0 hX dX12_blocker_21 ?_
          refine R_getq (v := 141) hX dX12_blocker_22 fl_X12_31 o_136 rfl (by omega) ?_
          refine R_iload_3 hX dX12_blocker_25 ?_
          refine R_iald hX dX12_blocker_26 a_141 ⟨by omega, by omega⟩ ?_
          refine R_istore_3 hX c1_i dX12_blocker_27 ?_
          refine R_goto (tgt := 2) hX dX12_blocker_28 (by decide) ?_
          exact ih_2 (k - 1) _ (by omega) (by rw [← iv2_1, blkS_up (k := k) (by omega) (by omega) (by rw [e7]; omega)]) (by omega)
        · skip
          refine R_iload_3 hX dX12_blocker_19 ?_
          exact R_iret hX dX12_blocker_20 ⟨by rw [← iv2_1, blkS_hit (by omega) (by omega) (by rw [e7]; omega)], rfl⟩
  exact lp_2 20 13 _ (by omega) rfl (by omega)
set_option maxRecDepth 100000 in
set_option maxHeartbeats 4000000 in
theorem r_lends {V : VX} {F : Hp} {K : Int} (h : RI K F) {l c : Int} (hl : 0 ≤ l ∧ l < F 136 3) (hc : I32 c)  : Ct V yX12_lends cX12_lends 4 (some .int) 1 23 0 0 SH [vr V 136, vi l, vi c] F SH 1 (fun r F' => r = lndS 1000 1100 (vw 0 F) l c ∧ F' = F) := by
  refine Ct.of [some (vr V 136), some (vi l), some (vi c), none] (by decide) (by simp [lg_sl, vi_cat, vl_cat, vr_cat]) rfl (by simp [asc, lv_args, vi_cat, vl_cat, vr_cat]) (fun X hV hX => ?_)
  subst hV
  have hN := ri_N h
  have hT := ri_T h
  have hA := ri_A h
  have hSS := ri_S h
  have hlr := blkS_rng (hd := vw 0 F 1007) (c := c) hT 13 l hl.2
  have hdef : lndS 1000 1100 (vw 0 F) l c = if blkS (vw 0 F 1007) (F 141) c 13 l = -2 then askS (fun n => vw 0 F 1005 n + vw 0 F 1006 n) (F 141) (F 145) c 13 l else -2 := rfl
  refine R_aload_0 hX dX12_lends_0 ?_
  refine R_iload_1 hX dX12_lends_1 ?_
  refine R_iload_2 hX dX12_lends_2 ?_
  refine R_v2i hX dX12_lends_3 li_X12_255 mk_X12_blocker mi_X12_blocker rfl o_136 (r_blocker h hl hc) ⟨⟨by decide, by decide⟩, by decide, by decide, rfl, Nat.le_of_ble_eq_true rfl, rfl⟩ (fun x_3 F_3 h_3 => ?_)
  obtain ⟨h_3, e_3⟩ := h_3; replace e_3 := e_3.symm; subst e_3
  subst h_3
  refine R_bipush hX dX12_lends_6 (by decide) ?_
  refine R_icmpeq (tgt := 14) hX dX12_lends_8 (by decide) ⟨by omega, by omega⟩ ⟨by omega, by omega⟩ (fun c_8 => ?_) (fun c_8 => ?_)
  · skip
    refine R_iload_1 hX dX12_lends_14 ?_
    refine R_istore_3 hX c1_i dX12_lends_15 ?_
    have lp_16 : ∀ (n : Nat) (k : Nat) (x : Int), (-2 ≤ x ∧ x < F 136 3 ∧ x < k) → (askS (fun n => vw 0 F 1005 n + vw 0 F 1006 n) (F 141) (F 145) c k x = lndS 1000 1100 (vw 0 F) l c) → (x + 3).toNat < n → R X SH 0 0 16 [some (vr (xV X) 136), some (vi l), some (vi c), some (vi x)] [] F (Zq X SH 1 (fun r F' => r = lndS 1000 1100 (vw 0 F) l c ∧ F' = F) 0 0) := by
      intro n
      induction n with
      | zero => intro k x iv16_0 iv16_1 hm; exact absurd hm (Nat.not_lt_zero _)
      | succ n ih_16 =>
        intro k x iv16_0 iv16_1 hm_16
        refine R_iload_3 hX dX12_lends_16 ?_
        refine R_iflt (tgt := 66) hX dX12_lends_17 (by decide) ⟨by omega, by omega⟩ (fun c_17 => ?_) (fun c_17 => ?_)
        · skip
          refine R_bipush hX dX12_lends_66 (by decide) ?_
          exact R_iret hX dX12_lends_68 ⟨by rw [← iv16_1, askS_neg (by omega)], rfl⟩
        · skip
          have ha := hA x (by omega) (by omega)
          have hs := hSS x (by omega) (by omega)
          have hp := hT x (by omega) (by omega)
          have e5 := vw_5 (F := F) (n := x) (by omega)
          have e6 := vw_6 (F := F) (n := x) (by omega)
          refine R_aload_0 hX dX12_lends_20 ?_
          refine R_getq (v := 137) hX dX12_lends_21 fl_X12_7 o_136 rfl (by omega) ?_
          refine R_iconst hX dX12_lends_24 ?_
          refine R_iload_3 hX dX12_lends_25 ?_
          refine R_iadd hX dX12_lends_26 ?_
          refine R_iald hX dX12_lends_27 a_137 ⟨by omega, by omega⟩ ?_
          refine R_aload_0 hX dX12_lends_28 ?_
          refine R_getq (v := 137) hX dX12_lends_29 fl_X12_7 o_136 rfl (by omega) ?_
          refine R_bipush hX dX12_lends_32 (by decide) ?_
          refine R_iload_3 hX dX12_lends_34 ?_
          refine R_iadd hX dX12_lends_35 ?_
          refine R_iald hX dX12_lends_36 a_137 ⟨by omega, by omega⟩ ?_
          refine R_iadd hX dX12_lends_37 ?_
          refine R_iload_2 hX dX12_lends_38 ?_
          refine R_icmplt (tgt := 44) hX dX12_lends_39 (by decide) ⟨by omega, by omega⟩ hc (fun c_39 => ?_) (fun c_39 => ?_)
          · skip
            refine R_aload_0 hX dX12_lends_44 ?_
            refine R_getq (v := 145) hX dX12_lends_45 fl_X12_43 o_136 rfl (by omega) ?_
            refine R_iload_3 hX dX12_lends_48 ?_
            refine R_zald hX dX12_lends_49 a_145 ⟨by omega, by omega⟩ ?_
            refine R_ifeq (tgt := 56) hX dX12_lends_50 (by decide) ⟨by omega, by omega⟩ (fun c_50 => ?_) (fun c_50 => ?_)
            · skip
              refine R_aload_0 hX dX12_lends_56 ?_
              refine R_getq (v := 141) hX dX12_lends_57 fl_X12_31 o_136 rfl (by omega) ?_
              refine R_iload_3 hX dX12_lends_60 ?_
              refine R_iald hX dX12_lends_61 a_141 ⟨by omega, by omega⟩ ?_
              refine R_istore_3 hX c1_i dX12_lends_62 ?_
              refine R_goto (tgt := 16) hX dX12_lends_63 (by decide) ?_
              exact ih_16 (k - 1) _ (by omega) (by rw [← iv16_1, askS_up (k := k) (by omega) (by omega) (by show ¬ c ≤ vw 0 F 1005 x + vw 0 F 1006 x; omega) (by omega)]) (by omega)
            · skip
              refine R_bipush hX dX12_lends_53 (by decide) ?_
              exact R_iret hX dX12_lends_55 ⟨by rw [← iv16_1, askS_stop (by omega) (by omega) (by show ¬ c ≤ vw 0 F 1005 x + vw 0 F 1006 x; omega) (by omega)], rfl⟩
          · skip
            refine R_iload_3 hX dX12_lends_42 ?_
            exact R_iret hX dX12_lends_43 ⟨by rw [← iv16_1, askS_hit (by omega) (by omega) (by show c ≤ vw 0 F 1005 x + vw 0 F 1006 x; omega)], rfl⟩
    exact lp_16 20 13 _ (by omega) (by rw [hdef, if_pos c_8]) (by omega)
  · skip
    refine R_bipush hX dX12_lends_11 (by decide) ?_
    exact R_iret hX dX12_lends_13 ⟨by rw [hdef, if_neg c_8], rfl⟩
