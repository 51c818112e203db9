/-! the tokens of the class and of the reference -/
theorem runE_fu {P : Int → Bool} {ch : Int → Int} {len : Int} : ∀ (k j : Nat) (p : Int), len - p < k → len - p < j → runE P ch len k p = runE P ch len j p
  | 0, j, p, h, _ => by rw [runE_stop (by omega), runE_stop (by omega)]
  | k + 1, j, p, h, h2 => by
    by_cases q : p < len ∧ P (ch p) = true
    · rw [runE_go (by omega) q, runE_go (k := j) (by omega) q, Nat.add_sub_cancel]
      exact runE_fu k (j - 1) (p + 1) (by omega) (by omega)
    · rw [runE_stop q, runE_stop q]
theorem sb_l {x : Int} (h : 0 ≤ x ∧ x ≤ 255) : spcB (sb x) = spcB x ∧ ltrB (sb x) = ltrB x ∧ dgtB (sb x) = dgtB x ∧ (sb x = 59 ↔ x = 59) := by
  have e : ∀ p q : Prop, [Decidable p] → [Decidable q] → (p ↔ q) → decide p = decide q := fun p q _ _ h => by
    by_cases z : p
    · rw [decide_eq_true z, decide_eq_true (h.mp z)]
    · rw [decide_eq_false z, decide_eq_false (fun y => z (h.mpr y))]
  unfold spcB ltrB dgtB sb
  refine ⟨e _ _ ?_, e _ _ ?_, e _ _ ?_, ?_⟩ <;> split <;> omega
/-- the same text -/
def TxR (M F : Hp) : Prop := M 1 1 = F 136 14 ∧ (0 ≤ F 136 14 ∧ F 136 14 ≤ 900) ∧ ∀ i : Int, 0 ≤ i → i < F 136 14 → M 2 i = sb (F 146 i) ∧ (0 ≤ F 146 i ∧ F 146 i ≤ 255)
theorem tx_run {M F : Hp} (h : TxR M F) {P : Int → Bool} (hP : ∀ x : Int, 0 ≤ x ∧ x ≤ 255 → P (sb x) = P x) {p : Int} (hp : 0 ≤ p) : runE P (M 2) (M 1 1) 901 p = runE P (F 146) (F 136 14) ((F 136 14 - p).toNat + 1) p := by
  rw [h.1, runE_fu 901 ((F 136 14 - p).toNat + 1) p (by have := h.2.1; omega) (by omega)]
  exact runE_cong _ p hp (fun i z0 z1 => by rw [(h.2.2 i z0 z1).1]; exact hP _ (h.2.2 i z0 z1).2)
theorem nl_fu : ∀ (k i j : Nat) (w : Int), k ≤ i → k ≤ j → w < ((32 ^ k : Nat) : Int) → nlF i w = nlF j w
  | 0, i, j, w, _, _, h => by rw [nlF_0 (by simp at h; omega), nlF_0 (by simp at h; omega)]
  | k + 1, i, j, w, h1, h2, h => by
    by_cases q : w ≤ 0
    · rw [nlF_0 q, nlF_0 q]
    · rw [nlF_st (by omega) (by omega), nlF_st (k := j) (by omega) (by omega), nl_fu k (i - 1) (j - 1) (w / 32) (by omega) (by omega) (dv_lt h)]
theorem rw_wd {ch ch2 : Int → Int} {a : Int} : ∀ k : Nat, k ≤ 8 → (∀ i : Int, a ≤ i → i < a + k → ch2 i = ch i ∧ 97 ≤ ch i ∧ ch i ≤ 122) → wdC ch2 a k = rwC ch a k * ((32 ^ (8 - k) : Nat) : Int) ∧ nlF 8 (rwC ch a k) = k ∧ (0 < k → 0 < rwC ch a k ∧ ¬ rwC ch a k % 32 = 0)
  | 0, _, _ => ⟨by simp [wdC, rwC], by simp [rwC, nlF], fun z => by omega⟩
  | k + 1, hk, h => by
    obtain ⟨i1, i2, i3⟩ := rw_wd (ch := ch) (ch2 := ch2) (a := a) k (by omega) (fun i z1 z2 => h i z1 (by omega))
    have hc := h (a + k) (by omega) (by omega)
    have hr := wdC_rng (ch := ch2) (a := a) k (fun i z1 z2 => by have := h i z1 (by omega); omega)
    have hw := (wlS_rng (wdC ch2 a k) k (ch2 (a + k)) hr.1.1 hr.1.2 (by omega) (by omega) (by omega) (fun q => by rw [Int.toNat_natCast]; exact hr.2 (by omega))).2 (by omega)
    have e : rwC ch a (k + 1) = rwC ch a k * 32 + ch (a + k) - 96 := if_pos (by omega)
    have hz : 0 ≤ rwC ch a k := (rwC_rng (ch := ch) (a := a) k (fun i z1 z2 => (h i z1 (by omega)).2)).1
    refine ⟨?_, ?_, fun _ => by rw [e]; omega⟩
    · show wlS (wdC ch2 a k) k (ch2 (a + k)) = _
      rw [hw.1, i1, e, Int.toNat_natCast, show 8 - k = (7 - k) + 1 by omega, show 8 - (k + 1) = 7 - k by omega, p32_s, hc.1]
      generalize ((32 ^ (7 - k) : Nat) : Int) = z
      rw [show rwC ch a k * 32 + ch (a + k) - 96 = rwC ch a k * 32 + (ch (a + k) - 96) by omega, Int.add_mul, Int.mul_assoc, Int.mul_comm z 32]
    · have hl : rwC ch a k < ((32 ^ k : Nat) : Int) := by
        have := (rwC_rng (ch := ch) (a := a) k (fun i z1 z2 => (h i z1 (by omega)).2)).2
        rw [show min k 8 = k by omega] at this
        exact this
      rw [e, nlF_st (by omega) (by decide), show (rwC ch a k * 32 + ch (a + k) - 96) / 32 = rwC ch a k by omega]
      rw [nl_fu k (8 - 1) 8 _ (by omega) (by omega) hl, i2]
/-- every letter of a word is one -/
abbrev LtW (w : Int) : Prop := ∀ j : Nat, j < nlF 8 w → ¬ w / ((32 ^ j : Nat) : Int) % 32 = 0
theorem rw_lt {ch : Int → Int} {a : Int} : ∀ k : Nat, k ≤ 8 → (∀ i : Int, a ≤ i → i < a + k → 97 ≤ ch i ∧ ch i ≤ 122) → ∀ j : Nat, j < k → ¬ rwC ch a k / ((32 ^ j : Nat) : Int) % 32 = 0
  | 0, _, _, j, hj => by omega
  | k + 1, hk, h, j, hj => by
    have hc := h (a + k) (by omega) (by omega)
    have e : rwC ch a (k + 1) = rwC ch a k * 32 + ch (a + k) - 96 := if_pos (by omega)
    cases j with
    | zero =>
      rw [e]
      simp
      omega
    | succ j =>
      have ih := rw_lt (ch := ch) (a := a) k (by omega) (fun i z1 z2 => h i z1 (by omega)) j (by omega)
      have d : rwC ch a (k + 1) / ((32 ^ (j + 1) : Nat) : Int) = rwC ch a k / ((32 ^ j : Nat) : Int) := by
        rw [p32_s, Int.mul_comm, ← Int.ediv_ediv_of_nonneg (by decide), e, show (rwC ch a k * 32 + ch (a + k) - 96) / 32 = rwC ch a k by omega]
      rw [d]
      exact ih

