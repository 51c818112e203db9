/-! tokens' ranges -/
theorem kwF_rng : ∀ (n : Nat) (k w : Int), 0 ≤ k → kwF n k w = -1 ∨ (k ≤ kwF n k w ∧ kwF n k w < k + n ∧ kwv (kwF n k w).toNat = w)
  | 0, k, w, _ => Or.inl rfl
  | n + 1, k, w, h => by
    unfold kwF
    by_cases q : kwv k.toNat = w
    · rw [if_pos q]; exact Or.inr ⟨Int.le_refl _, by omega, q⟩
    · rw [if_neg q]
      rcases kwF_rng n (k + 1) w (by omega) with z | z
      · exact Or.inl z
      · exact Or.inr ⟨by omega, by omega, z.2.2⟩
theorem kwS_rng (w : Int) : kwS w = -1 ∨ (0 ≤ kwS w ∧ kwS w < 12 ∧ kwv (kwS w).toNat = w) := by
  rcases kwF_rng 12 0 w (Int.le_refl _) with h | h
  · exact Or.inl h
  · exact Or.inr ⟨h.1, by have := h.2.1; unfold kwS; omega, h.2.2⟩
theorem nmC_rng {ch : Int → Int} {a : Int} : ∀ k : Nat, (∀ i : Int, a ≤ i → i < a + k → 48 ≤ ch i ∧ ch i ≤ 57) → 0 ≤ nmC ch a k ∧ nmC ch a k + 1 ≤ ((10 ^ k : Nat) : Int)
  | 0, _ => by simp [nmC]
  | k + 1, h => by
    have ih := nmC_rng (ch := ch) (a := a) k (fun i h1 h2 => h i h1 (by omega))
    have hc := h (a + k) (by omega) (by omega)
    unfold nmC
    rw [Nat.pow_succ]
    omega
theorem sc0_r {F : Hp} {k : Int} (h : k ≠ 21) : sc0S F k = F k := by unfold sc0S; rw [up_r h, up_r h, up_r h]
theorem sc0_f (F : Hp) : sc0S F 21 0 = skpE F ∧ sc0S F 21 2 = skpE F ∧ sc0S F 21 4 = -1 := by
  unfold sc0S
  simp (disch := omega) only [up_s, up_i, and_self]
theorem scn_r {F : Hp} {k : Int} (h : k ≠ 21) : scnS F k = F k := by
  unfold scnS wrdS nbrS
  split
  · rw [up_r h, sc0_r h]
  · split
    · split
      · rw [up_r h, up_r h, up_r h, up_r h, sc0_r h]
      · rw [up_r h, up_r h, up_r h, sc0_r h]
    · split
      · rw [up_r h, up_r h, up_r h, sc0_r h]
      · rw [up_r h, up_r h, sc0_r h]
def ltrE (F : Hp) : Int := runE ltrB (F 2) (F 1 1) 901 (skpE F)
def digE (F : Hp) : Int := runE dgtB (F 2) (F 1 1) 901 (skpE F)
def tokE (F : Hp) : Int := if F 1 1 ≤ skpE F then skpE F else if ltrB (F 2 (skpE F)) = true then ltrE F else if dgtB (F 2 (skpE F)) = true then digE F else skpE F + 1
def tokK (F : Hp) : Int := if F 1 1 ≤ skpE F then 0 else if ltrB (F 2 (skpE F)) = true then (if ltrE F - skpE F ≤ 8 then 1 else 4) else if dgtB (F 2 (skpE F)) = true then (if digE F - skpE F ≤ 4 then 2 else 4) else if F 2 (skpE F) = 59 then 3 else 4
def tokW (F : Hp) : Int := wdC (F 2) (skpE F) (tokE F - skpE F).toNat
def tokN (F : Hp) : Int := nmC (F 2) (skpE F) (tokE F - skpE F).toNat
theorem wdE_0 (F : Hp) : wdE (sc0S F) = ltrE F := by unfold wdE ltrE; rw [sc0_r (by decide), sc0_r (by decide), (sc0_f F).1]
theorem dgE_0 (F : Hp) : dgE (sc0S F) = digE F := by unfold dgE digE; rw [sc0_r (by decide), sc0_r (by decide), (sc0_f F).1]
theorem scn_f (F : Hp) : scnS F 21 0 = tokE F ∧ scnS F 21 1 = tokK F ∧ scnS F 21 2 = skpE F ∧ (tokK F = 1 → scnS F 21 3 = tokW F ∧ scnS F 21 4 = kwS (tokW F)) ∧ (tokK F ≠ 1 → scnS F 21 4 = -1) ∧ (tokK F = 2 → scnS F 21 5 = tokN F) := by
  obtain ⟨f0, f2, f4⟩ := sc0_f F
  have g2 : sc0S F 2 = F 2 := sc0_r (by decide)
  unfold scnS tokK tokW tokN tokE
  by_cases q1 : F 1 1 ≤ skpE F
  · simp (disch := omega) only [if_pos q1, up_i, up_s, f0, f2, f4]
    exact ⟨trivial, trivial, trivial, fun z => absurd z (by decide), fun _ => trivial, fun z => absurd z (by decide)⟩
  · by_cases q2 : ltrB (F 2 (skpE F)) = true
    · simp only [if_neg q1, if_pos q2]
      unfold wrdS
      rw [wdE_0, f2, g2]
      by_cases q3 : ltrE F - skpE F ≤ 8
      · simp (disch := omega) only [if_pos q3, up_i, up_s, f2]
        exact ⟨trivial, trivial, trivial, fun _ => ⟨trivial, trivial⟩, fun z => absurd rfl z, fun z => absurd z (by decide)⟩
      · simp (disch := omega) only [if_neg q3, up_i, up_s, f2, f4]
        exact ⟨trivial, trivial, trivial, fun z => absurd z (by decide), fun _ => trivial, fun z => absurd z (by decide)⟩
    · by_cases q3 : dgtB (F 2 (skpE F)) = true
      · simp only [if_neg q1, if_neg q2, if_pos q3]
        unfold nbrS
        rw [dgE_0, f2, g2]
        simp (disch := omega) only [up_i, up_s, f2, f4]
        refine ⟨trivial, trivial, trivial, fun z => ?_, fun _ => trivial, fun _ => trivial⟩
        split at z <;> exact absurd z (by decide)
      · simp (disch := omega) only [if_neg q1, if_neg q2, if_neg q3, up_i, up_s, f2, f4]
        refine ⟨trivial, trivial, trivial, fun z => ?_, fun _ => trivial, fun z => ?_⟩ <;> split at z <;> exact absurd z (by decide)
/-- the text, and the place in it -/
def TxI (F : Hp) : Prop := (0 ≤ F 1 1 ∧ F 1 1 ≤ 900) ∧ (∀ i : Int, 0 ≤ i → i < F 1 1 → -128 ≤ F 2 i ∧ F 2 i ≤ 127) ∧ (0 ≤ F 21 0 ∧ F 21 0 ≤ F 1 1)
theorem skp_rng {F : Hp} (h : TxI F) : F 21 0 ≤ skpE F ∧ skpE F ≤ F 1 1 := runE_rng _ _ h.2.2.2
theorem tok_rng {F : Hp} (h : TxI F) : skpE F ≤ tokE F ∧ tokE F ≤ F 1 1 ∧ (tokK F ≠ 0 → skpE F < tokE F) ∧ (0 ≤ tokK F ∧ tokK F ≤ 4) ∧ (tokK F = 0 → tokE F = F 1 1) ∧ (tokK F = 1 → (1 ≤ tokE F - skpE F ∧ tokE F - skpE F ≤ 8) ∧ ∀ i : Int, skpE F ≤ i → i < tokE F → 97 ≤ F 2 i ∧ F 2 i ≤ 122) ∧ (tokK F = 2 → tokE F - skpE F ≤ 4 ∧ ∀ i : Int, skpE F ≤ i → i < tokE F → 48 ≤ F 2 i ∧ F 2 i ≤ 57) := by
  have hs := skp_rng h
  have hl := h.1
  have h2 := h.2.2
  unfold tokK tokE
  by_cases q1 : F 1 1 ≤ skpE F
  · simp only [if_pos q1]
    omega
  · by_cases q2 : ltrB (F 2 (skpE F)) = true
    · simp only [if_neg q1, if_pos q2]
      have hr := runE_rng (P := ltrB) (ch := F 2) (len := F 1 1) 900 (skpE F + 1) (by omega)
      have e : ltrE F = runE ltrB (F 2) (F 1 1) 900 (skpE F + 1) := by unfold ltrE; rw [runE_go (by omega) ⟨by omega, q2⟩]
      have hi : ∀ i : Int, skpE F ≤ i → i < ltrE F → 97 ≤ F 2 i ∧ F 2 i ≤ 122 := fun i z1 z2 => ltrB_t.mp (runE_in 901 _ i z1 z2)
      rw [← e] at hr
      refine ⟨by omega, by omega, fun _ => by omega, by split <;> omega, fun z => ?_, fun z => ?_, fun z => ?_⟩
      · split at z <;> exact absurd z (by decide)
      · split at z
        · rename_i q3; exact ⟨by omega, hi⟩
        · exact absurd z (by decide)
      · split at z <;> exact absurd z (by decide)
    · by_cases q3 : dgtB (F 2 (skpE F)) = true
      · simp only [if_neg q1, if_neg q2, if_pos q3]
        have hr := runE_rng (P := dgtB) (ch := F 2) (len := F 1 1) 900 (skpE F + 1) (by omega)
        have e : digE F = runE dgtB (F 2) (F 1 1) 900 (skpE F + 1) := by unfold digE; rw [runE_go (by omega) ⟨by omega, q3⟩]
        have hi : ∀ i : Int, skpE F ≤ i → i < digE F → 48 ≤ F 2 i ∧ F 2 i ≤ 57 := fun i z1 z2 => dgtB_t.mp (runE_in 901 _ i z1 z2)
        rw [← e] at hr
        refine ⟨by omega, by omega, fun _ => by omega, by split <;> omega, fun z => ?_, fun z => ?_, fun z => ?_⟩
        · split at z <;> exact absurd z (by decide)
        · split at z <;> exact absurd z (by decide)
        · split at z
          · rename_i q4; exact ⟨by omega, hi⟩
          · exact absurd z (by decide)
      · simp only [if_neg q1, if_neg q2, if_neg q3]
        refine ⟨by omega, by omega, fun _ => by omega, by split <;> omega, fun z => ?_, fun z => ?_, fun z => ?_⟩ <;> split at z <;> exact absurd z (by decide)
theorem tokW_rng {F : Hp} (h : TxI F) (hk : tokK F = 1) : W40 (tokW F) := by
  obtain ⟨h1, -, -, -, -, h6, -⟩ := tok_rng h
  have := h6 hk
  exact (wdC_rng (ch := F 2) (a := skpE F) (tokE F - skpE F).toNat (fun i z1 z2 => this.2 i z1 (by omega))).1
theorem tokN_rng {F : Hp} (h : TxI F) (hk : tokK F = 2) : 0 ≤ tokN F ∧ tokN F ≤ 9999 := by
  obtain ⟨h1, -, -, -, -, -, h6⟩ := tok_rng h
  have := h6 hk
  have h2 := nmC_rng (ch := F 2) (a := skpE F) (tokE F - skpE F).toNat (fun i z1 z2 => this.2 i z1 (by omega))
  have h3 : 10 ^ (tokE F - skpE F).toNat ≤ 10 ^ 4 := Nat.pow_le_pow_right (by decide) (by omega)
  unfold tokN
  omega
theorem TkI.scn {F : Hp} (h : TxI F) : TkI (scnS F) := by
  obtain ⟨-, h1, -, h3, h4, h5⟩ := scn_f F
  have hr := tok_rng h
  unfold TkI
  rw [h1]
  refine ⟨hr.2.2.2.1, ?_, fun z => ?_, fun z => ?_⟩
  · by_cases q : tokK F = 1
    · rw [(h3 q).2]
      have := kwS_rng (tokW F)
      omega
    · rw [h4 q]; omega
  · rw [(h3 z).1]; exact tokW_rng h z
  · rw [h5 z]; exact tokN_rng h z
theorem TxI.scn {F : Hp} (h : TxI F) : TxI (scnS F) := by
  obtain ⟨h1, -⟩ := scn_f F
  have hr := tok_rng h
  have hs := skp_rng h
  unfold TxI
  rw [h1, scn_r (k := 1) (by decide), scn_r (k := 2) (by decide)]
  have := h.2.2
  exact ⟨h.1, h.2.1, by omega⟩
theorem RdI.fr {v : Int} {F G : Hp} (h3 : G 3 = F 3) (hv : ∀ a : Int, v ≤ a → a < v + 17 → G a = F a) (h : RdI v F) : RdI v G := by
  unfold RdI at h ⊢
  rw [h3, hv v (by omega) (by omega), hv (v + 1) (by omega) (by omega), hv (v + 12) (by omega) (by omega)]
  exact h
theorem RdI.scn {v : Int} {F : Hp} (hv : isSu v) (h : RdI v F) : RdI v (scnS F) := h.fr (scn_r (by decide)) (fun a z1 z2 => scn_r (by omega))

