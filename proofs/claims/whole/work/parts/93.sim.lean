theorem fnF_iff {nm nm' : Int → Int} {w w' N : Int} : ∀ (k : Nat) (i : Int), (∀ n : Int, i ≤ n → n < N → (nm n = w ↔ nm' n = w')) → fnF nm w N k i = fnF nm' w' N k i
  | 0, i, _ => rfl
  | k + 1, i, h => by
    unfold fnF
    by_cases q : N ≤ i
    · rw [if_pos q, if_pos q]
    · rw [if_neg q, if_neg q, fnF_iff k (i + 1) (fun n z1 z2 => h n (by omega) z2)]
      by_cases p : nm i = w
      · rw [if_pos p, if_pos ((h i (Int.le_refl _) (by omega)).mp p)]
      · rw [if_neg p, if_neg (fun z => p ((h i (Int.le_refl _) (by omega)).mpr z))]
/-- the same names: the same node is found -/
theorem fnd_hr {v : Int} {M F : Hp} (h0 : M v 0 = F 136 22) (hn : ∀ n : Int, 0 ≤ n → n < F 136 22 → WdR (F 140 n) ∧ M (v + 1) n = cvN (F 140 n)) (hw : WdR (F 136 21)) : fndS v (cvN (F 136 21)) M = hrS F := by
  unfold fndS hrS
  rw [h0]
  exact fnF_iff 12 0 (fun n z0 z1 => by
    have a := hn n z0 z1
    rw [a.2]
    exact ⟨fun z => cv_inj a.1 hw z, fun z => by rw [z]⟩)

