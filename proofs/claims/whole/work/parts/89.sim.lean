theorem Ms.of {v : Int} {W M F G : Hp} (h : Ms v W M F) (hn : Nx F G) (hi : ∀ i : Int, i = 14 ∨ i = 15 ∨ i = 16 ∨ i = 17 ∨ i = 18 ∨ i = 19 ∨ i = 21 → G 136 i = F 136 i) (h6 : G 146 = F 146) : Ms v W M G := by
  obtain ⟨h1, h2, h3, h4, h5, h6', h7, h8⟩ := h
  refine ⟨h1, h2, h3, ?_, ?_, hn.1, hn.2.1, by rw [hi 19 (by omega)]; exact h8⟩
  · unfold TxR at h4 ⊢
    rw [hi 14 (by omega), h6]
    exact h4
  · unfold Tok at h5 ⊢
    rw [hi 15 (by omega), hi 16 (by omega), hi 17 (by omega), hi 18 (by omega), hi 21 (by omega)]
    exact h5
theorem Ms.u {v : Int} {W M F : Hp} (h : Ms v W M F) {a i x : Int} (ha : (a ≠ 136 ∧ a ≠ 146 ∧ a ≠ 140 ∧ a ≠ 149) ∨ (a = 136 ∧ (i = 23 ∨ i = 24))) : Ms v W M (up F a i x) := h.of ((Nx.rf h.2.2.2.2.2.1 h.2.2.2.2.2.2.1).u ha) (fun j z => up_n (by omega)) (up_r (by omega))
/-- the drafts agree, between statements -/
def Dr (v : Int) (M F : Hp) : Prop := M v 0 = F 136 22 ∧
  (∀ n : Int, 0 ≤ n → n < F 136 22 → (WdR (F 140 n) ∧ M (v + 1) n = cvN (F 140 n)) ∧ M (v + 2) n = F 147 n ∧ M (v + 5) n = F 148 (7 * n) ∧ M (v + 6) n = F 148 (7 * n + 1) ∧ M (v + 7) n = F 148 (7 * n + 2) ∧ M (v + 8) n = F 148 (7 * n + 3) ∧ M (v + 9) n = F 148 (7 * n + 4) ∧ M (v + 10) n = F 148 (7 * n + 5) ∧ M (v + 11) n = F 148 (7 * n + 6)) ∧
  M v 13 = F 136 23 ∧ M 3 5 = F 136 25 ∧ M v 14 = (if F 136 26 = 0 then -1 else F 136 24) ∧ (F 136 26 = 0 ∨ 0 ≤ F 136 24) ∧
  M (v + 12) 0 = F 136 39 ∧ (∀ k : Int, 0 ≤ k → k < F 136 39 → M (v + 13) k = F 154 k ∧ M (v + 14) k = F 155 k ∧ M (v + 15) k = F 156 k ∧ M (v + 16) k = F 157 k)
/-- the part of the draft that a statement on limit or age leaves alone -/
theorem Dr.of {v : Int} {M M' F F' : Hp} (h : Dr v M F) (hM : ∀ a i : Int, (v ≤ a ∧ a < v + 17) → ¬ (a = v ∧ (i = 13 ∨ i = 14)) → M' a i = M a i) (hF : ∀ i : Int, i = 22 ∨ i = 39 → F' 136 i = F 136 i) (hF2 : ∀ a : Int, a = 140 ∨ a = 147 ∨ a = 148 ∨ (154 ≤ a ∧ a ≤ 157) → F' a = F a) (h1 : M' v 13 = F' 136 23) (h2 : M' 3 5 = F' 136 25) (h3 : M' v 14 = (if F' 136 26 = 0 then -1 else F' 136 24)) (h4 : F' 136 26 = 0 ∨ 0 ≤ F' 136 24) : Dr v M' F' := by
  obtain ⟨d1, d2, -, -, -, -, d7, d8⟩ := h
  unfold Dr
  rw [hF 22 (by omega), hF 39 (by omega), hF2 140 (by omega), hF2 147 (by omega), hF2 148 (by omega), hF2 154 (by omega), hF2 155 (by omega), hF2 156 (by omega), hF2 157 (by omega)]
  refine ⟨by rw [hM v 0 (by omega) (by omega)]; exact d1, fun n z0 z1 => ?_, h1, h2, h3, h4, by rw [hM (v + 12) 0 (by omega) (by omega)]; exact d7, fun k z0 z1 => ?_⟩
  · rw [hM (v + 1) n (by omega) (by omega), hM (v + 2) n (by omega) (by omega), hM (v + 5) n (by omega) (by omega), hM (v + 6) n (by omega) (by omega), hM (v + 7) n (by omega) (by omega), hM (v + 8) n (by omega) (by omega), hM (v + 9) n (by omega) (by omega), hM (v + 10) n (by omega) (by omega), hM (v + 11) n (by omega) (by omega)]
    exact d2 n z0 z1
  · rw [hM (v + 13) k (by omega) (by omega), hM (v + 14) k (by omega) (by omega), hM (v + 15) k (by omega) (by omega), hM (v + 16) k (by omega) (by omega)]
    exact d8 k z0 z1

