/-! what every step of the reader keeps -/
def SuX (v : Int) (F : Hp) : Prop := ∀ n : Int, 0 ≤ n → n < F v 0 → F (v + 4) n ≤ F v 0 - 1 - n
def RdJ (v : Int) (F : Hp) : Prop := (9 ≤ F 3 4 ∧ F 3 4 ≤ 11 → 1 ≤ F 3 9 ∧ F 3 9 ≤ 5000) ∧ (10 ≤ F 3 4 ∧ F 3 4 ≤ 11 → 0 ≤ F 3 10 ∧ F 3 10 < F v 0)
def PrI (v : Int) (F : Hp) : Prop := RdI v F ∧ SuI v F ∧ SuX v F ∧ RdJ v F
theorem SuX.fr {u : Int} {F G : Hp} (e : ∀ a : Int, u ≤ a → a < u + 17 → G a = F a) (h : SuX u F) : SuX u G := by
  unfold SuX at h ⊢
  rw [e u (by omega) (by omega), e (u + 4) (by omega) (by omega)]
  exact h
theorem dfS_6 {u n : Int} {F : Hp} : dfS u n 6 F = up (up (up (up (up (up F (u + 5) n 1) (u + 6) n 1) (u + 7) n 10) (u + 8) n 0) (u + 9) n 1) (u + 10) n 0 := rfl
theorem adn_r {v w p a : Int} {F : Hp} (h : a < v ∨ v + 11 < a) : adnS v w p F a = F a := by
  unfold adnS ad0S
  rw [dfS_6]
  split <;> simp (disch := omega) only [up_r]
theorem adn_0 {v w p : Int} {F : Hp} : adnS v w p F v 0 = F v 0 + 1 ∧ adnS v w p F v 13 = F v 13 ∧ adnS v w p F v 14 = F v 14 := by
  unfold adnS ad0S
  rw [dfS_6]
  split <;> simp (disch := omega) only [up_k, up_i, up_s, and_self]
theorem adn_n {v w p n : Int} {F : Hp} (hN : 0 ≤ F v 0) (hp : p < F v 0) : adnS v w p F (v + 1) n = (if n = F v 0 then w else F (v + 1) n) ∧ adnS v w p F (v + 2) n = (if n = F v 0 then p else F (v + 2) n) ∧ adnS v w p F (v + 3) n = (if n = F v 0 then (if 0 ≤ p then F (v + 3) p + 1 else 0) else F (v + 3) n) ∧
    adnS v w p F (v + 4) n = (if n = F v 0 then 0 else if n = p ∧ 0 ≤ p then F (v + 4) p + 1 else F (v + 4) n) ∧ adnS v w p F (v + 11) n = (if n = F v 0 then 0 else F (v + 11) n) ∧
    (adnS v w p F (v + 5) n = (if n = F v 0 then 1 else F (v + 5) n) ∧ adnS v w p F (v + 6) n = (if n = F v 0 then 1 else F (v + 6) n) ∧ adnS v w p F (v + 7) n = (if n = F v 0 then 10 else F (v + 7) n) ∧ adnS v w p F (v + 8) n = (if n = F v 0 then 0 else F (v + 8) n) ∧ adnS v w p F (v + 9) n = (if n = F v 0 then 1 else F (v + 9) n) ∧ adnS v w p F (v + 10) n = (if n = F v 0 then 0 else F (v + 10) n)) := by
  unfold adnS ad0S
  rw [dfS_6]
  by_cases hp0 : 0 ≤ p
  · simp only [if_pos hp0]
    by_cases q : n = F v 0
    · subst q
      rw [if_pos rfl, if_pos rfl, if_pos rfl, if_pos rfl, if_pos rfl, if_pos rfl, if_pos rfl, if_pos rfl, if_pos rfl, if_pos rfl, if_pos rfl]
      simp (disch := omega) only [up_k, up_i, up_s, and_self]
    · simp only [if_neg q]
      by_cases z : n = p
      · subst z
        rw [if_pos ⟨rfl, hp0⟩]
        simp (disch := omega) only [up_k, up_i, up_s, and_self]
      · rw [if_neg (fun w => z w.1)]
        simp (disch := omega) only [up_k, up_i, and_self]
  · simp only [if_neg hp0]
    by_cases q : n = F v 0
    · subst q
      simp (disch := omega) only [if_true, up_k, up_i, up_s, and_self]
    · simp only [if_neg q]
      rw [if_neg (fun w => hp0 w.2)]
      simp (disch := omega) only [up_k, up_i, and_self]
