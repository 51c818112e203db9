theorem SuI.st7 {v m x r : Int} {F : Hp} (h : SuI v F) (hr : 5 ≤ r ∧ r ≤ 10) (h7 : ∀ n : Int, 0 ≤ n → n < F v 0 → (0 ≤ up F (v + r) m x (v + 5) n ∧ up F (v + r) m x (v + 5) n ≤ 99) ∧ (0 ≤ up F (v + r) m x (v + 6) n ∧ up F (v + r) m x (v + 6) n ≤ 999) ∧ (1 ≤ up F (v + r) m x (v + 7) n ∧ up F (v + r) m x (v + 7) n ≤ 999) ∧ (0 ≤ up F (v + r) m x (v + 8) n ∧ up F (v + r) m x (v + 8) n ≤ 999) ∧ (1 ≤ up F (v + r) m x (v + 9) n ∧ up F (v + r) m x (v + 9) n ≤ 9) ∧ (0 ≤ up F (v + r) m x (v + 10) n ∧ up F (v + r) m x (v + 10) n ≤ 7)) : SuI v (up F (v + r) m x) ∧ ∀ a : Int, a ≠ v + r → up F (v + r) m x a = F a := by
  refine ⟨?_, fun a ha => up_r ha⟩
  obtain ⟨s1, s2, s3, s4, s5, s6, s7, s8, s9, s10, s11, s12⟩ := h
  unfold SuI
  rw [up_r (a := v) (by omega), up_r (a := v + 2) (by omega), up_r (a := v + 3) (by omega), up_r (a := v + 4) (by omega), up_r (a := v + 11) (by omega), up_r (a := v + 12) (by omega), up_r (a := v + 13) (by omega), up_r (a := v + 14) (by omega), up_r (a := v + 15) (by omega), up_r (a := v + 16) (by omega)]
  exact ⟨s1, s2, s3, s4, s5, s6, h7, s8, s9, s10, s11, s12⟩
theorem SuI.val {v m x s : Int} {F : Hp} (h : SuI v F) (hs : 0 ≤ s ∧ s < 6) (hx : tabL s.toNat ≤ x ∧ x ≤ tabG s.toNat) : SuI v (up F (v + rwN s) m x) := by
  have s7 := h.2.2.2.2.2.2.1
  refine (h.st7 (rwN_rng s) (fun n h0 h1 => ?_)).1
  have k := s7 n h0 h1
  have hc : s = 0 ∨ s = 1 ∨ s = 2 ∨ s = 3 ∨ s = 4 ∨ s = 5 := by omega
  rcases hc with rfl | rfl | rfl | rfl | rfl | rfl
  · replace hx : 0 ≤ x ∧ x ≤ 99 := hx
    rw [show rwN 0 = 5 from rfl]
    by_cases q : n = m
    · subst q; simp (disch := omega) only [up_k, up_s]; omega
    · simp (disch := omega) only [up_k, up_i]; exact k
  · replace hx : 0 ≤ x ∧ x ≤ 999 := hx
    rw [show rwN 1 = 6 from rfl]
    by_cases q : n = m
    · subst q; simp (disch := omega) only [up_k, up_s]; omega
    · simp (disch := omega) only [up_k, up_i]; exact k
  · replace hx : 1 ≤ x ∧ x ≤ 999 := hx
    rw [show rwN 2 = 7 from rfl]
    by_cases q : n = m
    · subst q; simp (disch := omega) only [up_k, up_s]; omega
    · simp (disch := omega) only [up_k, up_i]; exact k
  · replace hx : 0 ≤ x ∧ x ≤ 999 := hx
    rw [show rwN 3 = 8 from rfl]
    by_cases q : n = m
    · subst q; simp (disch := omega) only [up_k, up_s]; omega
    · simp (disch := omega) only [up_k, up_i]; exact k
  · replace hx : 1 ≤ x ∧ x ≤ 9 := hx
    rw [show rwN 4 = 9 from rfl]
    by_cases q : n = m
    · subst q; simp (disch := omega) only [up_k, up_s]; omega
    · simp (disch := omega) only [up_k, up_i]; exact k
  · replace hx : 0 ≤ x ∧ x ≤ 7 := hx
    rw [show rwN 5 = 10 from rfl]
    by_cases q : n = m
    · subst q; simp (disch := omega) only [up_k, up_s]; omega
    · simp (disch := omega) only [up_k, up_i]; exact k
