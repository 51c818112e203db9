/-- a statement -/
theorem sim_stm {v : Int} {W M F : Hp} (hv : isSu v) (h : Ms v W M F) (h34 : M 3 4 = 0) (hd : Dr v M F) (h17 : ¬ F 136 17 = 0) : Bd W (stmS F) ∨ ∃ M' : Hp, Ms v W M' (stmS F) ∧ M' 3 4 = 0 ∧ Dr v M' (stmS F) := by
  have hf := h.2.2.2.2.1.f
  obtain ⟨-, -, k7, -, k9, k10, k11, -⟩ := kw_r (F := F) (fun z => (hf.2.2.2.2.1 z).1)
  by_cases q7 : kwR F = 7
  · exact sim_nod hv h h34 hd (k7.mpr q7)
  · by_cases q9 : kwR F = 9
    · exact sim_lim hv h h34 hd (k9.mpr q9)
    · by_cases q10 : kwR F = 10
      · exact sim_age hv h h34 hd (k10.mpr q10)
      · by_cases q11 : kwR F = 11
        · exact sim_tim hv h h34 hd (k11.mpr q11)
        · exact Or.inl (sim_oth h h34 h17 ⟨q7, q9, q10, q11⟩)
theorem Bd.rl {W F : Hp} (h : Bd W F) {k : Nat} : Bd W (rlS k F) := by
  rw [rlS_stop (fun z => h.1 z.1)]
  exact h
/-- the statements, to the text's end -/
theorem sim_rl {v : Int} {W : Hp} (hv : isSu v) : ∀ (k : Nat) (M F : Hp), Ms v W M F → M 3 4 = 0 → Dr v M F → F 136 14 - F 136 15 < k → Bd W (rlS k F) ∨ ∃ M' : Hp, Ms v W M' (rlS k F) ∧ W = scnS M' ∧ Dr v M' (rlS k F)
  | 0, M, F, h, _, _, hk => by
    have a := h.2.2.2.2.2.1.1.2.2
    have b := h.2.2.2.2.2.2.1
    unfold AtQ at b
    omega
  | k + 1, M, F, h, h4, hd, hk => by
    have hg : F 136 19 = 0 := h.2.2.2.2.2.2.2
    by_cases q : F 136 17 = 0
    · rw [rlS_stop (fun z => z.2 q)]
      exact Or.inr ⟨M, h, h.1.fin h.2.2.1 ⟨by rw [← h.2.2.2.2.1.2.2.1]; exact q, h4⟩, hd⟩
    · rw [rlS_go (by omega) ⟨hg, q⟩, Nat.add_sub_cancel]
      rcases sim_stm hv h h4 hd q with z | ⟨M', m, s, dn⟩
      · exact Or.inl z.rl
      · have p := stm_at h.2.2.2.2.2.1 h.2.2.2.2.2.2.1 m.2.2.2.2.2.2.2
        have e := (Ny.stm h.2.2.2.2.2.1 h.2.2.2.2.2.2.1).2.2.1
        exact sim_rl hv k M' _ m s dn (by omega)
/-- the whole text -/
theorem sim_ld {v : Int} {C F : Hp} (hv : isSu v) (hd : C 3 2 = v) (ht : TxR C F) (hz : PZ F) : Bd (rdS v 901 (bgS v C)) (ldS1 F) ∨ ∃ M' : Hp, Ms v (rdS v 901 (bgS v C)) M' (ldS1 F) ∧ rdS v 901 (bgS v C) = scnS M' ∧ Dr v M' (ldS1 F) := by
  have hv2 : v = 4 ∨ v = 23 := hv
  have hp := pq_ld0 hz
  have e14 : ld0 F 136 14 = F 136 14 := by unfold ld0; simp (disch := omega) only [up_i]
  have e6 : ld0 F 146 = F 146 := by unfold ld0; simp (disch := omega) only [up_r]
  have g0 : ld0 F 136 19 = 0 := by unfold ld0; simp (disch := omega) only [up_i, up_s]
  have b1 : bgS v C 1 = C 1 := by unfold bgS; simp (disch := omega) only [up_r]
  have b2 : bgS v C 2 = C 2 := by unfold bgS; simp (disch := omega) only [up_r]
  have b21 : bgS v C 21 0 = 0 := by unfold bgS; simp (disch := omega) only [up_k, up_i, up_s]
  have tx : TxR (bgS v C) (ld0 F) := by
    unfold TxR at ht ⊢
    rw [e14, e6, b1, b2]
    exact ht
  have tx2 : TxR (bgS v C) (sc (ld0 F)) := by
    have e146 : sc (ld0 F) 146 = ld0 F 146 := by funext i; rw [sc_r (by omega)]
    unfold TxR at tx ⊢
    rw [sc_r (a := 136) (i := 14) (by omega), e146]
    exact tx
  have txi : TxI (bgS v C) := by
    unfold TxI
    rw [b1, b2, b21, ht.1]
    refine ⟨ht.2.1, fun i z0 z1 => ?_, by have := ht.2.1; omega⟩
    have t := ht.2.2 i z0 z1
    rw [t.1]
    unfold sb
    split <;> omega
  have tk : Tok (bgS v C) (sc (ld0 F)) := tok_next tx (by rw [b21]; unfold ld0; simp (disch := omega) only [up_i, up_s]) hp g0
  have m0 : Ms v (rdS v 901 (bgS v C)) (bgS v C) (sc (ld0 F)) := by
    refine ⟨⟨901, rfl, ?_, ?_, ?_⟩, PrI.bg hv hd, txi, tx2, tk, hp.sc, at_ld0 hz, by rw [sc_r (by omega)]; exact g0⟩
    · rw [b1, b21, ht.1]
      have := ht.2.1
      omega
    · unfold bgS; simp (disch := omega) only [up_k, up_i, up_s]
    · unfold bgS; simp (disch := omega) only [up_k, up_i, up_s]
  have dr : Dr v (bgS v C) (sc (ld0 F)) := by
    have s : ∀ i : Int, 22 ≤ i → sc (ld0 F) 136 i = ld0 F 136 i := fun i z => sc_r (by omega)
    unfold Dr
    rw [s 22 (by decide), s 23 (by decide), s 24 (by decide), s 25 (by decide), s 26 (by decide), s 39 (by decide)]
    unfold bgS ld0
    simp (disch := omega) only [up_k, up_i, up_s]
    exact ⟨trivial, fun n z0 z1 => by omega, trivial, trivial, rfl, Or.inl trivial, trivial, fun k z0 z1 => by omega⟩
  have h34 : bgS v C 3 4 = 0 := by unfold bgS; simp (disch := omega) only [up_k, up_i, up_s]
  exact sim_rl hv 901 _ _ m0 h34 dr (by
    have a := m0.2.2.2.2.2.2.1
    have b := m0.2.2.2.2.2.1.1.1
    unfold AtQ at a
    omega)

