theorem Bd.rn {W F : Hp} (h : Bd W F) {lo hi : Int} : Bd W (rnS lo hi F) := (h.mu.mu).sc
/-- a number is read -/
theorem Ms.num {v : Int} {W M F : Hp} (hv : isSu v) (h : Ms v W M F) {lo hi : Int} (hs : ¬ M 3 4 = 0) (hc : (takS v (scnS M)).1 = nmf lo hi (scnS M)) : Bd W (rnS lo hi F) ∨ (Ms v W (stp v M) (rnS lo hi F) ∧ F 136 17 = 2 ∧ (lo ≤ F 136 18 ∧ F 136 18 ≤ hi)) := by
  have hf := h.2.2.2.2.1.f
  have hg : F 136 19 = 0 := h.2.2.2.2.2.2.2
  unfold nmf at hc
  rw [hf.2.1] at hc
  unfold rnS
  by_cases q : F 136 17 = 2
  · have e1 : mu (F 136 17 = 2) 1 F = F := if_neg (fun z => z.2 q)
    rw [e1]
    rw [if_neg (fun z => z q), hf.2.2.2.2.2 q] at hc
    by_cases p : lo ≤ F 136 18 ∧ F 136 18 ≤ hi
    · have e2 : mu (lo ≤ F 136 18 ∧ F 136 18 ≤ hi) 2 F = F := if_neg (fun z => z.2 p)
      rw [e2]
      rw [if_pos p] at hc
      exact Or.inr ⟨h.ok hv (by omega) hc (Nx.rf h.2.2.2.2.2.1 h.2.2.2.2.2.2.1) hg rfl rfl, q, p⟩
    · rw [if_neg p] at hc
      exact Or.inl (h.bad p (fun z => hs z.2) (by rw [hc, if_neg (by omega)]) (by decide)).sc
  · rw [if_pos q] at hc
    exact Or.inl ((h.bad q (fun z => hs z.2) (by rw [hc]; split <;> rfl) (by decide)).mu).sc
/-- a statement's end -/
theorem Ms.semi {v : Int} {W M F : Hp} (hv : isSu v) (h : Ms v W M F) (hs : M 3 4 = 12) : Bd W (sc (mu (F 136 17 = 3) 1 F)) ∨ (Ms v W (stp v M) (sc (mu (F 136 17 = 3) 1 F)) ∧ stp v M = up (up (scnS M) 3 4 0) 3 0 0 ∧ mu (F 136 17 = 3) 1 F = F) := by
  have hf := h.2.2.2.2.1.f
  have hg : F 136 19 = 0 := h.2.2.2.2.2.2.2
  have h34 : scnS M 3 4 = 12 := by rw [scn_r (by decide)]; exact hs
  have hc : takS v (scnS M) = (if F 136 17 = 3 then 0 else 1, up (scnS M) 3 4 0) := by
    unfold takS
    rw [h34]
    show tkEnd (scnS M) = _
    unfold tkEnd
    rw [hf.2.1]
  by_cases q : F 136 17 = 3
  · have e1 : mu (F 136 17 = 3) 1 F = F := if_neg (fun z => z.2 q)
    rw [e1]
    exact Or.inr ⟨h.ok hv (by omega) (by rw [hc]; exact if_pos q) (Nx.rf h.2.2.2.2.2.1 h.2.2.2.2.2.2.1) hg rfl rfl, by unfold stp; rw [hc], rfl⟩
  · exact Or.inl (h.bad q (fun z => by rw [hs] at z; exact absurd z.2 (by decide)) (by rw [hc]; show (if F 136 17 = 3 then (0 : Int) else 1) = _; rw [if_neg q]; split <;> rfl) (by decide)).sc

