theorem Ms.chs {v : Int} {W M F : Hp} (hv : isSu v) (h : Ms v W M F) (hs : M 3 4 = 10) : Bd W (sc (mu (stH F = 0 ∨ stH F = 1 ∨ stH F = 4) 1 F)) ∨ (Ms v W (stp v M) (sc (mu (stH F = 0 ∨ stH F = 1 ∨ stH F = 4) 1 F)) ∧ mu (stH F = 0 ∨ stH F = 1 ∨ stH F = 4) 1 F = F ∧ (stH F = 0 ∨ stH F = 1 ∨ stH F = 4) ∧ stp v M = up (up (up (scnS M) 3 8 (stH F)) 3 4 11) 3 0 0) := by
  have hf := h.2.2.2.2.1.f
  have hg : F 136 19 = 0 := h.2.2.2.2.2.2.2
  obtain ⟨k1, -, -, -, -, -, -, kr⟩ := kw_r (F := F) (fun z => (hf.2.2.2.2.1 z).1)
  have ks := stH_rng F
  have hc := tak_10 (v := v) hs rfl
  unfold tkChS at hc
  rw [hf.2.2.2.1] at hc
  by_cases q : stH F = 0 ∨ stH F = 1 ∨ stH F = 4
  · have kq : kwR F = stH F := by split at k1 <;> omega
    have e1 : mu (stH F = 0 ∨ stH F = 1 ∨ stH F = 4) 1 F = F := if_neg (fun z => z.2 q)
    rw [e1]
    rw [kq, if_pos q] at hc
    exact Or.inr ⟨h.ok hv (by omega) (by rw [hc]) (Nx.rf h.2.2.2.2.2.1 h.2.2.2.2.2.2.1) hg rfl rfl, rfl, q, by unfold stp; rw [hc]⟩
  · have kq : ¬ (kwR F = 0 ∨ kwR F = 1 ∨ kwR F = 4) := fun z => q (by split at k1 <;> omega)
    rw [if_neg kq] at hc
    exact Or.inl (h.bad q (fun z => by omega) (by rw [hc]; split <;> rfl) (by decide)).sc

