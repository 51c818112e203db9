/-- the first word of a node statement, and its name -/
theorem Ms.nd0 {v : Int} {W M F : Hp} (hv : isSu v) (h : Ms v W M F) (hs : M 3 4 = 0) (h0 : M v 0 = F 136 22) (hw : wdB 474245 F) : bdS F = ndS F ∧ (Bd W (ndA F) ∨ (Ms v W (stp v M) (ndA F) ∧ mu (F 136 22 < 12) 5 F = F ∧ F 136 22 < 12 ∧ stp v M = up (up (scnS M) 3 4 1) 3 0 0)) := by
  have hf := h.2.2.2.2.1.f
  have hg : F 136 19 = 0 := h.2.2.2.2.2.2.2
  have hv2 : v = 4 ∨ v = 23 := hv
  obtain ⟨-, -, k7, -⟩ := kw_r (F := F) (fun z => (hf.2.2.2.2.1 z).1)
  have kw : kwR F = 7 := k7.mp hw
  have hp := h.2.2.2.2.2.1.2.2.2.2.2.1
  have hc : takS v (scnS M) = (if M v 0 = 12 then 5 else 0, up (scnS M) 3 4 1) := by
    unfold takS
    rw [scn_r (k := 3) (by decide), hs, if_pos rfl]
    unfold tkStm
    rw [hf.2.2.2.1, kw, if_pos rfl, scn_r (k := v) (by omega)]
  refine ⟨if_pos hw, ?_⟩
  unfold ndA
  by_cases q : F 136 22 < 12
  · have e1 : mu (F 136 22 < 12) 5 F = F := if_neg (fun z => z.2 q)
    rw [e1]
    exact Or.inr ⟨h.ok hv (by have := hw.1; omega) (by rw [hc]; exact if_neg (by omega)) (Nx.rf h.2.2.2.2.2.1 h.2.2.2.2.2.2.1) hg rfl rfl, rfl, q, by unfold stp; rw [hc]⟩
  · exact Or.inl (h.bad q (fun z => by have := hw.1; omega) (by rw [hc]; show (if M v 0 = 12 then (5 : Int) else 0) = _; rw [if_pos (by omega), if_neg (by have := hw.1; omega)]) (by decide)).sc

