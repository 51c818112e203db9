/-- the first word of a timed statement -/
theorem Ms.at0 {v : Int} {W M F : Hp} (hv : isSu v) (h : Ms v W M F) (hs : M 3 4 = 0) (hd : M (v + 12) 0 = F 136 39) (hw : wdB 52 F) : bdS F = tmS F ∧ (Bd W (tmA F) ∨ (Ms v W (stp v M) (tmA F) ∧ mu (F 136 39 < 12) 5 F = F ∧ F 136 39 < 12 ∧ stp v M = up (up (scnS M) 3 4 8) 3 0 0)) := by
  have hf := h.2.2.2.2.1.f
  have hg : F 136 19 = 0 := h.2.2.2.2.2.2.2
  have hv2 : v = 4 ∨ v = 23 := hv
  obtain ⟨-, -, k7, -, k9, k10, k11, -⟩ := kw_r (F := F) (fun z => (hf.2.2.2.2.1 z).1)
  have kw : kwR F = 11 := k11.mp hw
  have hp := h.2.2.2.2.2.1.2.2.2.2.2.2.1
  have hc : takS v (scnS M) = (if M (v + 12) 0 = 12 then 5 else 0, up (scnS M) 3 4 8) := by
    unfold takS
    rw [scn_r (k := 3) (by decide), hs, if_pos rfl]
    unfold tkStm
    rw [hf.2.2.2.1, kw, if_neg (by decide), if_neg (by decide), if_neg (by decide), if_pos rfl, scn_r (k := v + 12) (by omega)]
  have e0 : mu (wdB 52 F) 1 F = F := if_neg (fun z => z.2 hw)
  refine ⟨?_, ?_⟩
  · unfold bdS
    rw [if_neg (fun z => by have := k7.mp z; omega), if_neg (fun z => by have := k9.mp z; omega), if_neg (fun z => by have := k10.mp z; omega), e0]
  · unfold tmA
    by_cases q : F 136 39 < 12
    · have e1 : mu (F 136 39 < 12) 5 F = F := if_neg (fun z => z.2 q)
      rw [e1]
      exact Or.inr ⟨h.ok hv (by have := hw.1; omega) (by rw [hc]; exact if_neg (by omega)) (Nx.rf h.2.2.2.2.2.1 h.2.2.2.2.2.2.1) hg rfl rfl, rfl, q, by unfold stp; rw [hc]⟩
    · exact Or.inl (h.bad q (fun z => by have := hw.1; omega) (by rw [hc]; show (if M (v + 12) 0 = 12 then (5 : Int) else 0) = _; rw [if_pos (by omega), if_neg (by have := hw.1; omega)]) (by decide)).sc

