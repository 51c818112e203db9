/-- a node's name -/
theorem Ms.ndn {v : Int} {W M F : Hp} (hv : isSu v) (h : Ms v W M F) (hs : M 3 4 = 1) (h0 : M v 0 = F 136 22) (hn : ∀ n : Int, 0 ≤ n → n < F 136 22 → WdR (F 140 n) ∧ M (v + 1) n = cvN (F 140 n)) : Bd W (mu (hrS (mu (nmB F) 1 F) = -2) 3 (mu (nmB F) 1 F)) ∨ (Ms v W (stp v M) (sc F) ∧ mu (hrS (mu (nmB F) 1 F) = -2) 3 (mu (nmB F) 1 F) = F ∧ nmB F ∧ hrS F = -2 ∧ WdR (F 136 21) ∧ stp v M = up (if F 136 22 = 0 then rdAd v (-2) (up (scnS M) 3 6 (cvN (F 136 21))) else up (up (scnS M) 3 6 (cvN (F 136 21))) 3 4 2) 3 0 0) := by
  have hf := h.2.2.2.2.1.f
  have hg : F 136 19 = 0 := h.2.2.2.2.2.2.2
  have hv2 : v = 4 ∨ v = 23 := hv
  obtain ⟨-, k2, -⟩ := kw_r (F := F) (fun z => (hf.2.2.2.2.1 z).1)
  have hc := tak_1 (v := v) hs rfl
  unfold tkNam at hc
  rw [hf.2.1, hf.2.2.2.1] at hc
  by_cases q : nmB F
  · have e1 : mu (nmB F) 1 F = F := if_neg (fun z => z.2 q)
    have q2 := k2.mp q
    have hw := hf.2.2.2.2.1 q2.1
    have ef : fndS v (scnS M 21 3) (scnS M) = hrS F := by
      rw [hw.2]
      exact fnd_hr (by rw [scn_r (by omega)]; exact h0) (fun n z0 z1 => by rw [scn_r (k := v + 1) (by omega)]; exact hn n z0 z1) hw.1
    rw [if_neg (fun z => z q2), ef] at hc
    rw [e1]
    by_cases p : hrS F = -2
    · rw [if_neg (fun z => z p), scn_r (k := v) (by omega), h0, hw.2] at hc
      have e2 : mu (hrS F = -2) 3 F = F := if_neg (fun z => z.2 p)
      rw [e2]
      refine Or.inr ⟨h.ok hv (by omega) (by rw [hc]; split <;> rfl) (Nx.rf h.2.2.2.2.2.1 h.2.2.2.2.2.2.1) hg rfl rfl, rfl, q, p, hw.1, ?_⟩
      unfold stp
      rw [hc]
      split <;> rfl
    · rw [if_pos p] at hc
      exact Or.inl (h.bad p (fun z => by omega) (by rw [hc, if_neg (by omega)]) (by decide))
  · rw [if_pos (fun z => q (k2.mpr z))] at hc
    exact Or.inl (h.bad q (fun z => by omega) (by rw [hc]; split <;> rfl) (by decide)).mu

