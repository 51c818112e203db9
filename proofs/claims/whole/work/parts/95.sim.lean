theorem Ms.chn {v : Int} {W M F : Hp} (hv : isSu v) (h : Ms v W M F) (hs : M 3 4 = 9) (h0 : M v 0 = F 136 22) (hn : ∀ n : Int, 0 ≤ n → n < F 136 22 → WdR (F 140 n) ∧ M (v + 1) n = cvN (F 140 n)) : Bd W (sc (mu (¬ hrS (mu (nmB F) 1 F) = -2) 3 (mu (nmB F) 1 F))) ∨ (Ms v W (stp v M) (sc (mu (¬ hrS (mu (nmB F) 1 F) = -2) 3 (mu (nmB F) 1 F))) ∧ mu (nmB F) 1 F = F ∧ mu (¬ hrS F = -2) 3 F = F ∧ ¬ hrS F = -2 ∧ stp v M = up (up (up (scnS M) 3 10 (hrS F)) 3 4 10) 3 0 0) := by
  have hf := h.2.2.2.2.1.f
  have hg : F 136 19 = 0 := h.2.2.2.2.2.2.2
  have hv2 : v = 4 ∨ v = 23 := hv
  obtain ⟨-, k2, -⟩ := kw_r (F := F) (fun z => (hf.2.2.2.2.1 z).1)
  have hc := tak_9 (v := v) hs rfl
  unfold tkChN at hc
  rw [hf.2.1, hf.2.2.2.1] at hc
  by_cases q : nmB F
  · have e1 : mu (nmB F) 1 F = F := if_neg (fun z => z.2 q)
    have q2 := k2.mp q
    have hw := hf.2.2.2.2.1 q2.1
    have ef : fndS v (scnS M 21 3) (scnS M) = hrS F := by
      rw [hw.2]
      exact fnd_hr (by rw [scn_r (by omega)]; exact h0) (fun n z0 z1 => by rw [scn_r (k := v + 1) (by omega)]; exact hn n z0 z1) hw.1
    rw [if_neg (fun z => z q2), ef] at hc
    rw [e1]
    by_cases p : hrS F = -2
    · rw [if_pos p] at hc
      exact Or.inl (h.bad (fun z => z p) (fun z => by omega) (by rw [hc, if_neg (by omega)]) (by decide)).sc
    · rw [if_neg p] at hc
      have e2 : mu (¬ hrS F = -2) 3 F = F := if_neg (fun z => z.2 p)
      rw [e2]
      exact Or.inr ⟨h.ok hv (by omega) (by rw [hc]) (Nx.rf h.2.2.2.2.2.1 h.2.2.2.2.2.2.1) hg rfl rfl, rfl, rfl, p, by unfold stp; rw [hc]⟩
  · rw [if_pos (fun z => q (k2.mpr z))] at hc
    exact Or.inl ((h.bad q (fun z => by omega) (by rw [hc]; split <;> rfl) (by decide)).mu).sc

