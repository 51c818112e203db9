/-- a node statement up to its settings -/
theorem nod_mid {v w : Int} {W M M2 F A : Hp} (hv : isSu v) (hd : Dr v M F) (h : Ms v W M2 (sc A)) (hA : ∀ a i : Int, (a ≠ 136 ∨ 22 ≤ i) → A a i = F a i) (hM : ∃ Q : Hp, (∀ a i : Int, (v ≤ a ∧ a < v + 17) ∨ (a = 3 ∧ i = 5) → Q a i = M a i) ∧ Q 3 6 = cvN w ∧ M2 = up (if F 136 22 = 0 then rdAd v (-2) Q else up Q 3 4 2) 3 0 0) : Bd W (rpS (F 136 22) (sc A)) ∨ ∃ (M' Q : Hp) (p : Int), Ms v W M' (rpS (F 136 22) (sc A)) ∧ (∀ a i : Int, (v ≤ a ∧ a < v + 17) ∨ (a = 3 ∧ i = 5) → Q a i = M a i) ∧ p < F 136 22 ∧ M' = up (up (up (adnS v (cvN w) p Q) 3 7 0) 3 4 4) 3 0 0 ∧ (∀ a i : Int, a ≠ 147 → (a ≠ 136 ∨ 22 ≤ i) → rpS (F 136 22) (sc A) a i = F a i) ∧ (∀ i : Int, rpS (F 136 22) (sc A) 147 i = if i = F 136 22 then p else F 147 i) := by
  have hv2 : v = 4 ∨ v = 23 := hv
  have hS : ∀ (N : Hp) (a i : Int), a ≠ 21 → scnS N a i = N a i := fun N a i z => by rw [scn_r z]
  obtain ⟨Q, hQ, hQ6, e2⟩ := hM
  have sA : ∀ a i : Int, (a ≠ 136 ∨ 22 ≤ i) → sc A a i = F a i := fun a i z => by rw [sc_r (by omega), hA a i z]
  have h22 : 0 ≤ F 136 22 := by
    have := h.2.2.2.2.2.1.2.2.2.2.2.1
    rw [sA 136 22 (by omega)] at this
    exact this.1
  by_cases q : F 136 22 = 0
  · have eR : rpS (F 136 22) (sc A) = up (sc A) 147 (F 136 22) (-2) := if_pos q
    rw [if_pos q] at e2
    rw [eR]
    refine Or.inr ⟨M2, Q, -2, h.u (by omega), hQ, by omega, by rw [e2]; unfold rdAd; rw [hQ6], fun a i z1 z2 => by rw [up_k z1, sA a i z2], fun i => ?_⟩
    by_cases y : i = F 136 22
    · rw [if_pos y, y, up_s]
    · rw [if_neg y, up_i y, sA 147 i (by omega)]
  · rw [if_neg q] at e2
    have m2 := h.u (a := 147) (i := F 136 22) (x := -2) (by omega)
    have s2 : M2 3 4 = 2 := by rw [e2, up_i (by decide), up_s]
    generalize hY : up (sc A) 147 (F 136 22) (-2) = Y at m2
    have fY : ∀ a i : Int, (a ≠ 147 ∨ i ≠ F 136 22) → (a ≠ 136 ∨ 22 ≤ i) → Y a i = F a i := fun a i z1 z2 => by rw [← hY, up_n (by omega), sA a i z2]
    have eA : rpA (F 136 22) (sc A) = sc (mu (wdB 302 Y) 1 Y) := by
      unfold rpA
      rw [hY]
    have eR : rpS (F 136 22) (sc A) = sc (up (mu (¬ hrS (mu (nmB (rpA (F 136 22) (sc A))) 1 (rpA (F 136 22) (sc A))) = -2) 3 (mu (nmB (rpA (F 136 22) (sc A))) 1 (rpA (F 136 22) (sc A)))) 147 (F 136 22) (hrS (mu (nmB (rpA (F 136 22) (sc A))) 1 (rpA (F 136 22) (sc A))))) := if_neg q
    rcases m2.inn hv s2 with z | ⟨m3, x3, e3⟩
    · refine Or.inl ?_
      rw [eR, eA]
      exact (z.mu.mu.u (by omega)).sc
    · rw [x3] at eA
      rw [eA] at eR
      have s3 : stp v M2 3 4 = 3 := by rw [e3, up_i (by decide), up_s]
      have w3 : ∀ a i : Int, a ≠ 3 → a ≠ 21 → stp v M2 a i = Q a i := fun a i z1 z2 => by rw [e3, up_k z1, up_k z1, hS M2 a i z2, e2, up_k z1, up_k z1]
      have fZ : ∀ a i : Int, (a ≠ 147 ∨ i ≠ F 136 22) → (a ≠ 136 ∨ 22 ≤ i) → sc Y a i = F a i := fun a i z1 z2 => by rw [sc_r (by omega), fY a i z1 z2]
      obtain ⟨d1, d2, -⟩ := id hd
      rw [eR]
      rcases m3.par hv s3 (F 136 22) (by rw [w3 v 0 (by omega) (by omega), hQ v 0 (by omega), fZ 136 22 (by omega) (by omega)]; exact d1) (fun n z0 z1 => by
          rw [fZ 136 22 (by omega) (by omega)] at z1
          rw [w3 (v + 1) n (by omega) (by omega), hQ (v + 1) n (by omega), fZ 140 n (by omega) (by omega)]
          exact (d2 n z0 z1).1) with z | ⟨m4, y1, y2, y3, e4⟩
      · exact Or.inl z
      · rw [y1, y2]
        have hp : hrS (sc Y) < F 136 22 := by
          rcases fnF_rng (nm := sc Y 140) (w := sc Y 136 21) (N := sc Y 136 22) 12 0 with z | z
          · exact absurd z y3
          · have t : hrS (sc Y) < sc Y 136 22 := z.2.1
            have e22 := fZ 136 22 (by omega) (by omega)
            omega
        refine Or.inr ⟨stp v (stp v M2), scnS (stp v M2), hrS (sc Y), m4, fun a i z => ?_, hp, ?_, fun a i z1 z2 => ?_, fun i => ?_⟩
        · rcases z with z | z
          · rw [hS _ a i (by omega), w3 a i (by omega) (by omega)]
            exact hQ a i (by omega)
          · rw [hS _ a i (by omega), z.1, z.2, e3, up_i (by decide), up_i (by decide), hS M2 3 5 (by decide), e2, up_i (by decide), up_i (by decide)]
            exact hQ 3 5 (by omega)
        · rw [e4]
          unfold rdAd
          rw [hS _ 3 6 (by decide), e3, up_i (by decide), up_i (by decide), hS M2 3 6 (by decide), e2, up_i (by decide), up_i (by decide), hQ6]
        · rw [sc_r (by omega), up_k z1, fZ a i (by omega) z2]
        · rw [sc_r (by omega)]
          by_cases y : i = F 136 22
          · rw [if_pos y, y, up_s]
          · rw [if_neg y, up_i y, fZ 147 i (by omega) (by omega)]

