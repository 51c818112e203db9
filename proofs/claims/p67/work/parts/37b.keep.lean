theorem SuI.adn {v w p : Int} {F : Hp} (h : SuI v F) (hx : SuX v F) (hN : F v 0 < 12) (hp : (p = -2 ∧ F v 0 = 0) ∨ (0 ≤ p ∧ p < F v 0)) : SuI v (adnS v w p F) ∧ SuX v (adnS v w p F) := by
  obtain ⟨s1, s2, s3, s4, s5, s6, s7, s8, s9, s10, s11, s12⟩ := h
  obtain ⟨a0, a13, a14⟩ := adn_0 (v := v) (w := w) (p := p) (F := F)
  have an := fun n : Int => adn_n (w := w) (p := p) (n := n) (F := F) (v := v) s1.1 (by omega)
  have r12 : adnS v w p F (v + 12) = F (v + 12) := adn_r (by omega)
  have r13 : adnS v w p F (v + 13) = F (v + 13) := adn_r (by omega)
  have r14 : adnS v w p F (v + 14) = F (v + 14) := adn_r (by omega)
  have r15 : adnS v w p F (v + 15) = F (v + 15) := adn_r (by omega)
  have r16 : adnS v w p F (v + 16) = F (v + 16) := adn_r (by omega)
  refine ⟨?_, ?_⟩
  · unfold SuI Tr
    rw [a0, a13, a14, r12, r13, r14, r15, r16]
    refine ⟨by omega, fun n h0 h1 => ?_, fun n h0 h1 => ?_, fun n h0 h1 => ?_, fun n h0 h1 => ?_, fun n h0 h1 => ?_, fun n h0 h1 => ?_, fun n h0 h1 => ?_, s9, s10, s11, fun k h0 h1 => ?_⟩
    · rw [(an n).2.1]
      by_cases q : n = F v 0
      · rw [if_pos q]; omega
      · rw [if_neg q]; exact s2 n h0 (by omega)
    · rw [(an n).2.1]
      by_cases q : n = F v 0
      · rw [if_pos q]; omega
      · rw [if_neg q]; exact s3 n h0 (by omega)
    · rw [(an n).2.1, (an n).2.2.1]
      by_cases q : n = F v 0
      · rw [if_pos q, if_pos q]
        rcases hp with ⟨hp1, hp2⟩ | hp
        · rw [if_neg (by omega)]; omega
        · rw [if_pos hp.1, (an p).2.2.1, if_neg (by omega)]
          have := s4 p hp.1 hp.2
          omega
      · have k2 := s2 n h0 (by omega)
        rw [if_neg q, if_neg q, (an (F (v + 2) n)).2.2.1, if_neg (by omega)]
        exact s4 n h0 (by omega)
    · rw [(an n).2.2.2.1]
      by_cases q : n = F v 0
      · rw [if_pos q]; omega
      · rw [if_neg q]
        have k5 := s5 n h0 (by omega)
        have kx := hx n h0 (by omega)
        split
        · rename_i z; rw [z.1] at k5 kx; omega
        · exact k5
    · rw [(an n).2.2.2.1]
      by_cases q : n = F v 0
      · rw [if_pos q]
        refine ⟨fun _ k k0 k1 => ?_, fun _ => rfl⟩
        rw [(an k).2.1]
        by_cases z : k = F v 0
        · rw [if_pos z]; omega
        · rw [if_neg z]; have := s2 k k0 (by omega); omega
      · rw [if_neg q]
        have k6 := s6 n h0 (by omega)
        have k5 := s5 n h0 (by omega)
        by_cases z : n = p ∧ 0 ≤ p
        · rw [if_pos z]
          refine ⟨fun w => ?_, fun w => ?_⟩
          · rw [z.1] at k5; omega
          · have := w (F v 0) s1.1 (by omega)
            rw [(an (F v 0)).2.1, if_pos rfl] at this
            exact absurd z.1.symm this
        · rw [if_neg z, k6]
          refine ⟨fun w k k0 k1 => ?_, fun w k k0 k1 => ?_⟩
          · rw [(an k).2.1]
            by_cases y : k = F v 0
            · rw [if_pos y]; omega
            · rw [if_neg y]; exact w k k0 (by omega)
          · have := w k k0 (by omega)
            rw [(an k).2.1, if_neg (by omega)] at this
            exact this
    · obtain ⟨b1, b2, b3, b4, b5, b6⟩ := (an n).2.2.2.2.2
      rw [b1, b2, b3, b4, b5, b6]
      by_cases q : n = F v 0
      · simp only [if_pos q]; omega
      · simp only [if_neg q]; exact s7 n h0 (by omega)
    · rw [(an n).2.2.2.2.1]
      by_cases q : n = F v 0
      · rw [if_pos q]; omega
      · rw [if_neg q]; exact s8 n h0 (by omega)
    · have := s12 k h0 h1; omega
  · intro n h0 h1
    rw [a0] at h1 ⊢
    rw [(an n).2.2.2.1]
    by_cases q : n = F v 0
    · rw [if_pos q]; omega
    · rw [if_neg q]
      have kx := hx n h0 (by omega)
      split
      · rename_i z; rw [z.1] at kx; omega
      · omega
