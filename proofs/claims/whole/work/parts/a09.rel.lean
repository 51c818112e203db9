/-! a setup of the class and the reference's -/
theorem dpt_su {u : Int} {F : Hp} {par : Int → Int} (h : SuI u F) (hp : ∀ n : Int, 0 ≤ n → n < F u 0 → F (u + 2) n = par n) : ∀ (k : Nat) (n : Int), 0 ≤ n → n < F u 0 → n < k → dptF par k n = F (u + 3) n
  | 0, n, h0, _, hk => by omega
  | k + 1, n, h0, h1, hk => by
    have hT := h.2.1 n h0 h1
    have hD := h.2.2.2.1 n h0 h1
    unfold dptF
    by_cases q : par n < 0
    · rw [if_pos q, hD.2.1 (by rw [hp n h0 h1]; exact q)]
    · have e := hp n h0 h1
      rw [if_neg q, dpt_su h hp k (par n) (by omega) (by omega) (by omega), ← e, ← hD.2.2 (by omega)]
theorem AgU.mk {u o : Int} {F G : Hp} (hI : SuI u F) (h0 : F u 0 = G 136 3) (h13 : F u 13 = G 136 4) (h14 : F u 14 = G 136 5) (h12 : F (u + 12) 0 = G 136 38) (hr : ∀ n : Int, 0 ≤ n → n < F u 0 → F (u + 2) n = G 141 n ∧ F (u + 7) n = G 142 n ∧ F (u + 8) n = G 143 n ∧ F (u + 10) n = G 144 n ∧ F (u + 11) n = G 145 n) (hc : ∀ k : Int, 0 ≤ k → k < F (u + 12) 0 → F (u + 13) k = G 150 k ∧ F (u + 14) k = G 151 k ∧ F (u + 15) k = G 152 k ∧ F (u + 16) k = G 153 k) : AgU u F 1100 (vw o G) := by
  have hN := hI.1
  refine ⟨by rw [vw_1100_0]; exact h0, by rw [vw_1100_13]; exact h13, by rw [vw_1100_14]; exact h14, by rw [show (1100 : Int) + 12 = 1112 from rfl, vw_1112_0]; exact h12, fun n z0 z1 => ?_, fun k z0 z1 => ?_⟩
  · have r := hr n z0 z1
    have hd := dpt_su hI (fun n z0 z1 => (hr n z0 z1).1) 13 n z0 z1 (by omega)
    have hc := hI.2.2.2.2.2.1 n z0 z1
    rw [show (1100 : Int) + 2 = 1102 from rfl, show (1100 : Int) + 3 = 1103 from rfl, show (1100 : Int) + 4 = 1104 from rfl, show (1100 : Int) + 7 = 1107 from rfl, show (1100 : Int) + 8 = 1108 from rfl, show (1100 : Int) + 10 = 1110 from rfl, show (1100 : Int) + 11 = 1111 from rfl, vw_1102, vw_1103, vw_1104, vw_1107, vw_1108, vw_1110, vw_1111]
    refine ⟨r.1, hd.symm, ?_, r.2.1, r.2.2.1, r.2.2.2.1, r.2.2.2.2⟩
    rw [hc, chlC_0 (by omega), h0]
    constructor
    · intro y j j0 j1
      rw [← (hr j j0 (by omega)).1]
      exact y j j0 j1
    · intro y j j0 j1
      rw [(hr j j0 (by omega)).1]
      exact y j j0 j1
  · rw [show (1100 : Int) + 13 = 1113 from rfl, show (1100 : Int) + 14 = 1114 from rfl, show (1100 : Int) + 15 = 1115 from rfl, show (1100 : Int) + 16 = 1116 from rfl, vw_1113, vw_1114, vw_1115, vw_1116]
    exact hc k z0 z1
theorem SuI.vw {u o : Int} {F G : Hp} (h : SuI u F) (hA : AgU u F 1100 (Jvm.Pilot.CRateLimiterLaw_law_r9152_2bcaae.vw o G)) : SuI 1100 (Jvm.Pilot.CRateLimiterLaw_law_r9152_2bcaae.vw o G) := by
  obtain ⟨g1, g2, g3, g4, g5, g6⟩ := hA
  obtain ⟨s1, s2, s3, s4, s5, s6, s7, s8, s9, s10, s11, s12⟩ := h
  generalize hV : Jvm.Pilot.CRateLimiterLaw_law_r9152_2bcaae.vw o G = V at *
  have c4 : ∀ n, V (1100 + 4) n = chlC (G 141) (G 136 3) n := fun n => by rw [← hV, show (1100 : Int) + 4 = 1104 from rfl, vw_1104]
  have c0 : V 1100 0 = G 136 3 := by rw [← hV, vw_1100_0]
  have c2 : V (1100 + 2) = G 141 := by rw [← hV, show (1100 : Int) + 2 = 1102 from rfl, vw_1102]
  have k1 : ∀ a n : Int, a = 1105 ∨ a = 1106 ∨ a = 1109 → V a n = 1 := fun a n z => by
    rw [← hV, vw_su (by omega)]
    unfold sv
    repeat (first | rw [if_neg (by omega)] | rw [if_pos (by omega)])
  unfold SuI Tr
  rw [← g1, ← g2, ← g3, ← g4]
  refine ⟨s1, fun n h0 h1 => ?_, fun n h0 h1 => ?_, fun n h0 h1 => ?_, fun n h0 h1 => ?_, fun n h0 h1 => ?_, fun n h0 h1 => ?_, fun n h0 h1 => ?_, s9, s10, s11, fun k h0 h1 => ?_⟩
  · rw [← (g5 n h0 h1).1]; exact s2 n h0 h1
  · rw [← (g5 n h0 h1).1]; exact s3 n h0 h1
  · have a := s4 n h0 h1
    have t := s2 n h0 h1
    rw [← (g5 n h0 h1).1, ← (g5 n h0 h1).2.1]
    refine ⟨a.1, a.2.1, fun z => ?_⟩
    rw [← (g5 _ z (by omega)).2.1]
    exact a.2.2 z
  · rw [c4]
    unfold chlC
    split <;> omega
  · rw [c4, chlC_0 (by omega), c2, ← c0, ← g1]
  · have a := s7 n h0 h1
    have b := g5 n h0 h1
    have k5 := k1 1105 n (by omega)
    have k6 := k1 1106 n (by omega)
    have k9 := k1 1109 n (by omega)
    rw [show (1100 : Int) + 5 = 1105 from rfl, show (1100 : Int) + 6 = 1106 from rfl, show (1100 : Int) + 9 = 1109 from rfl, k5, k6, k9, ← b.2.2.2.1, ← b.2.2.2.2.1, ← b.2.2.2.2.2.1]
    exact ⟨by omega, by omega, a.2.2.1, a.2.2.2.1, by omega, a.2.2.2.2.2⟩
  · rw [← (g5 n h0 h1).2.2.2.2.2.2]; exact s8 n h0 h1
  · have b := g6 k h0 h1
    rw [← b.1, ← b.2.1, ← b.2.2.1, ← b.2.2.2]
    exact s12 k h0 h1

