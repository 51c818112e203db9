theorem PrI.adn {v p : Int} {F : Hp} (hv : isSu v) (h : RdI v F) (hS : SuI v F) (hX : SuX v F) (hN : F v 0 < 12) (hw : W40 (F 3 6)) (hp : (p = -2 ∧ F v 0 = 0) ∨ (0 ≤ p ∧ p < F v 0)) : PrI v (rdAd v p F) := by
  have h2 := hS.adn (w := F 3 6) (p := p) hX hN hp
  obtain ⟨r1, r2, r3, r4, r5, r6, r7, r8, r9, r10, r11, r12, r13⟩ := id h
  have e3 : adnS v (F 3 6) p F 3 = F 3 := adn_r (by omega)
  have e12 : adnS v (F 3 6) p F (v + 12) = F (v + 12) := adn_r (by omega)
  obtain ⟨a0, a13, a14⟩ := adn_0 (v := v) (w := F 3 6) (p := p) (F := F)
  have an := fun n : Int => adn_n (w := F 3 6) (p := p) (n := n) (F := F) (v := v) r2.1 (by omega)
  unfold rdAd
  refine ⟨?_, h2.1.fr (fun a z1 z2 => by rw [up_r (by omega), up_r (by omega)]), h2.2.fr (fun a z1 z2 => by rw [up_r (by omega), up_r (by omega)]), ?_⟩
  · unfold RdI
    simp (disch := omega) only [up_k, up_i, up_s, e3, e12, a0, a14]
    refine ⟨r1, by omega, by omega, fun n h0 h1 => ?_, by omega, by omega, by omega, by omega, by omega, by omega, by omega, by omega, by omega⟩
    rw [(an n).1]
    by_cases q : n = F v 0
    · rw [if_pos q]; exact hw
    · rw [if_neg q]; exact r4 n h0 (by omega)
  · unfold RdJ
    simp (disch := omega) only [up_k, up_i, up_s, e3, e12, a0]
    omega
