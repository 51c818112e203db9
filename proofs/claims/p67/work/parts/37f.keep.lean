theorem PrI.set {v : Int} {F : Hp} (hv : isSu v) (h : PrI v F) (hT : TkI F) (hE : F 3 4 = 4) (hc : (tkSet v F).1 = 0) : PrI v (tkSet v F).2 := by
  obtain ⟨⟨r1, r2, r3, r4, r5, r6, r7, r8, r9, r10, r11, r12, r13⟩, hS, hX, j1, j2⟩ := id h
  obtain ⟨t1, t2, t3, t4⟩ := id hT
  have q0 := r8 (Or.inl hE)
  clear r8 r9 r10 r11 r12 r13 j1 j2 t3 t4
  unfold tkSet at hc ⊢
  by_cases q1 : F 21 1 = 3
  · rw [if_pos q1] at hc ⊢
    unfold finS
    by_cases q2 : gvn (F 3 7) 1 = 0
    · dsimp only
      rw [if_pos q2]
      have hs : SuI v (up F (v + 6) (F v 0 - 1) (F (v + 5) (F v 0 - 1))) := by
        have k := hS.2.2.2.2.2.2.1 (F v 0 - 1) (by omega) (by omega)
        exact SuI.val (s := 1) hS (by omega) (show 0 ≤ F (v + 5) (F v 0 - 1) ∧ F (v + 5) (F v 0 - 1) ≤ 999 by omega)
      refine ⟨?_, hs.fr (fun a z1 z2 => up_r (by omega)), ?_, ?_⟩
      · unfold RdI
        simp (disch := omega) only [up_k, up_i, up_s]
        exact ⟨r1, r2, r3, r4, by omega, by omega, by omega, by omega, by omega, by omega, by omega, by omega, by omega⟩
      · unfold SuX
        simp (disch := omega) only [up_k]
        exact hX
      · unfold RdJ
        simp (disch := omega) only [up_k, up_i, up_s]
        omega
    · dsimp only
      rw [if_neg q2]
      refine ⟨?_, hS.fr (fun a z1 z2 => by simp (disch := omega) only [up_r]), hX.fr (fun a z1 z2 => by simp (disch := omega) only [up_r]), ?_⟩
      · unfold RdI
        simp (disch := omega) only [up_k, up_i, up_s]
        exact ⟨r1, r2, r3, r4, by omega, by omega, by omega, by omega, by omega, by omega, by omega, by omega, by omega⟩
      · unfold RdJ
        simp (disch := omega) only [up_k, up_i, up_s]
        omega
  · rw [if_neg q1] at hc ⊢
    by_cases q2 : F 21 4 < 0 ∨ 6 < F 21 4
    · rw [if_pos q2] at hc
      first | exact (noI hc (by decide)).elim | exact absurd hc (by decide)
    · rw [if_neg q2] at hc ⊢
      by_cases q3 : gvn (F 3 7) (F 21 4) = 1
      · rw [if_pos q3] at hc
        first | exact (noI hc (by decide)).elim | exact absurd hc (by decide)
      · rw [if_neg q3] at hc ⊢
        have hg := (gvn_all (F 3 7).toNat (by omega) (F 21 4).toNat (by omega)).1
        rw [show (((F 3 7).toNat : Nat) : Int) = F 3 7 by omega, show (((F 21 4).toNat : Nat) : Int) = F 21 4 by omega] at hg
        by_cases q4 : F 21 4 = 6
        · rw [if_pos q4] at hc ⊢
          dsimp only
          refine ⟨?_, ?_, ?_, ?_⟩
          · unfold RdI
            simp (disch := omega) only [up_k, up_i, up_s]
            exact ⟨r1, r2, r3, r4, by omega, by omega, by omega, by omega, by omega, by omega, by omega, by omega, by omega⟩
          · obtain ⟨s1, s2, s3, s4, s5, s6, s7, s8, s9, s10, s11, s12⟩ := hS
            unfold SuI
            simp (disch := omega) only [up_k, up_r]
            refine ⟨s1, s2, s3, s4, s5, s6, s7, fun n h0 h1 => ?_, s9, s10, s11, s12⟩
            by_cases z : n = F v 0 - 1
            · subst z; rw [up_s]; omega
            · rw [up_i z, up_k (by omega), up_k (by omega)]; exact s8 n h0 h1
          · unfold SuX
            simp (disch := omega) only [up_k]
            exact hX
          · unfold RdJ
            simp (disch := omega) only [up_k, up_i, up_s]
            omega
        · rw [if_neg q4] at hc ⊢
          dsimp only
          refine ⟨?_, hS.fr (fun a z1 z2 => by simp (disch := omega) only [up_r]), hX.fr (fun a z1 z2 => by simp (disch := omega) only [up_r]), ?_⟩
          · unfold RdI
            simp (disch := omega) only [up_k, up_i, up_s]
            exact ⟨r1, r2, r3, r4, by omega, by omega, by omega, by omega, by omega, by omega, by omega, by omega, by omega⟩
          · unfold RdJ
            simp (disch := omega) only [up_k, up_i, up_s]
            omega
theorem nmf_0 {lo hi : Int} {F : Hp} (h : nmf lo hi F = 0) : F 21 1 = 2 ∧ lo ≤ F 21 5 ∧ F 21 5 ≤ hi := by
  unfold nmf at h
  split at h
  · exact absurd h (by decide)
  · split at h
    · exact ⟨by omega, by omega, by omega⟩
    · exact absurd h (by decide)
theorem PrI.val {v : Int} {F : Hp} (hv : isSu v) (h : PrI v F) (hT : TkI F) (hE : F 3 4 = 5) (hc : (tkVal v F).1 = 0) : PrI v (tkVal v F).2 := by
  obtain ⟨⟨r1, r2, r3, r4, r5, r6, r7, r8, r9, r10, r11, r12, r13⟩, hS, hX, j1, j2⟩ := id h
  obtain ⟨t1, t2, t3, t4⟩ := id hT
  have q0 := r8 (Or.inr hE)
  have q1 := r9 hE
  clear r8 r9 r10 r11 r12 r13 j1 j2 t3 t4
  unfold tkVal at hc ⊢
  dsimp only at hc ⊢
  rw [if_pos hc]
  have hn := nmf_0 hc
  have hs : SuI v (up F (v + rwN (F 3 8)) (F v 0 - 1) (F 21 5)) := hS.val q1 hn.2
  have hw := rwN_rng (F 3 8)
  refine ⟨?_, hs.fr (fun a z1 z2 => up_r (by omega)), ?_, ?_⟩
  · unfold RdI
    simp (disch := omega) only [up_k, up_i, up_s]
    exact ⟨r1, r2, r3, r4, by omega, by omega, by omega, by omega, by omega, by omega, by omega, by omega, by omega⟩
  · unfold SuX
    simp (disch := omega) only [up_k]
    exact hX
  · unfold RdJ
    simp (disch := omega) only [up_k, up_i, up_s]
    omega
