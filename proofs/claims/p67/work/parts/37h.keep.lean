theorem PrI.chn {v : Int} {F : Hp} (hv : isSu v) (h : PrI v F) (hT : TkI F) (hE : F 3 4 = 9) (hc : (tkChN v F).1 = 0) : PrI v (tkChN v F).2 := by
  obtain ⟨⟨r1, r2, r3, r4, r5, r6, r7, r8, r9, r10, r11, r12, r13⟩, hS, hX, j1, j2⟩ := id h
  obtain ⟨t1, t2, t3, t4⟩ := id hT
  unfold tkChN at hc ⊢
  by_cases q1 : F 21 1 = 1 ∧ F 21 4 = -1
  · rw [if_neg (fun z => z q1)] at hc ⊢
    dsimp only at hc ⊢
    have hf := fndS_rng v (F 21 3) F
    have q2 : fndS v (F 21 3) F ≠ -2 := fun z => by rw [if_pos z] at hc; first | exact (noI hc (by decide)).elim | exact absurd hc (by decide)
    have q := r13 (by rw [hE]; decide)
    have q3 := j1 (by rw [hE]; decide)
    clear r8 r9 r10 r11 r12 r13 j1 j2 t3 t4
    refine ⟨?_, hS.fr (fun a z1 z2 => by simp (disch := omega) only [up_r]), hX.fr (fun a z1 z2 => by simp (disch := omega) only [up_r]), ?_⟩
    · unfold RdI
      simp (disch := omega) only [up_k, up_i, up_s]
      exact ⟨r1, r2, r3, r4, by omega, by omega, by omega, by omega, by omega, by omega, by omega, by omega, by omega⟩
    · unfold RdJ
      simp (disch := omega) only [up_k, up_i, up_s]
      omega
  · rw [if_pos q1] at hc
    first | exact (noI hc (by decide)).elim | exact absurd hc (by decide)
theorem PrI.chs {v : Int} {F : Hp} (hv : isSu v) (h : PrI v F) (hT : TkI F) (hE : F 3 4 = 10) (hc : (tkChS F).1 = 0) : PrI v (tkChS F).2 := by
  obtain ⟨⟨r1, r2, r3, r4, r5, r6, r7, r8, r9, r10, r11, r12, r13⟩, hS, hX, j1, j2⟩ := id h
  obtain ⟨t1, t2, t3, t4⟩ := id hT
  unfold tkChS at hc ⊢
  dsimp only at hc ⊢
  have q0 : F 21 4 = 0 ∨ F 21 4 = 1 ∨ F 21 4 = 4 := by split at hc <;> omega
  have q := r13 (by rw [hE]; decide)
  have q3 := j1 (by rw [hE]; decide)
  have q4 := j2 (by rw [hE]; decide)
  clear r8 r9 r10 r11 r12 r13 j1 j2 t3 t4
  refine ⟨?_, hS.fr (fun a z1 z2 => by simp (disch := omega) only [up_r]), hX.fr (fun a z1 z2 => by simp (disch := omega) only [up_r]), ?_⟩
  · unfold RdI
    simp (disch := omega) only [up_k, up_i, up_s]
    exact ⟨r1, r2, r3, r4, by omega, by omega, by omega, by omega, by omega, by omega, by omega, by omega, by omega⟩
  · unfold RdJ
    simp (disch := omega) only [up_k, up_i, up_s]
    omega
theorem PrI.chv {v : Int} {F : Hp} (hv : isSu v) (h : PrI v F) (hT : TkI F) (hE : F 3 4 = 11) (hc : (tkChV v F).1 = 0) : PrI v (tkChV v F).2 := by
  obtain ⟨⟨r1, r2, r3, r4, r5, r6, r7, r8, r9, r10, r11, r12, r13⟩, hS, hX, j1, j2⟩ := id h
  obtain ⟨t1, t2, t3, t4⟩ := id hT
  have q := r13 (by rw [hE]; decide)
  have q3 := j1 (by rw [hE]; decide)
  have q4 := j2 (by rw [hE]; decide)
  have q5 := r10 hE
  clear r8 r9 r10 r11 r12 r13 j1 j2 t3 t4
  unfold tkChV at hc ⊢
  dsimp only at hc ⊢
  rw [if_pos hc]
  have hn := nmf_0 hc
  unfold chaS
  refine ⟨?_, ?_, ?_, ?_⟩
  · unfold RdI
    simp (disch := omega) only [up_k, up_i, up_s]
    exact ⟨r1, r2, by omega, r4, by omega, by omega, by omega, by omega, by omega, by omega, by omega, by omega, by omega⟩
  · obtain ⟨s1, s2, s3, s4, s5, s6, s7, s8, s9, s10, s11, s12⟩ := hS
    unfold SuI
    simp (disch := omega) only [up_k, up_r, up_i, up_s]
    refine ⟨s1, s2, s3, s4, s5, s6, s7, s8, s9, s10, by omega, fun k h0 h1 => ?_⟩
    by_cases z : k = F (v + 12) 0
    · subst z
      simp (disch := omega) only [up_k, up_s]
      rcases q5 with z | z | z
      · rw [z] at hn
        replace hn : F 21 1 = 2 ∧ 0 ≤ F 21 5 ∧ F 21 5 ≤ 99 := hn
        omega
      · rw [z] at hn
        replace hn : F 21 1 = 2 ∧ 0 ≤ F 21 5 ∧ F 21 5 ≤ 999 := hn
        omega
      · rw [z] at hn
        replace hn : F 21 1 = 2 ∧ 1 ≤ F 21 5 ∧ F 21 5 ≤ 9 := hn
        omega
    · simp (disch := omega) only [up_k, up_i]
      exact s12 k h0 (by omega)
  · unfold SuX
    simp (disch := omega) only [up_k, up_i]
    exact hX
  · unfold RdJ
    simp (disch := omega) only [up_k, up_i, up_s]
    omega
