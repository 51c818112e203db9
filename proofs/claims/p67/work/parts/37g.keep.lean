theorem PrI.lim {v : Int} {F : Hp} (hv : isSu v) (h : PrI v F) (hT : TkI F) (hE : F 3 4 = 6) (hc : (tkLim v F).1 = 0) : PrI v (tkLim v F).2 := by
  obtain ⟨⟨r1, r2, r3, r4, r5, r6, r7, r8, r9, r10, r11, r12, r13⟩, hS, hX, j1, j2⟩ := id h
  obtain ⟨t1, t2, t3, t4⟩ := id hT
  clear r8 r9 r10 r11 r12 r13 j1 j2 t3 t4
  unfold tkLim at hc ⊢
  dsimp only at hc ⊢
  have hn := nmf_0 hc
  refine ⟨?_, ?_, ?_, ?_⟩
  · unfold RdI
    simp (disch := omega) only [up_k, up_i, up_s]
    exact ⟨r1, r2, r3, r4, by omega, by omega, by omega, by omega, by omega, by omega, by omega, by omega, by omega⟩
  · obtain ⟨s1, s2, s3, s4, s5, s6, s7, s8, s9, s10, s11, s12⟩ := hS
    unfold SuI
    simp (disch := omega) only [up_k, up_r, up_i, up_s]
    exact ⟨s1, s2, s3, s4, s5, s6, s7, s8, by omega, s10, s11, s12⟩
  · unfold SuX
    simp (disch := omega) only [up_k, up_i]
    exact hX
  · unfold RdJ
    simp (disch := omega) only [up_k, up_i, up_s]
    omega
theorem PrI.age {v : Int} {F : Hp} (hv : isSu v) (h : PrI v F) (hT : TkI F) (hE : F 3 4 = 7) (hc : (tkAge v F).1 = 0) : PrI v (tkAge v F).2 := by
  obtain ⟨⟨r1, r2, r3, r4, r5, r6, r7, r8, r9, r10, r11, r12, r13⟩, hS, hX, j1, j2⟩ := id h
  obtain ⟨t1, t2, t3, t4⟩ := id hT
  clear r8 r9 r10 r11 r12 r13 j1 j2 t3 t4
  unfold tkAge at hc ⊢
  dsimp only at hc ⊢
  have hn := nmf_0 hc
  refine ⟨?_, ?_, ?_, ?_⟩
  · unfold RdI
    simp (disch := omega) only [up_k, up_i, up_s]
    exact ⟨r1, r2, r3, r4, by omega, by omega, by omega, by omega, by omega, by omega, by omega, by omega, by omega⟩
  · obtain ⟨s1, s2, s3, s4, s5, s6, s7, s8, s9, s10, s11, s12⟩ := hS
    unfold SuI
    simp (disch := omega) only [up_k, up_r, up_i, up_s]
    exact ⟨s1, s2, s3, s4, s5, s6, s7, s8, s9, by omega, s11, s12⟩
  · unfold SuX
    simp (disch := omega) only [up_k, up_i]
    exact hX
  · unfold RdJ
    simp (disch := omega) only [up_k, up_i, up_s]
    omega
theorem PrI.tim {v : Int} {F : Hp} (hv : isSu v) (h : PrI v F) (hT : TkI F) (hE : F 3 4 = 8) (hc : (tkTim F).1 = 0) : PrI v (tkTim F).2 := by
  obtain ⟨⟨r1, r2, r3, r4, r5, r6, r7, r8, r9, r10, r11, r12, r13⟩, hS, hX, j1, j2⟩ := id h
  obtain ⟨t1, t2, t3, t4⟩ := id hT
  unfold tkTim at hc ⊢
  dsimp only at hc ⊢
  have hn := nmf_0 hc
  have q := r13 (by rw [hE]; decide)
  clear r8 r9 r10 r11 r12 r13 j1 j2 t3 t4
  refine ⟨?_, hS.fr (fun a z1 z2 => by simp (disch := omega) only [up_r]), hX.fr (fun a z1 z2 => by simp (disch := omega) only [up_r]), ?_⟩
  · unfold RdI
    simp (disch := omega) only [up_k, up_i, up_s]
    exact ⟨r1, r2, r3, r4, by omega, by omega, by omega, by omega, by omega, by omega, by omega, by omega, by omega⟩
  · unfold RdJ
    simp (disch := omega) only [up_k, up_i, up_s]
    omega
