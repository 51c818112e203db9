theorem noI {k : Int} {F : Hp} (h : (k, F).1 = 0) (hk : ¬ k = 0) : False := hk h
theorem PrI.stm {v : Int} {F : Hp} (hv : isSu v) (h : PrI v F) (hT : TkI F) (hE : F 3 4 = 0) (hc : (tkStm v F).1 = 0) : PrI v (tkStm v F).2 := by
  obtain ⟨⟨r1, r2, r3, r4, r5, r6, r7, r8, r9, r10, r11, r12, r13⟩, hS, hX, j1, j2⟩ := id h
  obtain ⟨t1, t2, t3, t4⟩ := id hT
  clear r8 r9 r10 r11 r12 r13 j1 j2 t3 t4
  unfold tkStm at hc ⊢
  by_cases q1 : F 21 4 = 7
  · simp only [if_pos q1] at hc ⊢
    have q2 : F v 0 < 12 := by split at hc <;> omega
    refine ⟨?_, hS.fr (fun a z1 z2 => by simp (disch := omega) only [up_r]), hX.fr (fun a z1 z2 => by simp (disch := omega) only [up_r]), ?_⟩
    · unfold RdI
      simp (disch := omega) only [up_k, up_i, up_s]
      exact ⟨r1, r2, r3, r4, by omega, by omega, by omega, by omega, by omega, by omega, by omega, by omega, by omega⟩
    · unfold RdJ
      simp (disch := omega) only [up_k, up_i, up_s]
      omega
  · by_cases q2 : F 21 4 = 9
    · simp only [if_neg q1, if_pos q2] at hc ⊢
      refine ⟨?_, hS.fr (fun a z1 z2 => by simp (disch := omega) only [up_r]), hX.fr (fun a z1 z2 => by simp (disch := omega) only [up_r]), ?_⟩
      · unfold RdI
        simp (disch := omega) only [up_k, up_i, up_s]
        exact ⟨r1, r2, r3, r4, by omega, by omega, by omega, by omega, by omega, by omega, by omega, by omega, by omega⟩
      · unfold RdJ
        simp (disch := omega) only [up_k, up_i, up_s]
        omega
    · by_cases q3 : F 21 4 = 10
      · simp only [if_neg q1, if_neg q2, if_pos q3] at hc ⊢
        refine ⟨?_, hS.fr (fun a z1 z2 => by simp (disch := omega) only [up_r]), hX.fr (fun a z1 z2 => by simp (disch := omega) only [up_r]), ?_⟩
        · unfold RdI
          simp (disch := omega) only [up_k, up_i, up_s]
          exact ⟨r1, r2, r3, r4, by omega, by omega, by omega, by omega, by omega, by omega, by omega, by omega, by omega⟩
        · unfold RdJ
          simp (disch := omega) only [up_k, up_i, up_s]
          omega
      · by_cases q4 : F 21 4 = 11
        · simp only [if_neg q1, if_neg q2, if_neg q3, if_pos q4] at hc ⊢
          have q5 : F (v + 12) 0 < 12 := by split at hc <;> omega
          refine ⟨?_, hS.fr (fun a z1 z2 => by simp (disch := omega) only [up_r]), hX.fr (fun a z1 z2 => by simp (disch := omega) only [up_r]), ?_⟩
          · unfold RdI
            simp (disch := omega) only [up_k, up_i, up_s]
            exact ⟨r1, r2, r3, r4, by omega, by omega, by omega, by omega, by omega, by omega, by omega, by omega, by omega⟩
          · unfold RdJ
            simp (disch := omega) only [up_k, up_i, up_s]
            omega
        · simp only [if_neg q1, if_neg q2, if_neg q3, if_neg q4] at hc
          first | exact (noI hc (by decide)).elim | exact absurd hc (by decide)
theorem PrI.nam {v : Int} {F : Hp} (hv : isSu v) (h : PrI v F) (hT : TkI F) (hE : F 3 4 = 1) (hc : (tkNam v F).1 = 0) : PrI v (tkNam v F).2 := by
  obtain ⟨⟨r1, r2, r3, r4, r5, r6, r7, r8, r9, r10, r11, r12, r13⟩, hS, hX, j1, j2⟩ := id h
  obtain ⟨t1, t2, t3, t4⟩ := id hT
  unfold tkNam at hc ⊢
  by_cases q1 : F 21 1 = 1 ∧ F 21 4 = -1
  · rw [if_neg (fun z => z q1)] at hc ⊢
    by_cases q2 : fndS v (F 21 3) F = -2
    · rw [if_neg (fun z => z q2)] at hc ⊢
      have w := t3 q1.1
      have q4 := r11 (by rw [hE]; decide)
      clear r8 r9 r10 r11 r12 r13 j1 j2 t3 t4
      by_cases q3 : F v 0 = 0
      · rw [if_pos q3] at hc ⊢
        refine PrI.adn hv ?_ (hS.fr (fun a z1 z2 => up_r (by omega))) (hX.fr (fun a z1 z2 => up_r (by omega))) (by rw [up_k (by omega)]; omega) (by rw [up_s]; exact w) (Or.inl ⟨rfl, by rw [up_k (by omega)]; exact q3⟩)
        unfold RdI
        simp (disch := omega) only [up_k, up_i, up_s]
        exact ⟨r1, r2, r3, r4, by omega, by omega, by omega, by omega, by omega, by omega, by omega, by omega, by omega⟩
      · rw [if_neg q3] at hc ⊢
        refine ⟨?_, hS.fr (fun a z1 z2 => by simp (disch := omega) only [up_r]), hX.fr (fun a z1 z2 => by simp (disch := omega) only [up_r]), ?_⟩
        · unfold RdI
          simp (disch := omega) only [up_k, up_i, up_s]
          exact ⟨r1, r2, r3, r4, by omega, by omega, by omega, by omega, by omega, by omega, by omega, by omega, by omega⟩
        · unfold RdJ
          simp (disch := omega) only [up_k, up_i, up_s]
          omega
    · rw [if_pos q2] at hc
      first | exact (noI hc (by decide)).elim | exact absurd hc (by decide)
  · rw [if_pos q1] at hc
    first | exact (noI hc (by decide)).elim | exact absurd hc (by decide)
theorem PrI.inn {v : Int} {F : Hp} (hv : isSu v) (h : PrI v F) (hT : TkI F) (hE : F 3 4 = 2) (hc : (tkInn F).1 = 0) : PrI v (tkInn F).2 := by
  obtain ⟨⟨r1, r2, r3, r4, r5, r6, r7, r8, r9, r10, r11, r12, r13⟩, hS, hX, j1, j2⟩ := id h
  obtain ⟨t1, t2, t3, t4⟩ := id hT
  unfold tkInn at hc ⊢
  have q := r12 (Or.inl hE)
  have q2 := r11 (by rw [hE]; decide)
  clear r8 r9 r10 r11 r12 r13 j1 j2 t3 t4
  dsimp only at hc ⊢
  refine ⟨?_, hS.fr (fun a z1 z2 => by simp (disch := omega) only [up_r]), hX.fr (fun a z1 z2 => by simp (disch := omega) only [up_r]), ?_⟩
  · unfold RdI
    simp (disch := omega) only [up_k, up_i, up_s]
    exact ⟨r1, r2, r3, r4, by omega, by omega, by omega, by omega, by omega, by omega, by omega, by omega, by omega⟩
  · unfold RdJ
    simp (disch := omega) only [up_k, up_i, up_s]
    omega
theorem PrI.par {v : Int} {F : Hp} (hv : isSu v) (h : PrI v F) (hT : TkI F) (hE : F 3 4 = 3) (hc : (tkPar v F).1 = 0) : PrI v (tkPar v F).2 := by
  obtain ⟨⟨r1, r2, r3, r4, r5, r6, r7, r8, r9, r10, r11, r12, r13⟩, hS, hX, j1, j2⟩ := id h
  obtain ⟨t1, t2, t3, t4⟩ := id hT
  unfold tkPar at hc ⊢
  by_cases q1 : F 21 1 = 1 ∧ F 21 4 = -1
  · rw [if_neg (fun z => z q1)] at hc ⊢
    by_cases q2 : fndS v (F 21 3) F = -2
    · rw [if_pos q2] at hc
      first | exact (noI hc (by decide)).elim | exact absurd hc (by decide)
    · rw [if_neg q2] at hc ⊢
      have q := r12 (Or.inr hE)
      have q3 := r11 (by rw [hE]; decide)
      clear r8 r9 r10 r11 r12 r13 j1 j2 t3 t4
      have hf := fndS_rng v (F 21 3) F
      exact PrI.adn hv h.1 hS hX q3 q.2 (Or.inr (by omega))
  · rw [if_pos q1] at hc
    first | exact (noI hc (by decide)).elim | exact absurd hc (by decide)
