theorem PrI.fin {v : Int} {F : Hp} (hv : isSu v) (h : PrI v F) (hT : TkI F) (hE : F 3 4 = 12) (hc : (tkEnd F).1 = 0) : PrI v (tkEnd F).2 := by
  obtain ⟨⟨r1, r2, r3, r4, r5, r6, r7, r8, r9, r10, r11, r12, r13⟩, hS, hX, j1, j2⟩ := id h
  obtain ⟨t1, t2, t3, t4⟩ := id hT
  clear r8 r9 r10 r11 r12 r13 j1 j2 t3 t4
  unfold tkEnd at hc ⊢
  dsimp only at hc ⊢
  refine ⟨?_, hS.fr (fun a z1 z2 => by simp (disch := omega) only [up_r]), hX.fr (fun a z1 z2 => by simp (disch := omega) only [up_r]), ?_⟩
  · unfold RdI
    simp (disch := omega) only [up_k, up_i, up_s]
    exact ⟨r1, r2, r3, r4, by omega, by omega, by omega, by omega, by omega, by omega, by omega, by omega, by omega⟩
  · unfold RdJ
    simp (disch := omega) only [up_k, up_i, up_s]
    omega
theorem PrI.tak {v : Int} {F : Hp} (hv : isSu v) (h : PrI v F) (hT : TkI F) (hc : (takS v F).1 = 0) : PrI v (takS v F).2 := by
  have r5 := h.1.2.2.2.2.1
  unfold takS at hc ⊢
  have hE : F 3 4 = 0 ∨ F 3 4 = 1 ∨ F 3 4 = 2 ∨ F 3 4 = 3 ∨ F 3 4 = 4 ∨ F 3 4 = 5 ∨ F 3 4 = 6 ∨ F 3 4 = 7 ∨ F 3 4 = 8 ∨ F 3 4 = 9 ∨ F 3 4 = 10 ∨ F 3 4 = 11 ∨ F 3 4 = 12 := by omega
  rcases hE with hE | hE | hE | hE | hE | hE | hE | hE | hE | hE | hE | hE | hE
  · rw [if_pos (by omega)] at hc ⊢
    exact h.stm hv hT hE hc
  · rw [if_neg (by omega), if_pos (by omega)] at hc ⊢
    exact h.nam hv hT hE hc
  · rw [if_neg (by omega), if_neg (by omega), if_pos (by omega)] at hc ⊢
    exact h.inn hv hT hE hc
  · rw [if_neg (by omega), if_neg (by omega), if_neg (by omega), if_pos (by omega)] at hc ⊢
    exact h.par hv hT hE hc
  · rw [if_neg (by omega), if_neg (by omega), if_neg (by omega), if_neg (by omega), if_pos (by omega)] at hc ⊢
    exact h.set hv hT hE hc
  · rw [if_neg (by omega), if_neg (by omega), if_neg (by omega), if_neg (by omega), if_neg (by omega), if_pos (by omega)] at hc ⊢
    exact h.val hv hT hE hc
  · rw [if_neg (by omega), if_neg (by omega), if_neg (by omega), if_neg (by omega), if_neg (by omega), if_neg (by omega), if_pos (by omega)] at hc ⊢
    exact h.lim hv hT hE hc
  · rw [if_neg (by omega), if_neg (by omega), if_neg (by omega), if_neg (by omega), if_neg (by omega), if_neg (by omega), if_neg (by omega), if_pos (by omega)] at hc ⊢
    exact h.age hv hT hE hc
  · rw [if_neg (by omega), if_neg (by omega), if_neg (by omega), if_neg (by omega), if_neg (by omega), if_neg (by omega), if_neg (by omega), if_neg (by omega), if_pos (by omega)] at hc ⊢
    exact h.tim hv hT hE hc
  · rw [if_neg (by omega), if_neg (by omega), if_neg (by omega), if_neg (by omega), if_neg (by omega), if_neg (by omega), if_neg (by omega), if_neg (by omega), if_neg (by omega), if_pos (by omega)] at hc ⊢
    exact h.chn hv hT hE hc
  · rw [if_neg (by omega), if_neg (by omega), if_neg (by omega), if_neg (by omega), if_neg (by omega), if_neg (by omega), if_neg (by omega), if_neg (by omega), if_neg (by omega), if_neg (by omega), if_pos (by omega)] at hc ⊢
    exact h.chs hv hT hE hc
  · rw [if_neg (by omega), if_neg (by omega), if_neg (by omega), if_neg (by omega), if_neg (by omega), if_neg (by omega), if_neg (by omega), if_neg (by omega), if_neg (by omega), if_neg (by omega), if_neg (by omega), if_pos (by omega)] at hc ⊢
    exact h.chv hv hT hE hc
  · rw [if_neg (by omega), if_neg (by omega), if_neg (by omega), if_neg (by omega), if_neg (by omega), if_neg (by omega), if_neg (by omega), if_neg (by omega), if_neg (by omega), if_neg (by omega), if_neg (by omega), if_neg (by omega)] at hc ⊢
    exact h.fin hv hT hE hc
