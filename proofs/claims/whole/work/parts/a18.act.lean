/-- only the accounts -/
def AcA (b u : Int) (F : Hp) (c : Int) (G : Hp) : Prop := ∀ n : Int, 0 ≤ n → n < F u 0 → F (b + 5) n = G (c + 5) n ∧ F (b + 6) n = G (c + 6) n ∧ F (b + 7) n = G (c + 7) n
theorem AcA.lnd {b u c w l k : Int} {F G : Hp} (hU : AgU u F w G) (hS : AcA b u F c G) (hT : Tr (F u 0) (F (u + 2))) (hl : l < F u 0) : lndS b u F l k = lndS c w G l k := by
  unfold lndS
  refine lendS_cong hT (fun n h0 h1 => (hS n h0 h1).2.2) (fun n h0 h1 => ?_) hU.par (fun n h0 h1 => (hU.2.2.2.2.1 n h0 h1).2.2.2.2.2.2) hl
  have := hS n h0 h1
  show F (b + 5) n + F (b + 6) n = G (c + 5) n + G (c + 6) n
  omega
theorem AcA.pay {b c u w l f k : Int} {F G : Hp} (hd : dj b u) (hU : AgU u F w G) (hS : AcA b u F c G) (hT : Tr (F u 0) (F (u + 2))) (hl : l < F u 0) (hf : 0 ≤ f ∧ f < F u 0) : AcA b u (payS b u l f k F) c (payS c w l f k G) := by
  have hon : ∀ i, onP (F (u + 2)) 13 l i = onP (G (w + 2)) 13 l i := fun i => onP_cong hT hU.par 13 l i hl
  unfold dj at hd
  intro n h0 h1
  rw [payS_r (a := u) (by omega)] at h1
  obtain ⟨q5, q6, q7⟩ := hS n h0 h1
  have lf := (hS f hf.1 hf.2).1
  rw [payS_5, payS_5, payS_6, payS_6, payS_7, payS_7, ← hon, ← q5, ← q6, ← q7, ← lf]
  exact ⟨rfl, rfl, rfl⟩
theorem AcA.pof {b c u w l k : Int} (hd : dj b u) (hd2 : dj c w) : ∀ (q : Nat) (F G : Hp), AgU u F w G → AcA b u F c G → Tr (F u 0) (F (u + 2)) → l < F u 0 → (pofS b u l k q F).1 = (pofS c w l k q G).1
  | 0, F, G, _, _, _, _ => rfl
  | q + 1, F, G, hU, hS, hT, hl => by
    have e := AcA.lnd (k := k) hU hS hT hl
    by_cases z : lndS b u F l k = -2
    · rw [pofS_stop z, pofS_stop (by rw [← e]; exact z)]
    · have hr := lndS_rng (b := b) (c := k) hT hl
      have pf := pofS_go (b := b) (u := u) (leaf := l) (c := k) (k := q + 1) (F := F) (by omega) z
      have pg := pofS_go (b := c) (u := w) (leaf := l) (c := k) (k := q + 1) (F := G) (by omega) (by rw [← e]; exact z)
      rw [pf, pg, Nat.add_sub_cancel, ← e]
      have hp := hS.pay (k := k) (f := lndS b u F l k) hd hU hT hl (by omega)
      unfold dj at hd hd2
      have ih := AcA.pof (l := l) (k := k) hd hd2 q (payS b u l (lndS b u F l k) k F) (payS c w l (lndS b u F l k) k G) (hU.fr (fun a z1 z2 => payS_r (by omega)) (fun a z1 z2 => payS_r (by omega))) hp (by rw [payS_r (a := u) (by omega), payS_r (a := u + 2) (by omega)]; exact hT) (by rw [payS_r (a := u) (by omega)]; exact hl)
      show _ + 1 = _ + 1
      rw [ih]
theorem StA.u0 {b u K x : Int} {F : Hp} (hd : dj b u) (h : StA b u K F) : StA b u K (up F b 0 x) := by
  obtain ⟨h1, h2, h3, h4, h5⟩ := h
  unfold dj at hd
  refine ⟨h1.fr (fun a z1 z2 => up_r (by omega)), h2.fr (fun a z1 z2 => up_r (by omega)) (fun a z => up_r (by omega)), ?_, ?_, h5.fr (fun a z1 z2 => up_r (by omega)) (fun a z => up_r (by omega))⟩
  · unfold QuI at h3 ⊢
    rw [up_i (by decide), up_r (a := u) (by omega), up_r (a := u + 4) (by omega), up_r (a := b + 9) (by omega), up_r (a := b + 11) (by omega), up_r (a := b + 12) (by omega)]
    exact h3
  · unfold LoI at h4 ⊢
    rw [up_i (i := 0) (b := 1) (by decide), up_r (a := b + 19) (by omega), up_r (a := b + 23) (by omega), up_r (a := b + 21) (by omega)]
    exact h4
theorem AgS.u0 {b u c x : Int} {F G : Hp} (hd : dj b u) (h : AgS b u F c G) : AgS b u (up F b 0 x) c G := by
  unfold dj at hd
  unfold AgS at h ⊢
  rw [up_i (by decide), up_r (a := u) (by omega)]
  rw [up_r (a := b + 8) (by omega), up_r (a := b + 19) (by omega), up_r (a := b + 1) (by omega), up_r (a := b + 2) (by omega), up_r (a := b + 3) (by omega), up_r (a := b + 5) (by omega), up_r (a := b + 6) (by omega), up_r (a := b + 7) (by omega), up_r (a := b + 9) (by omega), up_r (a := b + 14) (by omega), up_r (a := b + 15) (by omega), up_r (a := b + 16) (by omega), up_r (a := b + 17) (by omega), up_r (a := b + 18) (by omega), up_r (a := b + 10) (by omega), up_r (a := b + 11) (by omega), up_r (a := b + 12) (by omega), up_r (a := b + 20) (by omega), up_r (a := b + 21) (by omega), up_r (a := b + 22) (by omega), up_r (a := b + 23) (by omega)]
  exact h
theorem g_setRate {u v K r r' n x : Int} {F F1 F2 : Hp} (h : Gl u v K F) (h1 : (¬ ((0 ≤ n ∧ n < F u 0) ∧ (0 ≤ x ∧ x ≤ 99)) ∧ r = -1 ∧ F1 = F) ∨ (((0 ≤ n ∧ n < F u 0) ∧ (0 ≤ x ∧ x ≤ 99)) ∧ r = F (40 + 1) n ∧ F1 = up F (40 + 1) n x)) (h2 : ∃ H : Hp, H = up F1 136 0 0 ∧ ((¬ ((0 ≤ n ∧ n < H 136 3) ∧ 0 ≤ x ∧ x ≤ 99) ∧ r' = -1 ∧ F2 = H) ∨ (((0 ≤ n ∧ n < H 136 3) ∧ 0 ≤ x ∧ x ≤ 99) ∧ r' = H 137 (99 + n) ∧ F2 = up H 137 (99 + n) x))) : r = r' ∧ Gl u v K F2 := by
  obtain ⟨H, hH, h2⟩ := h2
  have hu2 : u = 4 ∨ u = 23 := h.1.1.1
  have hN := h.N12
  have hK := h.2.1.2.2.2.1
  have hid : F1 = F → F2 = H → ∀ K' : Int, K ≤ K' ∧ K' ≤ 1000000 → Gl u v K' F2 := fun a b K' hk => by rw [b, hH, a]; exact (h.z (x := 0)).mono hk
  have hF1 : ∀ a : Int, ¬ (40 ≤ a ∧ a < 88) → a ≠ 22 → F1 a = F a := fun a z1 z2 => by
    rcases h1 with ⟨-, -, e⟩ | ⟨-, -, e⟩
    · rw [e]
    · rw [e, up_r (by omega)]
  obtain ⟨z6, zr, zv, zl⟩ := hi_z hH (fun a z => hF1 a (by omega) (by omega))
  rw [z6 3 (by decide), zr 137 (by decide)] at h2
  have hNN := h.N
  rcases h1 with ⟨n1, a2, a3⟩ | ⟨n1, a2, a3⟩
  · rcases h2 with ⟨-, b2, b3⟩ | ⟨m1, -⟩
    · exact ⟨a2.trans b2.symm, hid a3 b3 _ (by omega)⟩
    · exact absurd (by omega) n1
  · rcases h2 with ⟨m1, -⟩ | ⟨m1, b2, b3⟩
    · exact absurd (by omega) m1
    · refine ⟨by rw [a2, b2]; exact (h.S n1.1.1 n1.1.2).1, ?_⟩
      have b4 : Fr (up F1 136 0 0) F2 := by
        rw [b3, hH]
        exact Fr.rf.up (by omega)
      refine g_fr h (by omega) hF1 b4 ?_ ?_
      · rw [a3]
        exact h.sta.row h.dj.1 (by omega)
      · rw [a3, b3, vu_1 (by omega), zv 0]
        exact Ag.row (o := 1) h.dj.1 (by omega) h.2.2.2.1
theorem g_setCeiling {u v K r r' n x : Int} {F F1 F2 : Hp} (h : Gl u v K F) (h1 : (¬ ((0 ≤ n ∧ n < F u 0) ∧ (0 ≤ x ∧ x ≤ 999)) ∧ r = -1 ∧ F1 = F) ∨ (((0 ≤ n ∧ n < F u 0) ∧ (0 ≤ x ∧ x ≤ 999)) ∧ r = F (40 + 2) n ∧ F1 = up F (40 + 2) n x)) (h2 : ∃ H : Hp, H = up F1 136 0 0 ∧ ((¬ ((0 ≤ n ∧ n < H 136 3) ∧ 0 ≤ x ∧ x ≤ 999) ∧ r' = -1 ∧ F2 = H) ∨ (((0 ≤ n ∧ n < H 136 3) ∧ 0 ≤ x ∧ x ≤ 999) ∧ r' = H 137 (111 + n) ∧ F2 = up H 137 (111 + n) x))) : r = r' ∧ Gl u v K F2 := by
  obtain ⟨H, hH, h2⟩ := h2
  have hu2 : u = 4 ∨ u = 23 := h.1.1.1
  have hN := h.N12
  have hK := h.2.1.2.2.2.1
  have hid : F1 = F → F2 = H → ∀ K' : Int, K ≤ K' ∧ K' ≤ 1000000 → Gl u v K' F2 := fun a b K' hk => by rw [b, hH, a]; exact (h.z (x := 0)).mono hk
  have hF1 : ∀ a : Int, ¬ (40 ≤ a ∧ a < 88) → a ≠ 22 → F1 a = F a := fun a z1 z2 => by
    rcases h1 with ⟨-, -, e⟩ | ⟨-, -, e⟩
    · rw [e]
    · rw [e, up_r (by omega)]
  obtain ⟨z6, zr, zv, zl⟩ := hi_z hH (fun a z => hF1 a (by omega) (by omega))
  rw [z6 3 (by decide), zr 137 (by decide)] at h2
  have hNN := h.N
  rcases h1 with ⟨n1, a2, a3⟩ | ⟨n1, a2, a3⟩
  · rcases h2 with ⟨-, b2, b3⟩ | ⟨m1, -⟩
    · exact ⟨a2.trans b2.symm, hid a3 b3 _ (by omega)⟩
    · exact absurd (by omega) n1
  · rcases h2 with ⟨m1, -⟩ | ⟨m1, b2, b3⟩
    · exact absurd (by omega) m1
    · refine ⟨by rw [a2, b2]; exact (h.S n1.1.1 n1.1.2).2.1, ?_⟩
      have b4 : Fr (up F1 136 0 0) F2 := by
        rw [b3, hH]
        exact Fr.rf.up (by omega)
      refine g_fr h (by omega) hF1 b4 ?_ ?_
      · rw [a3]
        exact h.sta.row h.dj.1 (by omega)
      · rw [a3, b3, vu_2 (by omega), zv 0]
        exact Ag.row (o := 2) h.dj.1 (by omega) h.2.2.2.1
theorem g_setWeight {u v K r r' n x : Int} {F F1 F2 : Hp} (h : Gl u v K F) (h1 : (¬ ((0 ≤ n ∧ n < F u 0) ∧ (1 ≤ x ∧ x ≤ 9)) ∧ r = -1 ∧ F1 = F) ∨ (((0 ≤ n ∧ n < F u 0) ∧ (1 ≤ x ∧ x ≤ 9)) ∧ r = F (40 + 3) n ∧ F1 = up F (40 + 3) n x)) (h2 : ∃ H : Hp, H = up F1 136 0 0 ∧ ((¬ ((0 ≤ n ∧ n < H 136 3) ∧ 1 ≤ x ∧ x ≤ 9) ∧ r' = -1 ∧ F2 = H) ∨ (((0 ≤ n ∧ n < H 136 3) ∧ 1 ≤ x ∧ x ≤ 9) ∧ r' = H 137 (123 + n) ∧ F2 = up H 137 (123 + n) x))) : r = r' ∧ Gl u v K F2 := by
  obtain ⟨H, hH, h2⟩ := h2
  have hu2 : u = 4 ∨ u = 23 := h.1.1.1
  have hN := h.N12
  have hK := h.2.1.2.2.2.1
  have hid : F1 = F → F2 = H → ∀ K' : Int, K ≤ K' ∧ K' ≤ 1000000 → Gl u v K' F2 := fun a b K' hk => by rw [b, hH, a]; exact (h.z (x := 0)).mono hk
  have hF1 : ∀ a : Int, ¬ (40 ≤ a ∧ a < 88) → a ≠ 22 → F1 a = F a := fun a z1 z2 => by
    rcases h1 with ⟨-, -, e⟩ | ⟨-, -, e⟩
    · rw [e]
    · rw [e, up_r (by omega)]
  obtain ⟨z6, zr, zv, zl⟩ := hi_z hH (fun a z => hF1 a (by omega) (by omega))
  rw [z6 3 (by decide), zr 137 (by decide)] at h2
  have hNN := h.N
  rcases h1 with ⟨n1, a2, a3⟩ | ⟨n1, a2, a3⟩
  · rcases h2 with ⟨-, b2, b3⟩ | ⟨m1, -⟩
    · exact ⟨a2.trans b2.symm, hid a3 b3 _ (by omega)⟩
    · exact absurd (by omega) n1
  · rcases h2 with ⟨m1, -⟩ | ⟨m1, b2, b3⟩
    · exact absurd (by omega) m1
    · refine ⟨by rw [a2, b2]; exact (h.S n1.1.1 n1.1.2).2.2.1, ?_⟩
      have b4 : Fr (up F1 136 0 0) F2 := by
        rw [b3, hH]
        exact Fr.rf.up (by omega)
      refine g_fr h (by omega) hF1 b4 ?_ ?_
      · rw [a3]
        exact h.sta.row h.dj.1 (by omega)
      · rw [a3, b3, vu_3 (by omega), zv 0]
        exact Ag.row (o := 3) h.dj.1 (by omega) h.2.2.2.1
theorem g_clearQueue {u v K r r' l : Int} {F F1 F2 : Hp} (h : Gl u v K F) (h1 : (¬ (0 ≤ l ∧ l < F u 0 ∧ F (u + 4) l = 0) ∧ r = -1 ∧ F1 = F) ∨ ((0 ≤ l ∧ l < F u 0 ∧ F (u + 4) l = 0) ∧ r = F (40 + 9) l ∧ F1 = up F (40 + 9) l 0)) (h2 : ∃ H : Hp, H = up F1 136 0 0 ∧ ((¬ (0 ≤ l ∧ l < H 136 3 ∧ chlC (H 141) (H 136 3) l = 0) ∧ r' = -1 ∧ F2 = H) ∨ ((0 ≤ l ∧ l < H 136 3 ∧ chlC (H 141) (H 136 3) l = 0) ∧ r' = H 137 (135 + l) ∧ F2 = up H 137 (135 + l) 0))) : r = r' ∧ Gl u v K F2 := by
  obtain ⟨H, hH, h2⟩ := h2
  have hu2 : u = 4 ∨ u = 23 := h.1.1.1
  have hN := h.N12
  have hK := h.2.1.2.2.2.1
  have hid : F1 = F → F2 = H → ∀ K' : Int, K ≤ K' ∧ K' ≤ 1000000 → Gl u v K' F2 := fun a b K' hk => by rw [b, hH, a]; exact (h.z (x := 0)).mono hk
  have hF1 : ∀ a : Int, ¬ (40 ≤ a ∧ a < 88) → a ≠ 22 → F1 a = F a := fun a z1 z2 => by
    rcases h1 with ⟨-, -, e⟩ | ⟨-, -, e⟩
    · rw [e]
    · rw [e, up_r (by omega)]
  obtain ⟨z6, zr, zv, zl⟩ := hi_z hH (fun a z => hF1 a (by omega) (by omega))
  rw [z6 3 (by decide), zr 137 (by decide), zr 141 (by decide)] at h2
  have hq := h.lf l
  rcases h1 with ⟨n1, a2, a3⟩ | ⟨n1, a2, a3⟩
  · rcases h2 with ⟨-, b2, b3⟩ | ⟨m1, -⟩
    · exact ⟨a2.trans b2.symm, hid a3 b3 _ (by omega)⟩
    · exact absurd (hq.mpr m1) n1
  · rcases h2 with ⟨m1, -⟩ | ⟨m1, b2, b3⟩
    · exact absurd (hq.mp n1) m1
    · refine ⟨by rw [a2, b2]; exact (h.S n1.1 n1.2.1).2.2.2.2.2.2, ?_⟩
      have b4 : Fr (up F1 136 0 0) F2 := by
        rw [b3, hH]
        exact Fr.rf.up (by omega)
      refine g_fr h (by omega) hF1 b4 ?_ ?_
      · rw [a3]
        exact h.sta.clr h.dj.1
      · rw [a3, b3, vu_9 (by omega), zv 0]
        exact Ag.clr h.dj.1 h.2.2.2.1
theorem g_repeats {u v K r r' l c : Int} {F F1 F2 : Hp} (h : Gl u v K F) (h1 : (¬ (0 ≤ l ∧ l < F u 0 ∧ F (u + 4) l = 0 ∧ 1 ≤ c ∧ c ≤ 99) ∧ r = -1 ∧ F1 = F) ∨ ((0 ≤ l ∧ l < F u 0 ∧ F (u + 4) l = 0 ∧ 1 ≤ c ∧ c ≤ 99) ∧ r = (pofS 64 u l c 999 (acT 40 64 F)).1 ∧ F1 = (pofS 64 u l c 999 (acT 40 64 F)).2)) (h2 : ∃ H : Hp, H = up F1 136 0 0 ∧ ((¬ (0 ≤ l ∧ l < H 136 3 ∧ chlC (H 141) (H 136 3) l = 0 ∧ 1 ≤ c ∧ c ≤ 99) ∧ r' = -1 ∧ F2 = H) ∨ ((0 ≤ l ∧ l < H 136 3 ∧ chlC (H 141) (H 136 3) l = 0 ∧ 1 ≤ c ∧ c ≤ 99) ∧ r' = (pofS 1000 1100 l c 999 (vw 0 H)).1 ∧ Sm H F2))) : r = r' ∧ Gl u v K F2 := by
  obtain ⟨H, hH, h2⟩ := h2
  have hu2 : u = 4 ∨ u = 23 := h.1.1.1
  have hN := h.N12
  have hK := h.2.1.2.2.2.1
  have hid : F1 = F → F2 = H → ∀ K' : Int, K ≤ K' ∧ K' ≤ 1000000 → Gl u v K' F2 := fun a b K' hk => by rw [b, hH, a]; exact (h.z (x := 0)).mono hk
  have ac : ∀ a : Int, ¬ (64 ≤ a ∧ a < 88) → acT 40 64 F a = F a := fun a z => by
    unfold acT
    simp (disch := omega) only [cpy_r]
  have hF1 : ∀ a : Int, ¬ (64 ≤ a ∧ a < 88) → a ≠ 22 → F1 a = F a := fun a z1 z2 => by
    rcases h1 with ⟨-, -, e⟩ | ⟨-, -, e⟩
    · rw [e]
    · rw [e, pofS_r (by omega), ac a z1]
  obtain ⟨z6, zr, zv, zl⟩ := hi_z hH (fun a z => hF1 a (by omega) (by omega))
  rw [z6 3 (by decide), zr 141 (by decide), zv 0] at h2
  have hq := h.aq l c
  rcases h1 with ⟨n1, a2, a3⟩ | ⟨n1, a2, a3⟩
  · rcases h2 with ⟨-, b2, b3⟩ | ⟨m1, -⟩
    · exact ⟨a2.trans b2.symm, hid a3 b3 _ (by omega)⟩
    · exact absurd (hq.mpr m1) n1
  · rcases h2 with ⟨m1, -⟩ | ⟨m1, b2, b3⟩
    · exact absurd (hq.mp n1) m1
    · rw [hH] at b3
      refine ⟨?_, g_sm h hF1 b3⟩
      rw [a2, b2]
      refine AcA.pof h.dj.2.1 dj1 999 _ _ (h.2.2.1.fr (fun a z1 z2 => ac a (by omega)) (fun a _ _ => rfl)) (fun n n0 n1 => ?_) (by rw [ac u (by omega), ac (u + 2) (by omega)]; exact h.sta.1.2.1) (by rw [ac u (by omega)]; exact n1.2.1)
      rw [ac u (by omega)] at n1
      have a := h.2.2.2.1.2.2.2.1 n n0 n1
      unfold acT
      simp (disch := omega) only [cpy_k, cpy_in, Int.zero_add, Int.sub_zero]
      exact ⟨a.2.2.2.1, a.2.2.2.2.1, a.2.2.2.2.2.1⟩

