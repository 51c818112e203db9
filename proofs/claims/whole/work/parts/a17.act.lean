/-! ticks, trials, settings, snapshots -/
theorem Ag.cp {b e u c : Int} {F G : Hp} (hbe : b + 24 ≤ e ∨ e + 24 ≤ b) (hd : dj e u) (hS : AgS b u F c G) (hA : SuI u F) (hQ : QuI b u F) (hL : LoI b F) : AgS e u (cpT b e F) c G := by
  obtain ⟨f1, f0, f8, f19, fA, fC, fQ, fL⟩ := cpT_f (e := b) (b := e) (F := F) (by omega)
  obtain ⟨e1, e2, e3, e4, e5, e6, e7⟩ := hS
  have hN := hA.1
  have hl := hL.1
  unfold dj at hd
  unfold AgS
  rw [cpT_r (a := u) (by omega), f1, f8, f19]
  refine ⟨e1, e2, e3, fun n h0 h1 => ?_, fun n h0 h1 => ?_, fun n h0 h1 k k0 k1 => ?_, fun k k0 k1 => ?_⟩
  · obtain ⟨a1, a2, a3, a5, a6, a7, a9⟩ := fA n h0 (by omega)
    rw [a1, a2, a3, a5, a6, a7, a9]
    exact e4 n h0 h1
  · obtain ⟨a1, a2, a3, a5, a6⟩ := fC n h0 (by omega)
    rw [a1, a2, a3, a5, a6]
    exact e5 n h0 h1
  · have q := (hQ.2.1 n h0 h1).1
    rw [(fA n h0 (by omega)).2.2.2.2.2.2] at k1
    obtain ⟨g0, g1, g2⟩ := fQ (n * 16 + k) (by omega) (by omega)
    rw [g0, g1, g2]
    exact e6 n h0 h1 k k0 k1
  · obtain ⟨g0, g1, g2, g3⟩ := fL k k0 (by omega)
    rw [g0, g1, g2, g3]
    exact e7 k k0 k1
theorem Ag.row {b u c n x o : Int} {F G : Hp} (hd : dj b u) (ho : o = 1 ∨ o = 2 ∨ o = 3) (hS : AgS b u F c G) : AgS b u (up F (b + o) n x) c (up G (c + o) n x) := by
  obtain ⟨e1, e2, e3, e4, e5, e6, e7⟩ := hS
  unfold dj at hd
  have key : ∀ a i : Int, F (b + a) i = G (c + a) i → up F (b + o) n x (b + a) i = up G (c + o) n x (c + a) i := fun a i e => by
    by_cases q : a = o ∧ i = n
    · rw [q.1, q.2, up_s, up_s]
    · rw [up_n (by omega), up_n (by omega)]
      exact e
  unfold AgS
  rw [up_r (a := u) (by omega), up_r (a := b) (by omega), up_r (a := c) (by omega)]
  refine ⟨e1, key 8 4 e2, key 19 0 e3, fun m h0 h1 => ?_, fun m h0 h1 => ?_, fun m h0 h1 k k0 k1 => ?_, fun k k0 k1 => ?_⟩
  · obtain ⟨q1, q2, q3, q5, q6, q7, q9⟩ := e4 m h0 h1
    exact ⟨key 1 m q1, key 2 m q2, key 3 m q3, key 5 m q5, key 6 m q6, key 7 m q7, key 9 m q9⟩
  · obtain ⟨q1, q2, q3, q5, q6⟩ := e5 m h0 h1
    exact ⟨key 14 m q1, key 15 m q2, key 16 m q3, key 17 m q5, key 18 m q6⟩
  · rw [up_r (a := b + 9) (by omega)] at k1
    obtain ⟨q1, q2, q3⟩ := e6 m h0 h1 k k0 k1
    exact ⟨key 10 _ q1, key 11 _ q2, key 12 _ q3⟩
  · rw [up_r (a := b + 19) (by omega)] at k1
    obtain ⟨q1, q2, q3, q4⟩ := e7 k k0 k1
    exact ⟨key 20 _ q1, key 21 _ q2, key 22 _ q3, key 23 _ q4⟩
theorem Ag.clr {b u c n : Int} {F G : Hp} (hd : dj b u) (hS : AgS b u F c G) : AgS b u (up F (b + 9) n 0) c (up G (c + 9) n 0) := by
  obtain ⟨e1, e2, e3, e4, e5, e6, e7⟩ := hS
  unfold dj at hd
  have key : ∀ a i : Int, F (b + a) i = G (c + a) i → up F (b + 9) n 0 (b + a) i = up G (c + 9) n 0 (c + a) i := fun a i e => by
    by_cases q : a = 9 ∧ i = n
    · rw [q.1, q.2, up_s, up_s]
    · rw [up_n (by omega), up_n (by omega)]
      exact e
  unfold AgS
  rw [up_r (a := u) (by omega), up_r (a := b) (by omega), up_r (a := c) (by omega)]
  refine ⟨e1, key 8 4 e2, key 19 0 e3, fun m h0 h1 => ?_, fun m h0 h1 => ?_, fun m h0 h1 k k0 k1 => ?_, fun k k0 k1 => ?_⟩
  · obtain ⟨q1, q2, q3, q5, q6, q7, q9⟩ := e4 m h0 h1
    exact ⟨key 1 m q1, key 2 m q2, key 3 m q3, key 5 m q5, key 6 m q6, key 7 m q7, key 9 m q9⟩
  · obtain ⟨q1, q2, q3, q5, q6⟩ := e5 m h0 h1
    exact ⟨key 14 m q1, key 15 m q2, key 16 m q3, key 17 m q5, key 18 m q6⟩
  · have k2 : k < F (b + 9) m := by
      by_cases y : m = n
      · rw [y, up_s] at k1; omega
      · rw [up_i y] at k1; exact k1
    obtain ⟨q1, q2, q3⟩ := e6 m h0 h1 k k0 k2
    exact ⟨key 10 _ q1, key 11 _ q2, key 12 _ q3⟩
  · rw [up_r (a := b + 19) (by omega)] at k1
    obtain ⟨q1, q2, q3, q4⟩ := e7 k k0 k1
    exact ⟨key 20 _ q1, key 21 _ q2, key 22 _ q3, key 23 _ q4⟩
theorem StA.row {b u K n x o : Int} {F : Hp} (hd : dj b u) (ho : (o = 1 ∧ 0 ≤ x ∧ x ≤ 99) ∨ (o = 2 ∧ 0 ≤ x ∧ x ≤ 999) ∨ (o = 3 ∧ 1 ≤ x ∧ x ≤ 9)) (h : StA b u K F) : StA b u K (up F (b + o) n x) := by
  obtain ⟨h1, h2, h3, h4, h5⟩ := h
  unfold dj at hd
  refine ⟨h1.fr (fun a z1 z2 => up_r (by omega)), fun m h0 hm => ?_, h3.fr (fun a z1 z2 => up_r (by omega)) (fun a z => up_r (by omega)), h4.fr (fun a z => up_r (by omega)), h5.fr (fun a z1 z2 => up_r (by omega)) (fun a z => up_r (by omega))⟩
  rw [up_r (a := u) (by omega)] at hm
  have a := h2 m h0 hm
  rw [up_r (a := b + 5) (by omega), up_r (a := b + 6) (by omega), up_r (a := b + 7) (by omega), up_r (a := u + 7) (by omega), up_r (a := u + 8) (by omega)]
  refine ⟨?_, ?_, ?_, a.2.2.2⟩
  · by_cases q : o = 1 ∧ m = n
    · rw [q.1, q.2, up_s]; omega
    · rw [up_n (by omega)]; exact a.1
  · by_cases q : o = 2 ∧ m = n
    · rw [q.1, q.2, up_s]; omega
    · rw [up_n (by omega)]; exact a.2.1
  · by_cases q : o = 3 ∧ m = n
    · rw [q.1, q.2, up_s]; omega
    · rw [up_n (by omega)]; exact a.2.2.1
theorem StA.clr {b u K n : Int} {F : Hp} (hd : dj b u) (h : StA b u K F) : StA b u K (up F (b + 9) n 0) := by
  obtain ⟨h1, h2, h3, h4, h5⟩ := h
  unfold dj at hd
  have k9 : ∀ m : Int, up F (b + 9) n 0 (b + 9) m = if m = n then 0 else F (b + 9) m := fun m => by
    by_cases y : m = n
    · rw [if_pos y, y, up_s]
    · rw [if_neg y, up_i y]
  refine ⟨h1.fr (fun a z1 z2 => up_r (by omega)), h2.fr (fun a z1 z2 => up_r (by omega)) (fun a z => up_r (by omega)), ⟨?_, fun m h0 hm => ?_, fun m h0 hm k k0 k1 => ?_⟩, h4.fr (fun a z => up_r (by omega)), fun m h0 hm => ?_⟩
  · rw [up_r (a := b) (by omega)]; exact h3.1
  · rw [up_r (a := u) (by omega)] at hm
    have a := h3.2.1 m h0 hm
    rw [k9, up_r (a := u + 4) (by omega)]
    by_cases y : m = n
    · rw [if_pos y]; exact ⟨by omega, fun _ => rfl⟩
    · rw [if_neg y]; exact a
  · rw [up_r (a := u) (by omega)] at hm
    rw [k9] at k1
    rw [up_r (a := b + 11) (by omega), up_r (a := b + 12) (by omega), up_r (a := b) (by omega)]
    refine h3.2.2 m h0 hm k k0 ?_
    split at k1 <;> omega
  · rw [up_r (a := u) (by omega)] at hm
    have a := h5 m h0 hm
    have c := (h3.2.1 m h0 hm).1
    rw [k9, up_r (a := b + 14) (by omega)]
    split <;> omega
/-- snapshots too may have changed -/
theorem Gl.gen {u v K : Int} {F G : Hp} (h : Gl u v K F) (hc : ∀ a : Int, a < 136 → ¬ (40 ≤ a) → G a = F a) (h6 : ∀ i : Int, i ≠ 0 → G 136 i = F 136 i) (hr : ∀ a : Int, 139 ≤ a → a < 158 → G a = F a) (hS : StA 40 u K G) (hA : AgS 40 u G 1000 (vw 0 G)) (k1 : G 88 0 = 0 ∨ G 88 0 = 1) (k2 : G 112 0 = 0 ∨ G 112 0 = 1) (s1 : G 88 0 = 1 → StA 88 u K G) (s2 : G 112 0 = 1 → StA 112 u K G) (hn : Sn u G) : Gl u v K G := by
  obtain ⟨⟨⟨g1, g2⟩, g3⟩, g4, g5, g6, g7, g8, g9, g10, g11⟩ := h
  have hu2 : u = 4 ∨ u = 23 := g1
  have e6 : G 136 3 = F 136 3 ∧ G 136 4 = F 136 4 ∧ G 136 5 = F 136 5 ∧ G 136 38 = F 136 38 := ⟨h6 3 (by decide), h6 4 (by decide), h6 5 (by decide), h6 38 (by decide)⟩
  have er : ∀ a : Int, a = 139 ∨ (141 ≤ a ∧ a ≤ 145) ∨ (150 ≤ a ∧ a ≤ 153) → G a = F a := fun a z => hr a (by omega) (by omega)
  refine ⟨⟨⟨g1, g2⟩, g3⟩, ?_, g5.fr (fun a z1 z2 => hc a (by omega) (by omega)) (fun a z1 z2 => sv_eq z1 e6 er), hA, ?_, hn, ?_, ?_, ?_⟩
  · obtain ⟨c1, c2, c3, c4, c5, c6, c7, c8, c9, c10⟩ := g4
    unfold CI
    rw [hc 0 (by omega) (by omega), hc 3 (by omega) (by omega), hc 1 (by omega) (by omega), hc 2 (by omega) (by omega)]
    exact ⟨c1, c2, hS, c4, c5, c6, k1, k2, s1, s2⟩
  · unfold Nm at g7 ⊢
    rw [hc u (by omega) (by omega), hr 139 (by omega) (by omega), hc (u + 1) (by omega) (by omega)]
    exact g7
  · unfold TxR at g9 ⊢
    rw [hc 1 (by omega) (by omega), hc 2 (by omega) (by omega), h6 14 (by decide), hr 146 (by omega) (by omega)]
    exact g9
  · rw [hc 3 (by omega) (by omega), h6 19 (by decide), h6 20 (by decide)]
    exact g10
  · unfold PZ at g11 ⊢
    rw [h6 14 (by decide), h6 17 (by decide), h6 18 (by decide), h6 21 (by decide), hr 146 (by omega) (by omega), hr 140 (by omega) (by omega), hr 149 (by omega) (by omega)]
    exact g11
theorem g_advance {u v K r r' t : Int} {F F1 F2 : Hp} (h : Gl u v K F) (h1 : (¬ (0 < F u 0 ∧ 1 ≤ t ∧ t ≤ 500 ∧ F 40 1 + t ≤ 5000) ∧ r = -1 ∧ F1 = F) ∨ ((0 < F u 0 ∧ 1 ≤ t ∧ t ≤ 500 ∧ F 40 1 + t ≤ 5000) ∧ r = (tksS 40 u t.toNat F).1 ∧ F1 = (tksS 40 u t.toNat F).2)) (h2 : ∃ H : Hp, H = up F1 136 0 0 ∧ ((¬ (1 ≤ t ∧ t ≤ 500 ∧ H 137 0 + t ≤ 5000 ∧ 0 < H 136 3) ∧ r' = -1 ∧ F2 = H) ∨ ((1 ≤ t ∧ t ≤ 500 ∧ H 137 0 + t ≤ 5000 ∧ 0 < H 136 3) ∧ r' = (tksS 1000 1100 t.toNat (vw 0 H)).1 ∧ Tv H (tksS 1000 1100 t.toNat (vw 0 H)).2 F2))) : r = r' ∧ Gl u v K F2 := by
  obtain ⟨H, hH, h2⟩ := h2
  have hu2 : u = 4 ∨ u = 23 := h.1.1.1
  have hN := h.N12
  have hK := h.2.1.2.2.2.1
  have hid : F1 = F → F2 = H → ∀ K' : Int, K ≤ K' ∧ K' ≤ 1000000 → Gl u v K' F2 := fun a b K' hk => by rw [b, hH, a]; exact (h.z (x := 0)).mono hk
  have hF1 : ∀ a : Int, ¬ (40 ≤ a ∧ a < 88) → a ≠ 22 → F1 a = F a := fun a z1 z2 => by
    rcases h1 with ⟨-, -, e⟩ | ⟨-, -, e⟩
    · rw [e]
    · rw [e, tksS_r (by omega)]
  obtain ⟨z6, zr, zv, zl⟩ := hi_z hH (fun a z => hF1 a (by omega) (by omega))
  rw [z6 3 (by decide), zr 137 (by decide), zv 0] at h2
  have hT := h.T
  have hNN := h.N
  rcases h1 with ⟨n1, a2, a3⟩ | ⟨n1, a2, a3⟩
  · rcases h2 with ⟨-, b2, b3⟩ | ⟨m1, -⟩
    · exact ⟨a2.trans b2.symm, hid a3 b3 _ (by omega)⟩
    · exact absurd (by omega) n1
  · rcases h2 with ⟨m1, -⟩ | ⟨m1, b2, b3⟩
    · exact absurd (by omega) m1
    · have e := Ag.tks h.dj.1 dj1 (by decide) h.2.2.1 h.2.2.2.1 h.sta t.toNat (by omega)
      refine ⟨by rw [a2, b2]; exact e.1, ?_⟩
      have b4 := b3.2.2
      rw [hH] at b4
      refine g_fr h (by omega) hF1 b4 ?_ ?_
      · rw [a3]
        exact (StA.tks h.dj.1 (by decide) h.sta t.toNat (by omega)).1
      · rw [a3]
        exact e.2.2.tr e.2.1.1 b3.1
theorem g_forecast {u v K r r' l t : Int} {F F1 F2 : Hp} (h : Gl u v K F) (h1 : (¬ ((0 ≤ l ∧ l < F u 0 ∧ F (u + 4) l = 0) ∧ (0 < F u 0 ∧ 1 ≤ t ∧ t ≤ 500 ∧ F 40 1 + t ≤ 5000)) ∧ r = -1 ∧ F1 = F) ∨ (((0 ≤ l ∧ l < F u 0 ∧ F (u + 4) l = 0) ∧ (0 < F u 0 ∧ 1 ≤ t ∧ t ≤ 500 ∧ F 40 1 + t ≤ 5000)) ∧ r = (tksS 64 u t.toNat (cpT 40 64 F)).2 (64 + 15) l - F (40 + 15) l ∧ F1 = (tksS 64 u t.toNat (cpT 40 64 F)).2)) (h2 : ∃ H : Hp, H = up F1 136 0 0 ∧ ((¬ (0 ≤ l ∧ l < H 136 3 ∧ chlC (H 141) (H 136 3) l = 0 ∧ 1 ≤ t ∧ t ≤ 500 ∧ H 137 0 + t ≤ 5000 ∧ 0 < H 136 3) ∧ r' = -1 ∧ F2 = H) ∨ ((0 ≤ l ∧ l < H 136 3 ∧ chlC (H 141) (H 136 3) l = 0 ∧ 1 ≤ t ∧ t ≤ 500 ∧ H 137 0 + t ≤ 5000 ∧ 0 < H 136 3) ∧ r' = (tksS 1000 1100 t.toNat (vw 0 H)).2 1015 l - H 137 (51 + l) ∧ Sm H F2))) : r = r' ∧ Gl u v K F2 := by
  obtain ⟨H, hH, h2⟩ := h2
  have hu2 : u = 4 ∨ u = 23 := h.1.1.1
  have hN := h.N12
  have hK := h.2.1.2.2.2.1
  have hid : F1 = F → F2 = H → ∀ K' : Int, K ≤ K' ∧ K' ≤ 1000000 → Gl u v K' F2 := fun a b K' hk => by rw [b, hH, a]; exact (h.z (x := 0)).mono hk
  have hF1 : ∀ a : Int, ¬ (64 ≤ a ∧ a < 88) → a ≠ 22 → F1 a = F a := fun a z1 z2 => by
    rcases h1 with ⟨-, -, e⟩ | ⟨-, -, e⟩
    · rw [e]
    · rw [e, tksS_r (by omega), cpT_r (by omega)]
  obtain ⟨z6, zr, zv, zl⟩ := hi_z hH (fun a z => hF1 a (by omega) (by omega))
  rw [z6 3 (by decide), zr 137 (by decide), zr 141 (by decide), zv 0] at h2
  have hT := h.T
  have hNN := h.N
  have hq := h.lf l
  rcases h1 with ⟨n1, a2, a3⟩ | ⟨⟨n0, n1⟩, a2, a3⟩
  · rcases h2 with ⟨-, b2, b3⟩ | ⟨⟨m1, m2, m3, m4⟩, -⟩
    · exact ⟨a2.trans b2.symm, hid a3 b3 _ (by omega)⟩
    · exact absurd ⟨hq.mpr ⟨m1, m2, m3⟩, by omega⟩ n1
  · rcases h2 with ⟨m1, -⟩ | ⟨-, b2, b3⟩
    · have y := hq.mp n0
      exact absurd ⟨y.1, y.2.1, y.2.2, by omega⟩ m1
    · have f1 := (cpT_f (F := F) (e := 40) (b := 64) (by omega)).1
      have e := Ag.tks (F := cpT 40 64 F) (K := K) h.dj.2.1 dj1 (by decide) (h.2.2.1.fr (fun a z1 z2 => cpT_r (by omega)) (fun a _ _ => rfl)) (Ag.cp (by omega) h.dj.2.1 h.2.2.2.1 h.sta.1 h.sta.2.2.1 h.sta.2.2.2.1) (h.sta.cp (by omega) h.dj.2.1) t.toNat (by rw [f1]; omega)
      have hl0 : (tksS 64 u t.toNat (cpT 40 64 F)).2 u 0 = F u 0 := by rw [tksS_r (by omega), cpT_r (by omega)]
      have e15 := (e.2.2.2.2.2.2.1 l n0.1 (by rw [hl0]; exact n0.2.1)).2.1
      rw [hH] at b3
      exact ⟨by rw [a2, b2, e15, (h.C n0.1 n0.2.1).2.1]; rfl, g_sm h hF1 b3⟩
theorem g_drainTime {u v K r r' l : Int} {F F1 F2 : Hp} (h : Gl u v K F) (h1 : (¬ (0 ≤ l ∧ l < F u 0 ∧ F (u + 4) l = 0) ∧ r = -1 ∧ F1 = F) ∨ ((0 ≤ l ∧ l < F u 0 ∧ F (u + 4) l = 0) ∧ r = drS 64 u l (min 500 (5000 - F 40 1)).toNat 0 (cpT 40 64 F) ∧ ∀ a : Int, a < 64 ∨ 64 + 23 < a → F1 a = F a)) (h2 : ∃ H : Hp, H = up F1 136 0 0 ∧ ((¬ (0 ≤ l ∧ l < H 136 3 ∧ chlC (H 141) (H 136 3) l = 0) ∧ r' = -1 ∧ F2 = H) ∨ ((0 ≤ l ∧ l < H 136 3 ∧ chlC (H 141) (H 136 3) l = 0) ∧ r' = drS 1000 1100 l (min 500 (5000 - H 137 0)).toNat 0 (vw 0 H) ∧ Sm H F2))) : r = r' ∧ Gl u v K F2 := by
  obtain ⟨H, hH, h2⟩ := h2
  have hu2 : u = 4 ∨ u = 23 := h.1.1.1
  have hN := h.N12
  have hK := h.2.1.2.2.2.1
  have hid : F1 = F → F2 = H → ∀ K' : Int, K ≤ K' ∧ K' ≤ 1000000 → Gl u v K' F2 := fun a b K' hk => by rw [b, hH, a]; exact (h.z (x := 0)).mono hk
  have hF1 : ∀ a : Int, ¬ (64 ≤ a ∧ a < 88) → a ≠ 22 → F1 a = F a := fun a z1 z2 => by
    rcases h1 with ⟨-, -, e⟩ | ⟨-, -, e⟩
    · rw [e]
    · exact e a (by omega)
  obtain ⟨z6, zr, zv, zl⟩ := hi_z hH (fun a z => hF1 a (by omega) (by omega))
  rw [z6 3 (by decide), zr 137 (by decide), zr 141 (by decide), zv 0] at h2
  have hT := h.T
  have hq := h.lf l
  rcases h1 with ⟨n1, a2, a3⟩ | ⟨n0, a2, a3⟩
  · rcases h2 with ⟨-, b2, b3⟩ | ⟨m1, -⟩
    · exact ⟨a2.trans b2.symm, hid a3 b3 _ (by omega)⟩
    · exact absurd (hq.mpr m1) n1
  · rcases h2 with ⟨m1, -⟩ | ⟨-, b2, b3⟩
    · exact absurd (hq.mp n0) m1
    · have f1 := (cpT_f (F := F) (e := 40) (b := 64) (by omega)).1
      have ht := h.sta.2.2.1.1
      have hl0 : cpT 40 64 F u 0 = F u 0 := by rw [cpT_r (by omega)]
      have e := Ag.drn (l := l) (K := K) h.dj.2.1 dj1 (by decide) (min 500 (5000 - F 40 1)).toNat 0 (cpT 40 64 F) (vw 0 F) (h.2.2.1.fr (fun a z1 z2 => cpT_r (by omega)) (fun a _ _ => rfl)) (Ag.cp (by omega) h.dj.2.1 h.2.2.2.1 h.sta.1 h.sta.2.2.1 h.sta.2.2.2.1) (h.sta.cp (by omega) h.dj.2.1) (by rw [f1]; omega) n0.1 (by rw [hl0]; exact n0.2.1)
      rw [hH] at b3
      exact ⟨by rw [a2, b2, e, hT.1], g_sm h hF1 b3⟩

