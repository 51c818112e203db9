/-! what a step of both leaves of the relation -/
theorem hi_z {F F1 H : Hp} (hH : H = up F1 136 0 0) (hF : ∀ a : Int, 136 ≤ a → F1 a = F a) : (∀ i : Int, i ≠ 0 → H 136 i = F 136 i) ∧ (∀ a : Int, 136 < a → H a = F a) ∧ (∀ o : Int, vw o H = vw o F) ∧ (∀ a : Int, a < 136 → H a = F1 a) := by
  subst hH
  exact ⟨fun i z => by rw [up_i z, hF 136 (by decide)], fun a z => by rw [up_r (by omega), hF a (by omega)], fun o => by rw [vw_z, vw_lo hF], fun a z => up_r (by omega)⟩
/-- the class's state and the reference's first row were changed -/
theorem g_fr {u v K K' : Int} {F F1 F2 : Hp} (h : Gl u v K F) (hK : K ≤ K' ∧ K' ≤ 1000000) (h1 : ∀ a : Int, ¬ (40 ≤ a ∧ a < 88) → a ≠ 22 → F1 a = F a) (h2 : Fr (up F1 136 0 0) F2) (hS : StA 40 u K' F1) (hA : AgS 40 u F1 1000 (vw 0 F2)) : Gl u v K' F2 := by
  have hu2 : u = 4 ∨ u = 23 := h.1.1.1
  have lo : ∀ a : Int, a < 136 → F2 a = F1 a := fun a z => by rw [h2.1 a (by omega), up_r (by omega)]
  refine h.st hK (fun a z1 z2 z3 => by rw [lo a z1, h1 a z2 z3]) (fun i z1 z2 => by rw [h2.1 136 (by decide), up_i z1, h1 136 (by omega) (by decide)]) (fun i z1 z2 => by rw [h2.2 i z1, up_k (by decide), h1 137 (by omega) (by decide)]) (fun a z1 z2 => by rw [h2.1 a (by omega), up_r (by omega), h1 a (by omega) (by omega)]) ?_ ?_
  · exact hS.fr2 (fun a z1 z2 => lo a (by omega)) (fun a z1 z2 => lo a (by omega))
  · exact hA.frL (lo u (by omega)) (fun a z1 z2 => lo a (by omega))
/-- only rows of trials were changed -/
theorem g_sm {u v K : Int} {F F1 F2 : Hp} (h : Gl u v K F) (h1 : ∀ a : Int, ¬ (64 ≤ a ∧ a < 88) → a ≠ 22 → F1 a = F a) (h2 : Sm (up F1 136 0 0) F2) : Gl u v K F2 := by
  have hu2 : u = 4 ∨ u = 23 := h.1.1.1
  have hK := h.2.1.2.2.2.1
  have lo : ∀ a : Int, a < 136 → F2 a = F1 a := fun a z => by rw [h2.1 a (by omega), up_r (by omega)]
  have lo2 : ∀ a : Int, a < 136 → ¬ (64 ≤ a ∧ a < 88) → a ≠ 22 → F2 a = F a := fun a z1 z2 z3 => by rw [lo a z1, h1 a z2 z3]
  have e6 : ∀ i : Int, i ≠ 0 → F2 136 i = F 136 i := fun i z1 => by rw [h2.1 136 (by decide), up_i z1, h1 136 (by omega) (by decide)]
  have er : ∀ a : Int, 138 ≤ a → F2 a = F a := fun a z1 => by rw [h2.1 a (by omega), up_r (by omega), h1 a (by omega) (by omega)]
  have e7 : ∀ i : Int, 0 ≤ i → i < 2457 → F2 137 i = F 137 i := fun i z1 z2 => by rw [h2.2 i z1 z2, up_k (by decide), h1 137 (by omega) (by decide)]
  have ev : vw 0 F2 = vw 0 F := vw_fr (fun j z1 z2 => e7 j z1 (by omega)) ⟨e6 3 (by decide), e6 4 (by decide), e6 5 (by decide), e6 38 (by decide)⟩ (fun a z => er a (by omega))
  refine h.st ⟨Int.le_refl _, hK⟩ (fun a z1 z2 z3 => lo2 a z1 (by omega) z3) (fun i z1 z2 => e6 i z1) (fun i z1 z2 => e7 i (by omega) z2) (fun a z1 z2 => er a z1) ?_ ?_
  · exact h.sta.fr2 (fun a z1 z2 => lo2 a (by omega) (by omega) (by omega)) (fun a z1 z2 => lo2 a (by omega) (by omega) (by omega))
  · rw [ev]
    exact h.2.2.2.1.frL (lo2 u (by omega) (by omega) (by omega)) (fun a z1 z2 => lo2 a (by omega) (by omega) (by omega))
theorem Gl.dj {u v K : Int} {F : Hp} (h : Gl u v K F) : Jvm.Pilot.CRateLimiterLaw_law_r9152_2bcaae.dj 40 u ∧ Jvm.Pilot.CRateLimiterLaw_law_r9152_2bcaae.dj 64 u ∧ Jvm.Pilot.CRateLimiterLaw_law_r9152_2bcaae.dj 88 u ∧ Jvm.Pilot.CRateLimiterLaw_law_r9152_2bcaae.dj 112 u := by
  have hu2 : u = 4 ∨ u = 23 := h.1.1.1
  unfold Jvm.Pilot.CRateLimiterLaw_law_r9152_2bcaae.dj
  omega
theorem Ag.put {b c u l k x y : Int} {F G : Hp} (hd : dj b u) (hS : AgS b u F c G) (e : x = y) (hl : 0 ≤ l ∧ l < F u 0) (hq : ∀ n : Int, 0 ≤ n → n < F u 0 → 0 ≤ F (b + 9) n ∧ F (b + 9) n ≤ 16) (h16 : F (b + 9) l < 16) : AgS b u (putS b l k x F) c (putS c l k y G) := by
  obtain ⟨e1, e2, e3, e4, e5, e6, e7⟩ := hS
  have hl9 := (e4 l hl.1 hl.2).2.2.2.2.2.2
  unfold AgS
  rw [putS_r (a := u) (by omega), putS_r (a := b) (by omega), putS_r (a := c) (by omega), putS_r (a := b + 19) (by omega), putS_r (a := c + 19) (by omega)]
  refine ⟨e1, ?_, e3, fun n h0 h1 => ?_, fun n h0 h1 => ?_, fun n h0 h1 j k0 k1 => ?_, fun j k0 k1 => ?_⟩
  · unfold putS
    rw [up_s, up_s, e2]
  · obtain ⟨q1, q2, q3, q5, q6, q7, q9⟩ := e4 n h0 h1
    rw [putS_r (a := b + 1) (by omega), putS_r (a := c + 1) (by omega), putS_r (a := b + 2) (by omega), putS_r (a := c + 2) (by omega), putS_r (a := b + 3) (by omega), putS_r (a := c + 3) (by omega), putS_r (a := b + 5) (by omega), putS_r (a := c + 5) (by omega), putS_r (a := b + 6) (by omega), putS_r (a := c + 6) (by omega), putS_r (a := b + 7) (by omega), putS_r (a := c + 7) (by omega), putS_9, putS_9, q9]
    exact ⟨q1, q2, q3, q5, q6, q7, rfl⟩
  · rw [putS_r (a := b + 14) (by omega), putS_r (a := c + 14) (by omega), putS_r (a := b + 15) (by omega), putS_r (a := c + 15) (by omega), putS_r (a := b + 16) (by omega), putS_r (a := c + 16) (by omega), putS_r (a := b + 17) (by omega), putS_r (a := c + 17) (by omega), putS_r (a := b + 18) (by omega), putS_r (a := c + 18) (by omega)]
    exact e5 n h0 h1
  · rw [putS_9] at k1
    have p1 := putS_c (b := b) (leaf := l) (cost := k) (time := x) (j := n * 16 + j) (F := F)
    have p2 := putS_c (b := c) (leaf := l) (cost := k) (time := y) (j := n * 16 + j) (F := G)
    rw [p1.1, p1.2.1, p1.2.2, p2.1, p2.2.1, p2.2.2, ← hl9, ← e2, e]
    have qn := hq n h0 h1
    have ql := hq l hl.1 hl.2
    by_cases z : n * 16 + j = l * 16 + F (b + 9) l
    · rw [if_pos z, if_pos z, if_pos z, if_pos z, if_pos z, if_pos z]
      exact ⟨rfl, rfl, rfl⟩
    · rw [if_neg z, if_neg z, if_neg z, if_neg z, if_neg z, if_neg z]
      refine e6 n h0 h1 j k0 ?_
      by_cases y : n = l
      · subst y
        rw [if_pos rfl] at k1
        omega
      · rw [if_neg y] at k1
        exact k1
  · rw [putS_r (a := b + 20) (by omega), putS_r (a := c + 20) (by omega), putS_r (a := b + 21) (by omega), putS_r (a := c + 21) (by omega), putS_r (a := b + 22) (by omega), putS_r (a := c + 22) (by omega), putS_r (a := b + 23) (by omega), putS_r (a := c + 23) (by omega)]
    exact e7 j k0 k1
theorem StA.put {b u K leaf c : Int} {F : Hp} (hd : dj b u) (h : StA b u K F) (hlf : 0 ≤ leaf ∧ leaf < F u 0) (hc : 1 ≤ c ∧ c ≤ 99) (hq : F (b + 9) leaf < 16) (hcc : F (u + 4) leaf = 0) : StA b u (K + 99) (putS b leaf c (F b 1) F) := by
  obtain ⟨h1, h2, h3, h4, h5⟩ := h
  refine ⟨h1.fr (fun a z1 z2 => putS_r (by omega)), h2.fr (fun a z1 z2 => putS_r (by omega)) (fun a z => putS_r (by omega)), h3.put hd hlf hc hq hcc, h4.fr (fun a z => putS_r (by omega)), fun n h0 hn => ?_⟩
  rw [putS_r (a := u) (by omega)] at hn
  have a := h5 n h0 hn
  rw [putS_9, putS_r (a := b + 14) (by omega)]
  split <;> omega
theorem StA.drp {b u K l x : Int} {F : Hp} (hd : dj b u) (h : StA b u K F) : StA b u K (up F (b + 18) l x) := by
  obtain ⟨h1, h2, h3, h4, h5⟩ := h
  exact ⟨h1.fr (fun a z1 z2 => up_r (by omega)), h2.fr (fun a z1 z2 => up_r (by omega)) (fun a z => up_r (by omega)), h3.fr (fun a z1 z2 => up_r (by omega)) (fun a z => up_r (by omega)), h4.fr (fun a z => up_r (by omega)), h5.fr (fun a z1 z2 => up_r (by omega)) (fun a z => up_r (by omega))⟩
theorem g_acquire {u v K r r' l c : Int} {F F1 F2 : Hp} (h : Gl u v K F) (hk : K + 99 ≤ 1000000) (h1 : (¬ (0 ≤ l ∧ l < F u 0 ∧ F (u + 4) l = 0 ∧ 1 ≤ c ∧ c ≤ 99) ∧ r = -1 ∧ F1 = F) ∨ (((0 ≤ l ∧ l < F u 0 ∧ F (u + 4) l = 0 ∧ 1 ≤ c ∧ c ≤ 99) ∧ lndS 40 u F l c = -2) ∧ r = -2 ∧ F1 = F) ∨ (((0 ≤ l ∧ l < F u 0 ∧ F (u + 4) l = 0 ∧ 1 ≤ c ∧ c ≤ 99) ∧ lndS 40 u F l c ≠ -2) ∧ r = F (u + 3) l - F (u + 3) (lndS 40 u F l c) ∧ F1 = sndS 40 u l (lndS 40 u F l c) c F)) (h2 : ∃ H : Hp, H = up F1 136 0 0 ∧ ((¬ (0 ≤ l ∧ l < H 136 3 ∧ chlC (H 141) (H 136 3) l = 0 ∧ 1 ≤ c ∧ c ≤ 99) ∧ r' = -1 ∧ F2 = H) ∨ (((0 ≤ l ∧ l < H 136 3 ∧ chlC (H 141) (H 136 3) l = 0 ∧ 1 ≤ c ∧ c ≤ 99) ∧ lndS 1000 1100 (vw 0 H) l c = -2) ∧ r' = -2 ∧ F2 = H) ∨ (((0 ≤ l ∧ l < H 136 3 ∧ chlC (H 141) (H 136 3) l = 0 ∧ 1 ≤ c ∧ c ≤ 99) ∧ lndS 1000 1100 (vw 0 H) l c ≠ -2) ∧ r' = dptF (H 141) 13 l - dptF (H 141) 13 (lndS 1000 1100 (vw 0 H) l c) ∧ vw 0 F2 = sndS 1000 1100 l (lndS 1000 1100 (vw 0 H) l c) c (vw 0 H) ∧ Fr H F2))) : r = r' ∧ Gl u v (K + 99) F2 := by
  obtain ⟨H, hH, h2⟩ := h2
  have hu2 : u = 4 ∨ u = 23 := h.1.1.1
  have hN := h.N12
  have hK := h.2.1.2.2.2.1
  have hid : F1 = F → F2 = H → ∀ K' : Int, K ≤ K' ∧ K' ≤ 1000000 → Gl u v K' F2 := fun a b K' hk => by rw [b, hH, a]; exact (h.z (x := 0)).mono hk
  have hF1 : ∀ a : Int, ¬ (40 ≤ a ∧ a < 88) → a ≠ 22 → F1 a = F a := fun a z1 z2 => by
    rcases h1 with ⟨-, -, e⟩ | ⟨-, -, e⟩ | ⟨-, -, e⟩
    · rw [e]
    · rw [e]
    · rw [e, sndS_r (by omega)]
  obtain ⟨z6, zr, zv, zl⟩ := hi_z hH (fun a z => hF1 a (by omega) (by omega))
  rw [z6 3 (by decide), zr 141 (by decide), zv 0] at h2
  have hq := h.aq l c
  have hln : ∀ z : 0 ≤ l ∧ l < F u 0 ∧ F (u + 4) l = 0 ∧ 1 ≤ c ∧ c ≤ 99, lndS 40 u F l c = lndS 1000 1100 (vw 0 F) l c := fun z => h.lnd z.2.1
  rcases h1 with ⟨n1, a2, a3⟩ | ⟨⟨n1, n2⟩, a2, a3⟩ | ⟨⟨n1, n2⟩, a2, a3⟩
  · rcases h2 with ⟨-, b2, b3⟩ | ⟨⟨m1, -⟩, -⟩ | ⟨⟨m1, -⟩, -⟩
    · exact ⟨a2.trans b2.symm, hid a3 b3 _ (by omega)⟩
    · exact absurd (hq.mpr m1) n1
    · exact absurd (hq.mpr m1) n1
  · rcases h2 with ⟨m1, -⟩ | ⟨-, b2, b3⟩ | ⟨⟨m1, m2⟩, -⟩
    · exact absurd (hq.mp n1) m1
    · exact ⟨a2.trans b2.symm, hid a3 b3 _ (by omega)⟩
    · exact absurd ((hln n1).symm.trans n2) m2
  · rcases h2 with ⟨m1, -⟩ | ⟨⟨m1, m2⟩, -⟩ | ⟨⟨m1, m2⟩, b2, b3, b4⟩
    · exact absurd (hq.mp n1) m1
    · exact absurd ((hln n1).trans m2) n2
    · have hr := lndS_rng (b := 40) (c := c) h.sta.1.2.1 n1.2.1
      have hf : 0 ≤ lndS 40 u F l c ∧ lndS 40 u F l c < F u 0 := by omega
      rw [← hln n1] at b2 b3
      refine ⟨by rw [a2, b2, (h.U n1.1 n1.2.1).2.1, (h.U hf.1 hf.2).2.1], ?_⟩
      rw [hH] at b4
      refine g_fr h (by omega) hF1 b4 ?_ ?_
      · rw [a3]
        exact StA.snd h.dj.1 (by decide) h.sta (lndS_ok h.sta.1.2.1 n1.2.1 n2) ⟨n1.1, n1.2.1⟩ ⟨n1.2.2.2.1, n1.2.2.2.2⟩
      · rw [a3, b3]
        exact Ag.snd h.dj.1 dj1 h.2.2.1 h.2.2.2.1 h.sta.1.2.1 h.sta.2.2.2.1.1 n1.2.1 hf
theorem g_enqueue {u v K r r' l c : Int} {F F1 F2 : Hp} (h : Gl u v K F) (hk : K + 99 ≤ 1000000) (h1 : (¬ (0 ≤ l ∧ l < F u 0 ∧ F (u + 4) l = 0 ∧ 1 ≤ c ∧ c ≤ 99) ∧ r = -1 ∧ F1 = F) ∨ (((0 ≤ l ∧ l < F u 0 ∧ F (u + 4) l = 0 ∧ 1 ≤ c ∧ c ≤ 99) ∧ 16 ≤ F (40 + 9) l) ∧ r = -2 ∧ F1 = up F (40 + 18) l (F (40 + 18) l + 1)) ∨ (((0 ≤ l ∧ l < F u 0 ∧ F (u + 4) l = 0 ∧ 1 ≤ c ∧ c ≤ 99) ∧ F (40 + 9) l < 16) ∧ r = F (40 + 8) 4 ∧ F1 = putS 40 l c (F 40 1) F)) (h2 : ∃ H : Hp, H = up F1 136 0 0 ∧ ((¬ (0 ≤ l ∧ l < H 136 3 ∧ chlC (H 141) (H 136 3) l = 0 ∧ 1 ≤ c ∧ c ≤ 99) ∧ r' = -1 ∧ F2 = H) ∨ (((0 ≤ l ∧ l < H 136 3 ∧ chlC (H 141) (H 136 3) l = 0 ∧ 1 ≤ c ∧ c ≤ 99) ∧ 16 ≤ H 137 (135 + l)) ∧ r' = -2 ∧ F2 = up H 137 (87 + l) (H 137 (87 + l) + 1)) ∨ (((0 ≤ l ∧ l < H 136 3 ∧ chlC (H 141) (H 136 3) l = 0 ∧ 1 ≤ c ∧ c ≤ 99) ∧ H 137 (135 + l) < 16) ∧ r' = H 137 1 ∧ vw 0 F2 = putS 1000 l c (H 137 0) (vw 0 H) ∧ Fr H F2))) : r = r' ∧ Gl u v (K + 99) F2 := by
  obtain ⟨H, hH, h2⟩ := h2
  have hu2 : u = 4 ∨ u = 23 := h.1.1.1
  have hN := h.N12
  have hK := h.2.1.2.2.2.1
  have hid : F1 = F → F2 = H → ∀ K' : Int, K ≤ K' ∧ K' ≤ 1000000 → Gl u v K' F2 := fun a b K' hk => by rw [b, hH, a]; exact (h.z (x := 0)).mono hk
  have hF1 : ∀ a : Int, ¬ (40 ≤ a ∧ a < 88) → a ≠ 22 → F1 a = F a := fun a z1 z2 => by
    rcases h1 with ⟨-, -, e⟩ | ⟨-, -, e⟩ | ⟨-, -, e⟩
    · rw [e]
    · rw [e, up_r (by omega)]
    · rw [e, putS_r (by omega)]
  obtain ⟨z6, zr, zv, zl⟩ := hi_z hH (fun a z => hF1 a (by omega) (by omega))
  rw [z6 3 (by decide), zr 141 (by decide), zr 137 (by decide), zv 0] at h2
  have hq := h.aq l c
  have h9 : ∀ z : 0 ≤ l ∧ l < F u 0 ∧ F (u + 4) l = 0 ∧ 1 ≤ c ∧ c ≤ 99, F (40 + 9) l = F 137 (135 + l) := fun z => (h.S z.1 z.2.1).2.2.2.2.2.2
  have hT := h.T
  rcases h1 with ⟨n1, a2, a3⟩ | ⟨⟨n1, n2⟩, a2, a3⟩ | ⟨⟨n1, n2⟩, a2, a3⟩
  · rcases h2 with ⟨-, b2, b3⟩ | ⟨⟨m1, -⟩, -⟩ | ⟨⟨m1, -⟩, -⟩
    · exact ⟨a2.trans b2.symm, hid a3 b3 _ (by omega)⟩
    · exact absurd (hq.mpr m1) n1
    · exact absurd (hq.mpr m1) n1
  · rcases h2 with ⟨m1, -⟩ | ⟨-, b2, b3⟩ | ⟨⟨m1, m2⟩, -⟩
    · exact absurd (hq.mp n1) m1
    · refine ⟨a2.trans b2.symm, ?_⟩
      have hfr : Fr (up F1 136 0 0) F2 := by
        rw [b3, hH]
        exact Fr.rf.up (by omega)
      refine g_fr h (by omega) hF1 hfr ?_ ?_
      · rw [a3]
        exact (h.sta.mono (by omega)).drp h.dj.1
      · have e := Ag.dr (l := l) h.dj.1 h.2.2.2.1 ⟨n1.1, n1.2.1⟩
        rw [show (1000 : Int) + 18 = 1018 from rfl, vw_18 (by omega)] at e
        rw [a3, b3, vu_18 (by omega), zv 0]
        exact e
    · have := h9 n1
      omega
  · rcases h2 with ⟨m1, -⟩ | ⟨⟨m1, m2⟩, -⟩ | ⟨⟨m1, m2⟩, b2, b3, b4⟩
    · exact absurd (hq.mp n1) m1
    · have := h9 n1
      omega
    · refine ⟨by rw [a2, b2]; exact hT.2.1, ?_⟩
      rw [hH] at b4
      refine g_fr h (by omega) hF1 b4 ?_ ?_
      · rw [a3]
        exact h.sta.put h.dj.1 ⟨n1.1, n1.2.1⟩ ⟨n1.2.2.2.1, n1.2.2.2.2⟩ n2 n1.2.2.1
      · rw [a3, b3]
        exact Ag.put h.dj.1 h.2.2.2.1 hT.1 ⟨n1.1, n1.2.1⟩ (fun n n0 n1 => (h.sta.2.2.1.2.1 n n0 n1).1) n2

