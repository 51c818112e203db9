/-! two states that agree where it counts; b, c the states, u, w the setups -/
def AgU (u : Int) (F : Hp) (w : Int) (G : Hp) : Prop := F u 0 = G w 0 ∧ F u 13 = G w 13 ∧ F u 14 = G w 14 ∧ F (u + 12) 0 = G (w + 12) 0 ∧
  (∀ n : Int, 0 ≤ n → n < F u 0 → F (u + 2) n = G (w + 2) n ∧ F (u + 3) n = G (w + 3) n ∧ (F (u + 4) n = 0 ↔ G (w + 4) n = 0) ∧ F (u + 7) n = G (w + 7) n ∧ F (u + 8) n = G (w + 8) n ∧ F (u + 10) n = G (w + 10) n ∧ F (u + 11) n = G (w + 11) n) ∧
  (∀ k : Int, 0 ≤ k → k < F (u + 12) 0 → F (u + 13) k = G (w + 13) k ∧ F (u + 14) k = G (w + 14) k ∧ F (u + 15) k = G (w + 15) k ∧ F (u + 16) k = G (w + 16) k)
def AgS (b u : Int) (F : Hp) (c : Int) (G : Hp) : Prop := F b 1 = G c 1 ∧ F (b + 8) 4 = G (c + 8) 4 ∧ F (b + 19) 0 = G (c + 19) 0 ∧
  (∀ n : Int, 0 ≤ n → n < F u 0 → F (b + 1) n = G (c + 1) n ∧ F (b + 2) n = G (c + 2) n ∧ F (b + 3) n = G (c + 3) n ∧ F (b + 5) n = G (c + 5) n ∧ F (b + 6) n = G (c + 6) n ∧ F (b + 7) n = G (c + 7) n ∧ F (b + 9) n = G (c + 9) n) ∧
  (∀ n : Int, 0 ≤ n → n < F u 0 → F (b + 14) n = G (c + 14) n ∧ F (b + 15) n = G (c + 15) n ∧ F (b + 16) n = G (c + 16) n ∧ F (b + 17) n = G (c + 17) n ∧ F (b + 18) n = G (c + 18) n) ∧
  (∀ n : Int, 0 ≤ n → n < F u 0 → ∀ k : Int, 0 ≤ k → k < F (b + 9) n → F (b + 10) (n * 16 + k) = G (c + 10) (n * 16 + k) ∧ F (b + 11) (n * 16 + k) = G (c + 11) (n * 16 + k) ∧ F (b + 12) (n * 16 + k) = G (c + 12) (n * 16 + k)) ∧
  (∀ k : Int, 0 ≤ k → k < F (b + 19) 0 → F (b + 20) k = G (c + 20) k ∧ F (b + 21) k = G (c + 21) k ∧ F (b + 22) k = G (c + 22) k ∧ F (b + 23) k = G (c + 23) k)
theorem AgU.rf {u : Int} {F : Hp} : AgU u F u F := ⟨rfl, rfl, rfl, rfl, fun _ _ _ => ⟨rfl, rfl, Iff.rfl, rfl, rfl, rfl, rfl⟩, fun _ _ _ => ⟨rfl, rfl, rfl, rfl⟩⟩
theorem AgU.fr {u w : Int} {F F' G G' : Hp} (h : AgU u F w G) (hF : ∀ a : Int, u ≤ a → a < u + 17 → F' a = F a) (hG : ∀ a : Int, w ≤ a → a < w + 17 → G' a = G a) : AgU u F' w G' := by
  unfold AgU at h ⊢
  rw [hF u (by omega) (by omega), hF (u + 2) (by omega) (by omega), hF (u + 3) (by omega) (by omega), hF (u + 4) (by omega) (by omega), hF (u + 7) (by omega) (by omega), hF (u + 8) (by omega) (by omega), hF (u + 10) (by omega) (by omega), hF (u + 11) (by omega) (by omega), hF (u + 12) (by omega) (by omega), hF (u + 13) (by omega) (by omega), hF (u + 14) (by omega) (by omega), hF (u + 15) (by omega) (by omega), hF (u + 16) (by omega) (by omega),
    hG w (by omega) (by omega), hG (w + 2) (by omega) (by omega), hG (w + 3) (by omega) (by omega), hG (w + 4) (by omega) (by omega), hG (w + 7) (by omega) (by omega), hG (w + 8) (by omega) (by omega), hG (w + 10) (by omega) (by omega), hG (w + 11) (by omega) (by omega), hG (w + 12) (by omega) (by omega), hG (w + 13) (by omega) (by omega), hG (w + 14) (by omega) (by omega), hG (w + 15) (by omega) (by omega), hG (w + 16) (by omega) (by omega)]
  exact h
theorem AgS.rf {b u : Int} {F : Hp} : AgS b u F b F := ⟨rfl, rfl, rfl, fun _ _ _ => ⟨rfl, rfl, rfl, rfl, rfl, rfl, rfl⟩, fun _ _ _ => ⟨rfl, rfl, rfl, rfl, rfl⟩, fun _ _ _ _ _ _ => ⟨rfl, rfl, rfl⟩, fun _ _ _ => ⟨rfl, rfl, rfl, rfl⟩⟩
theorem AgS.tr {b u c w d : Int} {F G H : Hp} (h : AgS b u F c G) (hN : F u 0 = G w 0) (h2 : AgS c w G d H) : AgS b u F d H := by
  obtain ⟨a1, a2, a3, a4, a5, a6, a7⟩ := h
  obtain ⟨b1, b2, b3, b4, b5, b6, b7⟩ := h2
  refine ⟨a1.trans b1, a2.trans b2, a3.trans b3, fun n h0 h1 => ?_, fun n h0 h1 => ?_, fun n h0 h1 k k0 k1 => ?_, fun k k0 k1 => ?_⟩
  · have p := a4 n h0 h1
    have q := b4 n h0 (by omega)
    omega
  · have p := a5 n h0 h1
    have q := b5 n h0 (by omega)
    omega
  · have p := a6 n h0 h1 k k0 k1
    have r := a4 n h0 h1
    have q := b6 n h0 (by omega) k k0 (by omega)
    omega
  · have p := a7 k k0 k1
    have q := b7 k k0 (by omega)
    omega
theorem AgS.frL {b u c : Int} {F F' G : Hp} (h : AgS b u F c G) (hu : F' u = F u) (hF : ∀ a : Int, b ≤ a → a < b + 24 → F' a = F a) : AgS b u F' c G := by
  unfold AgS at h ⊢
  rw [hu, hF b (by omega) (by omega), hF (b + 1) (by omega) (by omega), hF (b + 2) (by omega) (by omega), hF (b + 3) (by omega) (by omega), hF (b + 5) (by omega) (by omega), hF (b + 6) (by omega) (by omega), hF (b + 7) (by omega) (by omega), hF (b + 8) (by omega) (by omega), hF (b + 9) (by omega) (by omega), hF (b + 10) (by omega) (by omega), hF (b + 11) (by omega) (by omega), hF (b + 12) (by omega) (by omega), hF (b + 14) (by omega) (by omega), hF (b + 15) (by omega) (by omega), hF (b + 16) (by omega) (by omega), hF (b + 17) (by omega) (by omega), hF (b + 18) (by omega) (by omega), hF (b + 19) (by omega) (by omega), hF (b + 20) (by omega) (by omega), hF (b + 21) (by omega) (by omega), hF (b + 22) (by omega) (by omega), hF (b + 23) (by omega) (by omega)]
  exact h
theorem AgS.frR {b u c : Int} {F G G' : Hp} (h : AgS b u F c G) (hG : ∀ a : Int, c ≤ a → a < c + 24 → G' a = G a) : AgS b u F c G' := by
  unfold AgS at h ⊢
  rw [hG c (by omega) (by omega), hG (c + 1) (by omega) (by omega), hG (c + 2) (by omega) (by omega), hG (c + 3) (by omega) (by omega), hG (c + 5) (by omega) (by omega), hG (c + 6) (by omega) (by omega), hG (c + 7) (by omega) (by omega), hG (c + 8) (by omega) (by omega), hG (c + 9) (by omega) (by omega), hG (c + 10) (by omega) (by omega), hG (c + 11) (by omega) (by omega), hG (c + 12) (by omega) (by omega), hG (c + 14) (by omega) (by omega), hG (c + 15) (by omega) (by omega), hG (c + 16) (by omega) (by omega), hG (c + 17) (by omega) (by omega), hG (c + 18) (by omega) (by omega), hG (c + 19) (by omega) (by omega), hG (c + 20) (by omega) (by omega), hG (c + 21) (by omega) (by omega), hG (c + 22) (by omega) (by omega), hG (c + 23) (by omega) (by omega)]
  exact h
/-- a state that agrees with a sound one is sound -/
theorem StA.ag {b c u w K : Int} {F G : Hp} (h : StA b u K F) (hU : AgU u F w G) (hSu : SuI w G) (hS : AgS b u F c G) : StA c w K G := by
  obtain ⟨h1, h2, h3, h4, h5⟩ := h
  obtain ⟨e1, e2, e3, e4, e5, e6, e7⟩ := hS
  obtain ⟨g1, g2, g3, g4, g5, g6⟩ := hU
  refine ⟨hSu, fun n h0 hn => ?_, ⟨?_, fun n h0 hn => ?_, fun n h0 hn k k0 k1 => ?_⟩, ⟨?_, fun k k0 k1 => ?_⟩, fun n h0 hn => ?_⟩
  · rw [← g1] at hn
    have p := h2 n h0 hn
    have q := e4 n h0 hn
    have r := g5 n h0 hn
    omega
  · rw [← e1]; exact h3.1
  · rw [← g1] at hn
    have p := h3.2.1 n h0 hn
    have q := e4 n h0 hn
    have r := (g5 n h0 hn).2.2.1
    refine ⟨by omega, fun z => ?_⟩
    have := p.2 (fun y => z (r.mp y))
    omega
  · rw [← g1] at hn
    have q := e4 n h0 hn
    have p := h3.2.2 n h0 hn k k0 (by omega)
    have r := e6 n h0 hn k k0 (by omega)
    omega
  · rw [← e3]; exact h4.1
  · have p := h4.2 k k0 (by omega)
    have r := e7 k k0 (by omega)
    omega
  · rw [← g1] at hn
    have p := h5 n h0 hn
    have q := e4 n h0 hn
    have r := e5 n h0 hn
    omega
theorem AgU.par {u w : Int} {F G : Hp} (h : AgU u F w G) : ∀ n : Int, 0 ≤ n → n < F u 0 → F (u + 2) n = G (w + 2) n := fun n h0 h1 => (h.2.2.2.2.1 n h0 h1).1
theorem Ag.lnd {b u c w l k : Int} {F G : Hp} (hU : AgU u F w G) (hS : AgS b u F c G) (hT : Tr (F u 0) (F (u + 2))) (hl : l < F u 0) : lndS b u F l k = lndS c w G l k := by
  unfold lndS
  refine lendS_cong hT (fun n h0 h1 => (hS.2.2.2.1 n h0 h1).2.2.2.2.2.1) (fun n h0 h1 => ?_) hU.par (fun n h0 h1 => (hU.2.2.2.2.1 n h0 h1).2.2.2.2.2.2) hl
  have := hS.2.2.2.1 n h0 h1
  show F (b + 5) n + F (b + 6) n = G (c + 5) n + G (c + 6) n
  omega
theorem Ag.dst {b u c w n : Int} {F G : Hp} (hU : AgU u F w G) (hS : AgS b u F c G) (hI : SuI u F) (hQ : QuI b u F) (h0 : 0 ≤ n) (h1 : n < F u 0) : dstS b u F n = dstS c w G n := by
  have e9 := (hS.2.2.2.1 n h0 h1).2.2.2.2.2.2
  have hq := (hQ.2.1 n h0 h1).1
  unfold dstS
  rw [← e9]
  by_cases q : F (b + 9) n = 0
  · rw [if_pos q, if_pos q]
  · have e11 := (hS.2.2.2.2.2.1 n h0 h1 0 (Int.le_refl _) (by omega)).2.1
    rw [Int.add_zero] at e11
    rw [if_neg q, if_neg q, ← e11, ← Ag.lnd hU hS hI.2.1 h1]
    by_cases z : lndS b u F n (F (b + 11) (n * 16)) = -2
    · rw [if_pos z, if_pos z]
    · have hr := lndS_rng (b := b) (c := F (b + 11) (n * 16)) hI.2.1 h1
      rw [if_neg z, if_neg z, (hU.2.2.2.2.1 n h0 h1).2.1, (hU.2.2.2.2.1 (lndS b u F n (F (b + 11) (n * 16))) (by omega) (by omega)).2.1]
theorem choS_cong {d d' : Int → Int} {p p' : Int → Int → Bool} {N : Int} (hd : ∀ n, 0 ≤ n → n < N → d n = d' n) (hp : ∀ m n, 0 ≤ m → m < N → 0 ≤ n → n < N → p m n = p' m n) : ∀ k : Nat, (k : Int) ≤ N → choS d p k = choS d' p' k
  | 0, _ => rfl
  | k + 1, hk => by
    have ih := choS_cong hd hp k (by omega)
    have hr := choS_rng (dist := d) (prec := p) k
    have e1 := hd k (by omega) (by omega)
    unfold choS
    rw [← ih, ← e1]
    rcases hr with hr | hr
    · rw [hr.1]
      by_cases q : d k = -2
      · rw [if_neg (fun z => z.1 q), if_neg (fun z => z.1 q)]
      · rw [if_pos ⟨q, Or.inl rfl⟩, if_pos ⟨q, Or.inl rfl⟩]
    · rw [hp k _ (by omega) (by omega) hr.1 (by omega)]
theorem Ag.chl {b u c w : Int} {F G : Hp} (hU : AgU u F w G) (hS : AgS b u F c G) (hI : SuI u F) (hQ : QuI b u F) : chlS b u F = chlS c w G := by
  have hN := hI.1
  unfold chlS
  rw [← hU.1, choS_cong (N := F u 0) (fun n h0 h1 => Ag.dst hU hS hI hQ h0 h1) (fun m n m0 m1 n0 n1 => ?_) _ (by omega)]
  unfold precB
  rw [(hU.2.2.2.2.1 m m0 m1).2.2.2.2.2.1, (hU.2.2.2.2.1 n n0 n1).2.2.2.2.2.1, (hS.2.2.2.2.1 m m0 m1).1, (hS.2.2.2.2.1 n n0 n1).1, (hS.2.2.2.1 m m0 m1).2.2.1, (hS.2.2.2.1 n n0 n1).2.2.1]

