theorem ref_v {b u : Int} {F : Hp} (hd : dj b u) : ∀ (k : Nat) (n : Int), (0 ≤ n → n < k → refS b u k F (b + 5) n = F (b + 5) n + F (b + 1) n - max 0 (F (b + 5) n + F (b + 1) n - F (u + 7) n) ∧ refS b u k F (b + 6) n = min (F (u + 8) n) (F (b + 6) n + max 0 (F (b + 5) n + F (b + 1) n - F (u + 7) n)) ∧ refS b u k F (b + 7) n = min (F (u + 7) n) (F (b + 7) n + F (b + 2) n)) ∧ ((k : Int) ≤ n → refS b u k F (b + 5) n = F (b + 5) n ∧ refS b u k F (b + 6) n = F (b + 6) n ∧ refS b u k F (b + 7) n = F (b + 7) n)
  | 0, n => ⟨fun h0 h1 => by omega, fun _ => ⟨rfl, rfl, rfl⟩⟩
  | k + 1, n => by
    have ih := ref_v (F := F) hd k n
    unfold dj at hd
    have e1 : refS b u k F (b + 1) = F (b + 1) := refS_r (by omega) k F
    have e2 : refS b u k F (b + 2) = F (b + 2) := refS_r (by omega) k F
    have e7 : refS b u k F (u + 7) = F (u + 7) := refS_r (by omega) k F
    have e8 : refS b u k F (u + 8) = F (u + 8) := refS_r (by omega) k F
    unfold refS rfS1
    rw [e1, e2, e7, e8]
    refine ⟨fun h0 h1 => ?_, fun h1 => ?_⟩
    · by_cases q : n = k
      · subst q
        obtain ⟨i5, i6, i7⟩ := ih.2 (Int.le_refl _)
        rw [i5, i6, i7]
        simp (disch := omega) only [up_k, up_s, and_self]
      · have a := ih.1 h0 (by omega)
        simp (disch := omega) only [up_k, up_i]
        exact a
    · have a := ih.2 (by omega)
      simp (disch := omega) only [up_k, up_i]
      exact a
def dec1 (x : Int) : Int := if x = 1001 then 1001 else max 0 (x - 1)
theorem dec_max {a b : Int} (ha : 0 ≤ a ∧ a ≤ 1001) (hb : 0 ≤ b ∧ b ≤ 1001) : dec1 (max a b) = max (dec1 a) (dec1 b) := by
  unfold dec1
  by_cases q : a = 1001
  · by_cases p : b = 1001
    · rw [if_pos q, if_pos p, if_pos (by omega)]; omega
    · rw [if_pos q, if_neg p, if_pos (by omega)]; omega
  · by_cases p : b = 1001
    · rw [if_neg q, if_pos p, if_pos (by omega)]; omega
    · rw [if_neg q, if_neg p, if_neg (by omega)]; omega
theorem dec_min {a b : Int} (ha : 0 ≤ a ∧ a ≤ 1001) (hb : 0 ≤ b ∧ b ≤ 1001) : dec1 (min a b) = min (dec1 a) (dec1 b) := by
  unfold dec1
  by_cases q : a = 1001
  · by_cases p : b = 1001
    · rw [if_pos q, if_pos p, if_pos (by omega)]; omega
    · rw [if_pos q, if_neg p, if_neg (by omega)]; omega
  · by_cases p : b = 1001
    · rw [if_neg q, if_pos p, if_neg (by omega)]; omega
    · rw [if_neg q, if_neg p, if_neg (by omega)]; omega
theorem dec_rng {x : Int} (h : 0 ≤ x ∧ x ≤ 1001) : 0 ≤ dec1 x ∧ dec1 x ≤ 1001 := by
  unfold dec1
  split <;> omega
theorem tu_dec {c a a' s m : Int} (hc : 1 ≤ c ∧ c ≤ 99) (ha : 0 ≤ a ∧ a ≤ m) (hs : 0 ≤ s) (e : a' = min m (a + s)) : tuS c a' s m = dec1 (tuS c a s m) := by
  unfold tuS
  by_cases q : c ≤ a
  · rw [if_pos q, if_pos (by omega)]
    rfl
  · rw [if_neg q]
    by_cases p : s < 1 ∨ m < c
    · rw [if_pos p, if_neg (by omega), if_pos p]
      rfl
    · rw [if_neg p]
      have e1 : (c - a + s - 1).tdiv s = (c - a - 1) / s + 1 := by
        rw [Int.tdiv_eq_ediv_of_nonneg (by omega), show c - a + s - 1 = (c - a - 1) + 1 * s by omega, Int.add_mul_ediv_right _ _ (by omega)]
      have b0 : 0 ≤ (c - a - 1) / s := Int.ediv_nonneg (by omega) (by omega)
      have b1 := Int.ediv_le_self s (show 0 ≤ c - a - 1 by omega)
      have d1 : dec1 ((c - a - 1) / s + 1) = (c - a - 1) / s := by
        unfold dec1
        rw [if_neg (by omega)]
        omega
      rw [if_neg p, e1, d1]
      by_cases r : c ≤ a + s
      · rw [if_pos (by omega)]
        exact (Int.ediv_eq_zero_of_lt (by omega) (by omega)).symm
      · rw [if_neg (by omega)]
        rw [show a' = a + s by omega, Int.tdiv_eq_ediv_of_nonneg (by omega), show c - (a + s) + s - 1 = c - a - 1 by omega]
theorem tu_0 {g a s m : Int} (h : g - a ≤ 99) : tuS g a s m = 0 ↔ g ≤ a := by
  unfold tuS
  by_cases q : g ≤ a
  · rw [if_pos q]
    exact ⟨fun _ => q, fun _ => rfl⟩
  · rw [if_neg q]
    refine ⟨fun z => ?_, fun z => absurd z q⟩
    split at z
    · omega
    · rename_i p
      rw [Int.tdiv_eq_ediv_of_nonneg (by omega), show g - a + s - 1 = (g - a - 1) + 1 * s by omega, Int.add_mul_ediv_right _ _ (by omega)] at z
      have b0 : 0 ≤ (g - a - 1) / s := Int.ediv_nonneg (by omega) (by omega)
      omega
/-- what both walks rely on -/
def WtI (b u : Int) (F : Hp) : Prop := Tr (F u 0) (F (u + 2)) ∧ ∀ n : Int, 0 ≤ n → n < F u 0 → (0 ≤ F (b + 1) n ∧ 0 ≤ F (b + 2) n) ∧ (0 ≤ F (b + 5) n ∧ F (b + 5) n ≤ F (u + 7) n) ∧ (0 ≤ F (b + 6) n ∧ F (b + 6) n ≤ F (u + 8) n) ∧ (0 ≤ F (b + 7) n ∧ F (b + 7) n ≤ F (u + 7) n)
theorem StA.wt {b u K : Int} {F : Hp} (h : StA b u K F) : WtI b u F := ⟨h.1.2.1, fun n h0 h1 => by
  have a := h.2.1 n h0 h1
  omega⟩
theorem wt_rng {b u c : Int} {F : Hp} (hI : WtI b u F) (hc : 1 ≤ c ∧ c ≤ 99) : ∀ (k : Nat) (n may x y : Int), n < F u 0 → (0 ≤ x ∧ x ≤ 1001) → (0 ≤ y ∧ y ≤ 1001) → (0 ≤ (wtS b u F c k n may x y).1 ∧ (wtS b u F c k n may x y).1 ≤ 1001) ∧ (0 ≤ (wtS b u F c k n may x y).2 ∧ (wtS b u F c k n may x y).2 ≤ 1001)
  | 0, n, may, x, y, _, hx, hy => ⟨hx, hy⟩
  | k + 1, n, may, x, y, hn, hx, hy => by
    by_cases q : n < 0
    · rw [wtS_neg q]
      exact ⟨hx, hy⟩
    · have t := hI.1 n (by omega) hn
      have a := hI.2 n (by omega) hn
      have t1 := tuS_rng (g := c) (a := F (b + 7) n) (s := F (b + 2) n) (m := F (u + 7) n) (by omega)
      have t2 := tuS_rng (g := c) (a := F (b + 5) n + F (b + 6) n) (s := F (b + 1) n) (m := F (u + 7) n + F (u + 8) n) (by omega)
      unfold wtS
      rw [if_neg q]
      refine wt_rng hI hc k _ _ _ _ (by omega) (by omega) ?_
      split <;> omega
/-- one refill: both numbers fall by one -/
theorem wt_ref {b u c : Int} {F : Hp} (hd : dj b u) (hI : WtI b u F) (hN : 0 ≤ F u 0) (hc : 1 ≤ c ∧ c ≤ 99) : ∀ (k : Nat) (n may x y : Int), n < F u 0 → (0 ≤ x ∧ x ≤ 1001) → (0 ≤ y ∧ y ≤ 1001) → wtS b u (refS b u (F u 0).toNat F) c k n may (dec1 x) (dec1 y) = (dec1 (wtS b u F c k n may x y).1, dec1 (wtS b u F c k n may x y).2)
  | 0, n, may, x, y, _, _, _ => rfl
  | k + 1, n, may, x, y, hn, hx, hy => by
    by_cases q : n < 0
    · rw [wtS_neg q, wtS_neg q]
    · have t := hI.1 n (by omega) hn
      have a := hI.2 n (by omega) hn
      have t1 := tuS_rng (g := c) (a := F (b + 7) n) (s := F (b + 2) n) (m := F (u + 7) n) (by omega)
      have t2 := tuS_rng (g := c) (a := F (b + 5) n + F (b + 6) n) (s := F (b + 1) n) (m := F (u + 7) n + F (u + 8) n) (by omega)
      obtain ⟨v5, v6, v7⟩ := (ref_v (F := F) hd (F u 0).toNat n).1 (by omega) (by omega)
      unfold dj at hd
      unfold wtS
      rw [if_neg q, if_neg q, refS_r (a := u + 2) (by omega), refS_r (a := u + 11) (by omega), refS_r (a := b + 1) (by omega), refS_r (a := b + 2) (by omega), refS_r (a := u + 7) (by omega), refS_r (a := u + 8) (by omega), v5, v6, v7]
      rw [tu_dec (a := F (b + 7) n) hc (by omega) (by omega) rfl, tu_dec (a := F (b + 5) n + F (b + 6) n) (s := F (b + 1) n) (m := F (u + 7) n + F (u + 8) n) hc (by omega) (by omega) (by omega), ← dec_max hx t1]
      by_cases z : may = 1
      · rw [if_pos z, if_pos z, ← dec_min hy t2]
        exact wt_ref (by unfold dj; exact hd) hI hN hc k _ _ _ _ (by omega) (by omega) (by omega)
      · rw [if_neg z, if_neg z]
        exact wt_ref (by unfold dj; exact hd) hI hN hc k _ _ _ _ (by omega) (by omega) hy
/-- both numbers are 0: a lender -/
theorem wt_0 {b u c : Int} {F : Hp} (hI : WtI b u F) (hc : 1 ≤ c ∧ c ≤ 99) : ∀ (k : Nat) (n may x y : Int), n < F u 0 → n < k → (0 ≤ x ∧ x ≤ 1001) → (0 ≤ y ∧ y ≤ 1001) → ((wtS b u F c k n may x y).1 = 0 ↔ x = 0 ∧ blkS (F (b + 7)) (F (u + 2)) c k n = -2) ∧ ((wtS b u F c k n may x y).2 = 0 ↔ y = 0 ∨ (may = 1 ∧ askS (fun n => F (b + 5) n + F (b + 6) n) (F (u + 2)) (F (u + 11)) c k n ≠ -2))
  | 0, n, may, x, y, hn, hk, hx, hy => by
    rw [wtS_neg (by omega), blkS_neg (by omega), askS_neg (by omega)]
    exact ⟨⟨fun z => ⟨z, rfl⟩, fun z => z.1⟩, ⟨fun z => Or.inl z, fun z => z.elim id (fun w => absurd rfl w.2)⟩⟩
  | k + 1, n, may, x, y, hn, hk, hx, hy => by
    by_cases q : n < 0
    · rw [wtS_neg q, blkS_neg q, askS_neg q]
      exact ⟨⟨fun z => ⟨z, rfl⟩, fun z => z.1⟩, ⟨fun z => Or.inl z, fun z => z.elim id (fun w => absurd rfl w.2)⟩⟩
    · have t := hI.1 n (by omega) hn
      have a := hI.2 n (by omega) hn
      have t1 := tuS_rng (g := c) (a := F (b + 7) n) (s := F (b + 2) n) (m := F (u + 7) n) (by omega)
      have t2 := tuS_rng (g := c) (a := F (b + 5) n + F (b + 6) n) (s := F (b + 1) n) (m := F (u + 7) n + F (u + 8) n) (by omega)
      have z1 := tu_0 (g := c) (a := F (b + 7) n) (s := F (b + 2) n) (m := F (u + 7) n) (by omega)
      have z2 := tu_0 (g := c) (a := F (b + 5) n + F (b + 6) n) (s := F (b + 1) n) (m := F (u + 7) n + F (u + 8) n) (by omega)
      have hy' : 0 ≤ (if may = 1 then min y (tuS c (F (b + 5) n + F (b + 6) n) (F (b + 1) n) (F (u + 7) n + F (u + 8) n)) else y) ∧ (if may = 1 then min y (tuS c (F (b + 5) n + F (b + 6) n) (F (b + 1) n) (F (u + 7) n + F (u + 8) n)) else y) ≤ 1001 := by split <;> omega
      have ih := wt_0 hI hc k (F (u + 2) n) (if may = 1 ∧ F (u + 11) n = 0 then 1 else 0) (max x (tuS c (F (b + 7) n) (F (b + 2) n) (F (u + 7) n))) (if may = 1 then min y (tuS c (F (b + 5) n + F (b + 6) n) (F (b + 1) n) (F (u + 7) n + F (u + 8) n)) else y) (by omega) (by omega) (by omega) hy'
      have eW : wtS b u F c (k + 1) n may x y = wtS b u F c k (F (u + 2) n) (if may = 1 ∧ F (u + 11) n = 0 then 1 else 0) (max x (tuS c (F (b + 7) n) (F (b + 2) n) (F (u + 7) n))) (if may = 1 then min y (tuS c (F (b + 5) n + F (b + 6) n) (F (b + 1) n) (F (u + 7) n + F (u + 8) n)) else y) := by rw [wtS, if_neg q]
      rw [eW]
      refine ⟨ih.1.trans ?_, ih.2.trans ?_⟩
      · by_cases h : F (b + 7) n < c
        · rw [blkS_hit hk (by omega) h]
          exact ⟨fun z => absurd (z1.mp (by omega)) (by omega), fun z => by omega⟩
        · rw [blkS_up hk (by omega) h, Nat.add_sub_cancel]
          have e0 := z1.mpr (by omega)
          exact ⟨fun z => ⟨by omega, z.2⟩, fun z => ⟨by omega, z.2⟩⟩
      · by_cases h : may = 1
        · rw [if_pos h]
          by_cases g : c ≤ F (b + 5) n + F (b + 6) n
          · rw [askS_hit (fu := fun n => F (b + 5) n + F (b + 6) n) hk (by omega) g]
            have e0 := z2.mpr g
            exact ⟨fun _ => Or.inr ⟨h, by omega⟩, fun _ => Or.inl (by omega)⟩
          · have e0 : ¬ tuS c (F (b + 5) n + F (b + 6) n) (F (b + 1) n) (F (u + 7) n + F (u + 8) n) = 0 := fun z => g (z2.mp z)
            by_cases f : F (u + 11) n = 0
            · rw [askS_up (fu := fun n => F (b + 5) n + F (b + 6) n) hk (by omega) g f, Nat.add_sub_cancel, if_pos ⟨h, f⟩]
              exact ⟨fun z => z.elim (fun w => Or.inl (by omega)) (fun w => Or.inr ⟨h, w.2⟩), fun z => z.elim (fun w => Or.inl (by omega)) (fun w => Or.inr ⟨rfl, w.2⟩)⟩
            · rw [askS_stop (fu := fun n => F (b + 5) n + F (b + 6) n) hk (by omega) g f, if_neg (fun w => f w.2)]
              exact ⟨fun z => z.elim (fun w => Or.inl (by omega)) (fun w => absurd w.1 (by decide)), fun z => z.elim (fun w => Or.inl (by omega)) (fun w => absurd rfl w.2)⟩
        · rw [if_neg h, if_neg (fun w => h w.1)]
          exact ⟨fun z => z.elim Or.inl (fun w => absurd w.1 (by decide)), fun z => z.elim Or.inl (fun w => absurd w.1 h)⟩
theorem wt_lnd {b u c l : Int} {F : Hp} (hI : WtI b u F) (hN : F u 0 ≤ 12) (hc : 1 ≤ c ∧ c ≤ 99) (hl : l < F u 0) : lndS b u F l c = -2 ↔ ¬ max (wtS b u F c 13 l 1 0 1001).1 (wtS b u F c 13 l 1 0 1001).2 = 0 := by
  have h := wt_0 hI hc 13 l 1 0 1001 hl (by omega) (by omega) (by omega)
  have r := wt_rng hI hc 13 l 1 0 1001 hl (by omega) (by omega)
  unfold lndS lendS
  by_cases q : blkS (F (b + 7)) (F (u + 2)) c 13 l = -2
  · rw [if_pos q]
    have h1 := h.1.mpr ⟨rfl, q⟩
    constructor
    · intro z w
      rcases h.2.mp (by omega) with y | y
      · omega
      · exact y.2 z
    · intro z
      by_cases y : askS (fun n => F (b + 5) n + F (b + 6) n) (F (u + 2)) (F (u + 11)) c 13 l = -2
      · exact y
      · have := h.2.mpr (Or.inr ⟨rfl, y⟩)
        omega
  · rw [if_neg q]
    refine ⟨fun _ w => q (h.1.mp (by omega)).2, fun _ => rfl⟩
/-- the same accounts and settings on both sides -/
def AcE (b u : Int) (F G : Hp) (t n : Int) : Prop := ∀ i : Int, 0 ≤ i → i < n → F (b + 5) i = G (t + 9) i ∧ F (b + 6) i = G (t + 10) i ∧ F (b + 7) i = G (t + 11) i ∧ F (u + 2) i = G (t + 1) i ∧ F (u + 11) i = G (t + 8) i
def StE (b u : Int) (F G : Hp) (t n : Int) : Prop := ∀ i : Int, 0 ≤ i → i < n → F (b + 1) i = G (t + 2) i ∧ F (b + 2) i = G (t + 3) i ∧ F (u + 7) i = G (t + 4) i ∧ F (u + 8) i = G (t + 5) i
theorem AcE.lnd {b u t n leaf c : Int} {F G : Hp} (h : AcE b u F G t n) (hT : Tr n (F (u + 2))) (hl : leaf < n) : lndS b u F leaf c = lnT t G leaf c :=
  lendS_cong hT (fun i h0 h1 => (h i h0 h1).2.2.1) (fun i h0 h1 => by rw [(h i h0 h1).1, (h i h0 h1).2.1]) (fun i h0 h1 => (h i h0 h1).2.2.2.1) (fun i h0 h1 => (h i h0 h1).2.2.2.2) hl
theorem AcE.ref {b u t n : Int} {F G : Hp} (hd : dj b u) (h : AcE b u F G t n) (hs : StE b u F G t n) : AcE b u (refS b u n.toNat F) (rfP t G n) t n ∧ StE b u (refS b u n.toNat F) (rfP t G n) t n := by
  have hd' := hd
  unfold dj at hd'
  refine ⟨fun i h0 h1 => ?_, fun i h0 h1 => ?_⟩
  · obtain ⟨v5, v6, v7⟩ := (ref_v (F := F) hd n.toNat i).1 h0 (by omega)
    have a := h i h0 h1
    have s := hs i h0 h1
    rw [rfP_9 ⟨h0, h1⟩, rfP_10 ⟨h0, h1⟩, rfP_11 ⟨h0, h1⟩, rfP_k (by omega) (by omega) (by omega), rfP_k (by omega) (by omega) (by omega), refS_r (a := u + 2) (by omega), refS_r (a := u + 11) (by omega), v5, v6, v7]
    omega
  · have s := hs i h0 h1
    rw [refS_r (a := b + 1) (by omega), refS_r (a := b + 2) (by omega), refS_r (a := u + 7) (by omega), refS_r (a := u + 8) (by omega), rfP_k (by omega) (by omega) (by omega), rfP_k (by omega) (by omega) (by omega), rfP_k (by omega) (by omega) (by omega), rfP_k (by omega) (by omega) (by omega)]
    exact s
/-- so many refills -/
def rfT (t n : Int) : Nat → Hp → Hp
  | 0, G => G
  | k + 1, G => rfT t n k (rfP t G n)
theorem rfT_s {t n : Int} : ∀ (k : Nat) (G : Hp), rfT t n (k + 1) G = rfP t (rfT t n k G) n
  | 0, G => rfl
  | k + 1, G => rfT_s k (rfP t G n)
def mW (b u : Int) (F : Hp) (c l : Int) : Int := max (wtS b u F c 13 l 1 0 1001).1 (wtS b u F c 13 l 1 0 1001).2
theorem wt_it {b u c l t n K : Int} (hd : dj b u) (hc : 1 ≤ c ∧ c ≤ 99) (hl : l < n) : ∀ (w : Nat) (F G : Hp), StA b u K F → F u 0 = n → AcE b u F G t n → StE b u F G t n → (lnT t (rfT t n w G) l c = -2 ↔ (mW b u F c l = 1001 ∨ (w : Int) < mW b u F c l)) ∧ (0 ≤ mW b u F c l ∧ mW b u F c l ≤ 1001)
  | 0, F, G, h, hn, ha, hs => by
    have r := wt_rng h.wt hc 13 l 1 0 1001 (by omega) (by omega) (by omega)
    have e := wt_lnd h.wt h.1.1.2 hc (show l < F u 0 by omega)
    have el := ha.lnd (leaf := l) (c := c) (by rw [← hn]; exact h.1.2.1) hl
    have rz : 0 ≤ mW b u F c l ∧ mW b u F c l ≤ 1001 := by unfold mW; omega
    refine ⟨?_, rz⟩
    show lnT t G l c = -2 ↔ _
    rw [← el, e]
    show ¬ mW b u F c l = 0 ↔ _
    omega
  | w + 1, F, G, h, hn, ha, hs => by
    have r := wt_rng h.wt hc 13 l 1 0 1001 (by omega) (by omega) (by omega)
    have s := wt_ref hd h.wt h.1.1.1 hc 13 l 1 0 1001 (by omega) (by omega) (by omega)
    rw [show dec1 0 = 0 from rfl, show dec1 1001 = 1001 from rfl] at s
    have u0 : refS b u (F u 0).toNat F u = F u := refS_r (by unfold dj at hd; omega) _ _
    have ar := ha.ref hd hs
    rw [hn] at s u0
    have hr := h.ref hd
    rw [hn] at hr
    have ih := wt_it hd hc hl w (refS b u n.toNat F) (rfP t G n) hr (by rw [u0]; exact hn) ar.1 ar.2
    have em : mW b u (refS b u n.toNat F) c l = dec1 (mW b u F c l) := by
      unfold mW
      rw [s, dec_max r.1 r.2]
    have rz : 0 ≤ mW b u F c l ∧ mW b u F c l ≤ 1001 := by unfold mW; omega
    rw [em] at ih
    refine ⟨?_, rz⟩
    show lnT t (rfT t n w (rfP t G n)) l c = -2 ↔ _
    rw [ih.1]
    unfold dec1
    split <;> omega
theorem Rl.ace {u v K t : Int} {F : Hp} (h : Rl u v K F t) : AcE 40 u F F t (F t 0) ∧ StE 40 u F F t (F t 0) := by
  obtain ⟨-, -, -, ⟨e, s, -⟩, ⟨-, d⟩⟩ := h
  refine ⟨fun i h0 h1 => ?_, fun i h0 h1 => ?_⟩
  · have a := s i h0 h1
    have b := d i h0 h1
    exact ⟨b.2.2.2.1, b.2.2.2.2.1, b.2.2.2.2.2.1, a.2.1, a.2.2.2.2.2.2⟩
  · have a := s i h0 h1
    have b := d i h0 h1
    exact ⟨b.1, b.2.1, a.2.2.2.1, a.2.2.2.2.1⟩
theorem SS.d40 {u v : Int} (h : SS u v) : dj 40 u := by unfold SS at h; unfold dj; omega
theorem SS.d64 {u v : Int} (h : SS u v) : dj 64 u := by unfold SS at h; unfold dj; omega
theorem Rl.lnd {u v K t leaf c : Int} {F : Hp} (h : Rl u v K F t) (hl : leaf < F t 0) : lndS 40 u F leaf c = lnT t F leaf c := h.ace.1.lnd (by rw [← h.2.2.2.1.1]; exact h.2.1.2.2.1.1.2.1) hl

