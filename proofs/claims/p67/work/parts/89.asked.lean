/-- sending on both sides -/
theorem snT_r {t leaf l c a : Int} {G : Hp} (h : a < t + 9 ∨ t + 15 < a) : snT t leaf l c G a = G a := by
  unfold snT
  rw [cntS_r (by omega), payS_r (by omega)]
theorem snT_out {t leaf l c a i n : Int} {G : Hp} (hT : Tr n (G (t + 1))) (hl : leaf < n) (hll : 0 ≤ l ∧ l ≤ leaf) (h : i < 0 ∨ leaf < i) : snT t leaf l c G a i = G a i := by
  have ho : ¬ onP (G (t - 1 + 2)) 13 leaf i = true := by
    rw [show t - 1 + 2 = t + 1 by omega]
    intro z
    have := onP_le hT 13 leaf i hl z
    omega
  have e : payS (t + 4) (t - 1) leaf l c G a i = G a i := by
    unfold payS
    rw [if_neg (fun z => ho z.2), if_neg (fun z => ho z.2.1), if_neg (by omega)]
  unfold snT cntS
  split
  · rw [up_i (by omega), up_i (by omega), e]
  · rw [up_i (by omega), up_i (by omega), up_i (by omega), up_i (by omega), e]
theorem snT_5 {t leaf l c i : Int} {G : Hp} : snT t leaf l c G (t + 9) i = (if onP (G (t + 1)) 13 leaf i = true ∧ i ≤ l then G (t + 9) i - min (G (t + 9) i) c else G (t + 9) i) ∧ snT t leaf l c G (t + 10) i = (if i = l then G (t + 10) i - (c - min (G (t + 9) l) c) else G (t + 10) i) ∧ snT t leaf l c G (t + 11) i = (if onP (G (t + 1)) 13 leaf i = true then G (t + 11) i - c else G (t + 11) i) := by
  have h5 := payS_5 (b := t + 4) (u := t - 1) (leaf := leaf) (l := l) (c := c) (n := i) (F := G)
  have h6 := payS_6 (b := t + 4) (u := t - 1) (leaf := leaf) (l := l) (c := c) (n := i) (F := G)
  have h7 := payS_7 (b := t + 4) (u := t - 1) (leaf := leaf) (l := l) (c := c) (n := i) (F := G)
  rw [show t + 4 + 5 = t + 9 by omega, show t - 1 + 2 = t + 1 by omega] at h5
  rw [show t + 4 + 6 = t + 10 by omega, show t + 4 + 5 = t + 9 by omega] at h6
  rw [show t + 4 + 7 = t + 11 by omega, show t - 1 + 2 = t + 1 by omega] at h7
  unfold snT
  rw [cntS_r (by omega), cntS_r (by omega), cntS_r (by omega)]
  exact ⟨h5, h6, h7⟩
theorem TrV.snd {G : Hp} {t leaf c : Int} (hV : TrV G t) (hl : 0 ≤ leaf ∧ leaf < G t 0) (hc : 1 ≤ c) (hne : lnT t G leaf c ≠ -2) : TrV (snT t leaf (lnT t G leaf c) c G) t := by
  obtain ⟨l1, l2, l3, l4⟩ := lnT_ok hV hl.2 hne
  generalize lnT t G leaf c = l at *
  have hV' := hV
  unfold TrV at hV ⊢
  rw [snT_r (a := t) (by omega), snT_r (a := t + 1) (by omega), snT_r (a := t + 2) (by omega), snT_r (a := t + 3) (by omega), snT_r (a := t + 4) (by omega), snT_r (a := t + 5) (by omega), snT_r (a := t + 6) (by omega), snT_r (a := t + 7) (by omega), snT_r (a := t + 8) (by omega)]
  refine ⟨hV.1, hV.2.1, hV.2.2.1, hV.2.2.2.1, hV.2.2.2.2.1, fun k h0 h1 => ?_, hV.2.2.2.2.2.2⟩
  have a := hV'.ac k h0 h1
  have h4 := l4 k
  obtain ⟨e5, e6, e7⟩ := snT_5 (t := t) (leaf := leaf) (l := l) (c := c) (i := k) (G := G)
  rw [e5, e6, e7]
  refine ⟨?_, ?_, ?_⟩
  · split <;> omega
  · split
    · rename_i z
      subst z
      omega
    · exact a.2.1
  · split
    · rename_i z
      have := h4 z
      omega
    · exact a.2.2
theorem AcE.pay {b u t n leaf l c : Int} {F G : Hp} (hd : dj b u) (h : AcE b u F G t n) (hT : Tr n (F (u + 2))) (hl : leaf < n) (hll : 0 ≤ l ∧ l < n) : AcE b u (payS b u leaf l c F) (snT t leaf l c G) t n := by
  unfold dj at hd
  intro i h0 h1
  have a := h i h0 h1
  have al := h l hll.1 hll.2
  have eo : onP (F (u + 2)) 13 leaf i = onP (G (t + 1)) 13 leaf i := onP_cong hT (fun m m0 m1 => (h m m0 m1).2.2.2.1) 13 leaf i hl
  obtain ⟨e5, e6, e7⟩ := snT_5 (t := t) (leaf := leaf) (l := l) (c := c) (i := i) (G := G)
  rw [e5, e6, e7, payS_5, payS_6, payS_7, payS_r (a := u + 2) (by omega), payS_r (a := u + 11) (by omega), snT_r (a := t + 1) (by omega), snT_r (a := t + 8) (by omega), eo, a.1, a.2.1, a.2.2.1, al.1]
  exact ⟨rfl, rfl, rfl, a.2.2.2.1, a.2.2.2.2⟩
/-- how often a request can be sent, at the tree -/
def snC (t leaf c : Int) : Nat → Hp → Int × Hp
  | 0, G => (0, G)
  | k + 1, G => if lnT t G leaf c = -2 then (0, G) else ((snC t leaf c k (snT t leaf (lnT t G leaf c) c G)).1 + 1, (snC t leaf c k (snT t leaf (lnT t G leaf c) c G)).2)
theorem pof_eq {b u t n leaf c : Int} (hd : dj b u) (hl : 0 ≤ leaf ∧ leaf < n) (hc : 1 ≤ c) : ∀ (k : Nat) (F G : Hp), Tr n (F (u + 2)) → AcE b u F G t n → G t 0 = n → TrV G t → (pofS b u leaf c k F).1 = (snC t leaf c k G).1
  | 0, F, G, _, _, _, _ => rfl
  | k + 1, F, G, hT, ha, hn, hV => by
    have e := ha.lnd (leaf := leaf) (c := c) hT hl.2
    unfold pofS snC
    rw [e]
    by_cases z : lnT t G leaf c = -2
    · rw [if_pos z, if_pos z]
    · rw [if_neg z, if_neg z]
      obtain ⟨l1, -⟩ := lnT_ok hV (by omega) z
      have hd' := hd
      unfold dj at hd'
      have ih := pof_eq hd hl hc k (payS b u leaf (lnT t G leaf c) c F) (snT t leaf (lnT t G leaf c) c G) (by rw [payS_r (by omega)]; exact hT) (ha.pay hd hT hl.2 ⟨l1.1, by omega⟩) (by rw [snT_r (by omega)]; exact hn) (hV.snd ⟨hl.1, by omega⟩ hc z)
      rw [ih]
theorem snC_stop {t leaf c : Int} {k : Nat} {G : Hp} (h : lnT t G leaf c = -2) : snC t leaf c k G = (0, G) := by
  cases k with
  | zero => rfl
  | succ k => exact if_pos h
theorem snC_go {t leaf c : Int} {k : Nat} {G : Hp} (hk : 0 < k) (h : ¬ lnT t G leaf c = -2) : snC t leaf c k G = ((snC t leaf c (k - 1) (snT t leaf (lnT t G leaf c) c G)).1 + 1, (snC t leaf c (k - 1) (snT t leaf (lnT t G leaf c) c G)).2) := by
  cases k with
  | zero => omega
  | succ k => exact if_neg h
/-- what changes beside the limiter's state -/
theorem CI.fr {u v K : Int} {F G : Hp} (hs : SS u v) (h : CI 40 u v K F) (hq : ∀ a : Int, a < 64 → G a = F a) (h88 : ∀ a : Int, 88 ≤ a → a < 136 → G a = F a) : CI 40 u v K G := by
  unfold SS at hs
  have sta : ∀ b : Int, (b = 40 ∨ b = 88 ∨ b = 112) → StA b u K F → StA b u K G := fun b hb z => by
    have e : ∀ a : Int, b ≤ a → a < b + 24 → G a = F a := fun a h1 h2 => by
      by_cases q : a < 64
      · exact hq a q
      · exact h88 a (by omega) (by omega)
    have eu : ∀ a : Int, u ≤ a → a < u + 17 → G a = F a := fun a h1 h2 => hq a (by omega)
    exact ⟨z.1.fr eu, z.2.1.fr eu (fun a h => e a (by omega) (by omega)), z.2.2.1.fr eu (fun a h => e a (by omega) (by omega)), z.2.2.2.1.fr (fun a h => e a (by omega) (by omega)), z.2.2.2.2.fr eu (fun a h => e a (by omega) (by omega))⟩
  obtain ⟨h1, h2, h3, h4, h5, h6, h7, h8, h9, h10⟩ := h
  unfold CI
  rw [hq 0 (by omega), hq 3 (by omega), hq 1 (by omega), hq 2 (by omega), h88 88 (by omega) (by omega), h88 112 (by omega) (by omega)]
  exact ⟨h1, h2, sta 40 (by omega) h3, h4, h5, h6, h7, h8, fun z => sta 88 (by omega) (h9 z), fun z => sta 112 (by omega) (h10 z)⟩
theorem Rl.fr {u v K t : Int} {F G : Hp} (h : Rl u v K F t) (hq : ∀ a : Int, a < 64 → G a = F a) (h88 : ∀ a : Int, 88 ≤ a → a < 136 → G a = F a) (ht : ∀ a : Int, t ≤ a → a ≤ t + 16 → G a = F a) : Rl u v K G t := by
  obtain ⟨h1, h2, h3, h4, h5⟩ := h
  have hs := h1
  unfold SS at hs
  refine ⟨h1, h2.fr h1 hq h88, by rw [hq 1 (by omega)]; exact h3, ?_, ?_⟩
  · unfold RLs at h4 ⊢
    rw [hq u (by omega), hq (u + 1) (by omega), hq (u + 2) (by omega), hq (u + 3) (by omega), hq (u + 7) (by omega), hq (u + 8) (by omega), hq (u + 10) (by omega), hq (u + 11) (by omega), hq (u + 12) (by omega), hq (u + 13) (by omega), hq (u + 14) (by omega), hq (u + 15) (by omega), hq (u + 16) (by omega), ht t (by omega) (by omega), ht (t + 1) (by omega) (by omega), ht (t + 4) (by omega) (by omega), ht (t + 5) (by omega) (by omega), ht (t + 7) (by omega) (by omega), ht (t + 8) (by omega) (by omega)]
    exact h4
  · unfold RLd at h5 ⊢
    rw [hq 40 (by omega), hq (40 + 1) (by omega), hq (40 + 2) (by omega), hq (40 + 3) (by omega), hq (40 + 5) (by omega), hq (40 + 6) (by omega), hq (40 + 7) (by omega), hq (40 + 9) (by omega), hq (40 + 14) (by omega), hq (40 + 15) (by omega), hq (40 + 16) (by omega), hq (40 + 17) (by omega), hq (40 + 18) (by omega), ht t (by omega) (by omega), ht (t + 2) (by omega) (by omega), ht (t + 3) (by omega) (by omega), ht (t + 6) (by omega) (by omega), ht (t + 9) (by omega) (by omega), ht (t + 10) (by omega) (by omega), ht (t + 11) (by omega) (by omega), ht (t + 12) (by omega) (by omega), ht (t + 13) (by omega) (by omega), ht (t + 14) (by omega) (by omega), ht (t + 15) (by omega) (by omega), ht (t + 16) (by omega) (by omega)]
    exact h5
/-- the greatest cost, tried out from below -/
def mxS (f : Int → Int) : Nat → Int
  | 0 => 0
  | k + 1 => if f (k + 1) ≠ -2 then (k : Int) + 1 else mxS f k
theorem mxS_gc {f g : Int → Int} : ∀ k : Nat, (∀ c : Int, 1 ≤ c → c ≤ k → f c = g c) → mxS f k = gcS g k
  | 0, _ => rfl
  | k + 1, h => by
    unfold mxS gcS
    rw [h (k + 1) (by omega) (by omega), mxS_gc k (fun c h0 h1 => h c h0 (by omega))]
theorem mxS_s {f : Int → Int} {c : Int} (h : 1 ≤ c) : mxS f (c + 1 - 1).toNat = if f c ≠ -2 then c else mxS f (c - 1).toNat := by
  obtain ⟨k, hk⟩ : ∃ k : Nat, c = (k : Int) + 1 := ⟨(c - 1).toNat, by omega⟩
  subst hk
  rw [show ((k : Int) + 1 + 1 - 1).toNat = k + 1 by omega, show ((k : Int) + 1 - 1).toNat = k by omega]
  rfl

