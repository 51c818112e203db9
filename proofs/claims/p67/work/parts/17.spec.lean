
/-! the state's operations: b the state's cell, u the setup's -/
def precB (pr se we : Int → Int) (m n : Int) : Bool := decide (pr m < pr n ∨ (pr m = pr n ∧ se m * we n < se n * we m))
def choS (dist : Int → Int) (prec : Int → Int → Bool) : Nat → Int × Int
  | 0 => (-2, -2)
  | k + 1 => if dist k ≠ -2 ∧ ((choS dist prec k).1 = -2 ∨ dist k < (choS dist prec k).2 ∨ (dist k = (choS dist prec k).2 ∧ prec k (choS dist prec k).1 = true)) then ((k : Int), dist k) else choS dist prec k
theorem choS_s {dist : Int → Int} {prec : Int → Int → Bool} {i : Int} (h : 0 ≤ i) : choS dist prec (i + 1).toNat = if dist i ≠ -2 ∧ ((choS dist prec i.toNat).1 = -2 ∨ dist i < (choS dist prec i.toNat).2 ∨ (dist i = (choS dist prec i.toNat).2 ∧ prec i (choS dist prec i.toNat).1 = true)) then (i, dist i) else choS dist prec i.toNat := by
  obtain ⟨k, rfl⟩ : ∃ k : Nat, i = k := ⟨i.toNat, by omega⟩
  rfl
theorem choS_rng {dist : Int → Int} {prec : Int → Int → Bool} : ∀ (k : Nat), ((choS dist prec k).1 = -2 ∧ (choS dist prec k).2 = -2) ∨ (0 ≤ (choS dist prec k).1 ∧ (choS dist prec k).1 < k ∧ (choS dist prec k).2 = dist (choS dist prec k).1 ∧ dist (choS dist prec k).1 ≠ -2)
  | 0 => Or.inl ⟨rfl, rfl⟩
  | k + 1 => by
    unfold choS
    split
    · rename_i h
      exact Or.inr ⟨by dsimp only; omega, by dsimp only; omega, rfl, h.1⟩
    · rcases choS_rng (dist := dist) (prec := prec) k with q | q
      · exact Or.inl q
      · exact Or.inr ⟨q.1, by omega, q.2.2⟩
theorem blkS_all {hd par : Int → Int} {c : Int} : ∀ (k : Nat) (n : Int), blkS hd par c k n = -2 → ∀ i, onP par k n i = true → c ≤ hd i
  | 0, n, _, i, h => by cases h
  | k + 1, n, hb, i, h => by
    unfold blkS at hb
    unfold onP at h
    by_cases q : n < 0
    · rw [if_pos q] at h; cases h
    · rw [if_neg q] at h hb
      by_cases r : hd n < c
      · rw [if_pos r] at hb; omega
      · rw [if_neg r] at hb
        by_cases z : i = n
        · subst z; omega
        · rw [if_neg z] at h
          exact blkS_all k (par n) hb i h
theorem askS_en {fu par al : Int → Int} {c : Int} : ∀ (k : Nat) (n : Int), askS fu par al c k n ≠ -2 → c ≤ fu (askS fu par al c k n)
  | 0, n, h => absurd rfl h
  | k + 1, n, h => by
    unfold askS at h ⊢
    by_cases q : n < 0
    · rw [if_pos q] at h; exact absurd rfl h
    · rw [if_neg q] at h ⊢
      by_cases r : c ≤ fu n
      · rw [if_pos r]; exact r
      · rw [if_neg r] at h ⊢
        by_cases z : al n = 0
        · rw [if_pos z] at h ⊢; exact askS_en k (par n) h
        · rw [if_neg z] at h; exact absurd rfl h
def lndS (b u : Int) (F : Hp) (leaf c : Int) : Int := lendS (F (b + 7)) (fun n => F (b + 5) n + F (b + 6) n) (F (u + 2)) (F (u + 11)) c leaf
/-- a lender: on the path, with the means, and no headroom stands in the way -/
def lOk (b u : Int) (F : Hp) (leaf l c : Int) : Prop := (0 ≤ l ∧ l ≤ leaf) ∧ onP (F (u + 2)) 13 leaf l = true ∧ c ≤ F (b + 5) l + F (b + 6) l ∧ ∀ i, onP (F (u + 2)) 13 leaf i = true → c ≤ F (b + 7) i
theorem lndS_ok {b u : Int} {F : Hp} {N leaf c : Int} (hT : Tr N (F (u + 2))) (h : leaf < N) (hl : lndS b u F leaf c ≠ -2) : lOk b u F leaf (lndS b u F leaf c) c := by
  have h1 := lendS_rng (hd := F (b + 7)) (fu := fun n => F (b + 5) n + F (b + 6) n) (al := F (u + 11)) (c := c) hT h
  have h2 := lendS_on hT h hl
  have h3 : blkS (F (b + 7)) (F (u + 2)) c 13 leaf = -2 := by
    unfold lndS lendS at hl
    split at hl
    · assumption
    · exact absurd rfl hl
  have h4 : lndS b u F leaf c = askS (fun n => F (b + 5) n + F (b + 6) n) (F (u + 2)) (F (u + 11)) c 13 leaf := by
    unfold lndS lendS
    rw [if_pos h3]
  refine ⟨by unfold lndS at *; omega, h2, ?_, blkS_all 13 leaf h3⟩
  rw [h4] at hl ⊢
  exact askS_en (fu := fun n => F (b + 5) n + F (b + 6) n) 13 leaf hl
theorem lndS_rng {b u : Int} {F : Hp} {N leaf c : Int} (hT : Tr N (F (u + 2))) (h : leaf < N) : lndS b u F leaf c = -2 ∨ (0 ≤ lndS b u F leaf c ∧ lndS b u F leaf c ≤ leaf) := lendS_rng hT h
def dstS (b u : Int) (F : Hp) (n : Int) : Int := if F (b + 9) n = 0 then -2 else if lndS b u F n (F (b + 11) (n * 16)) = -2 then -2 else F (u + 3) n - F (u + 3) (lndS b u F n (F (b + 11) (n * 16)))
def chlS (b u : Int) (F : Hp) : Int := (choS (dstS b u F) (precB (F (u + 10)) (F (b + 14)) (F (b + 3))) (F u 0).toNat).1
def payS (b u leaf l c : Int) (F : Hp) : Hp := fun a i =>
  if a = b + 7 ∧ onP (F (u + 2)) 13 leaf i = true then F a i - c
  else if a = b + 5 ∧ onP (F (u + 2)) 13 leaf i = true ∧ i ≤ l then F a i - min (F a i) c
  else if a = b + 6 ∧ i = l then F a i - (c - min (F (b + 5) l) c)
  else F a i
def cntS (b leaf l c : Int) (F : Hp) : Hp := if l = leaf then up (up F (b + 14) leaf (F (b + 14) leaf + c)) (b + 15) leaf (F (b + 15) leaf + 1) else up (up (up (up F (b + 14) leaf (F (b + 14) leaf + c)) (b + 15) leaf (F (b + 15) leaf + 1)) (b + 16) leaf (F (b + 16) leaf + c)) (b + 17) l (F (b + 17) l + c)
def lgS (b lf co le ti : Int) (F : Hp) : Hp := up (pf (pf (pf (pf F (b + 20) lf) (b + 21) co) (b + 22) le) (b + 23) ti) (b + 19) 0 (min 24 (F (b + 19) 0 + 1))
def sndS (b u leaf l c : Int) (F : Hp) : Hp := lgS b leaf c l (F b 1) (cntS b leaf l c (payS b u leaf l c F))
def rmS (b leaf : Int) (F : Hp) : Hp := cpy (cpy (cpy (up F (b + 9) leaf (F (b + 9) leaf - 1)) (b + 10) (leaf * 16 + 1) (b + 10) (leaf * 16) 15) (b + 11) (leaf * 16 + 1) (b + 11) (leaf * 16) 15) (b + 12) (leaf * 16 + 1) (b + 12) (leaf * 16) 15
def putS (b leaf cost time : Int) (F : Hp) : Hp := up (up (up (up (up F (b + 10) (leaf * 16 + F (b + 9) leaf) (F (b + 8) 4)) (b + 11) (leaf * 16 + F (b + 9) leaf) cost) (b + 12) (leaf * 16 + F (b + 9) leaf) time) (b + 9) leaf (F (b + 9) leaf + 1)) (b + 8) 4 (F (b + 8) 4 + 1)
def rfS1 (b u node : Int) (F : Hp) : Hp := up (up (up F (b + 5) node (F (b + 5) node + F (b + 1) node - max 0 (F (b + 5) node + F (b + 1) node - F (u + 7) node))) (b + 6) node (min (F (u + 8) node) (F (b + 6) node + max 0 (F (b + 5) node + F (b + 1) node - F (u + 7) node)))) (b + 7) node (min (F (u + 7) node) (F (b + 7) node + F (b + 2) node))
def refS (b u : Int) : Nat → Hp → Hp
  | 0, F => F
  | k + 1, F => rfS1 b u k (refS b u k F)
def plc (s : Int) : Int := if s = 0 then 1 else if s = 1 then 2 else 3
def chS1 (b u k : Int) (F : Hp) : Hp := if F (u + 13) k = F b 1 then up F (b + plc (F (u + 15) k)) (F (u + 14) k) (F (u + 16) k) else F
def chgS (b u : Int) : Nat → Hp → Hp
  | 0, F => F
  | k + 1, F => chS1 b u k (chgS b u k F)
def oldF (b leaf age : Int) (F : Hp) : Bool := decide (0 < F (b + 9) leaf ∧ age < F b 1 - F (b + 12) (leaf * 16))
def drp1 (b u leaf : Int) : Nat → Hp → Hp
  | 0, F => F
  | k + 1, F => if oldF b leaf (F u 14) F = true then drp1 b u leaf k (up (rmS b leaf F) (b + 18) leaf (F (b + 18) leaf + 1)) else F
def drpS (b u : Int) : Nat → Hp → Hp
  | 0, F => F
  | k + 1, F => drp1 b u k 16 (drpS b u k F)
def drpA (b u : Int) (F : Hp) : Hp := if F u 14 = -1 then F else drpS b u (F u 0).toNat F
def dspS (b u : Int) : Nat → Hp → Int × Hp
  | 0, F => (0, F)
  | k + 1, F => if chlS b u F = -2 then (0, F) else
      ((dspS b u k (rmS b (chlS b u F) (sndS b u (chlS b u F) (lndS b u F (chlS b u F) (F (b + 11) (chlS b u F * 16))) (F (b + 11) (chlS b u F * 16)) F))).1 + 1,
       (dspS b u k (rmS b (chlS b u F) (sndS b u (chlS b u F) (lndS b u F (chlS b u F) (F (b + 11) (chlS b u F * 16))) (F (b + 11) (chlS b u F * 16)) F))).2)
def tikP (b u : Int) (F : Hp) : Hp := drpA b u (refS b u (F u 0).toNat (chgS b u (F (u + 12) 0).toNat (up F b 1 (F b 1 + 1))))
def tikS (b u : Int) (F : Hp) : Int × Hp := dspS b u (F u 13).toNat (tikP b u F)
def tksS (b u : Int) : Nat → Hp → Int × Hp
  | 0, F => (0, F)
  | k + 1, F => ((tksS b u k F).1 + (tikS b u (tksS b u k F).2).1, (tikS b u (tksS b u k F).2).2)
def pofS (b u leaf c : Int) : Nat → Hp → Int × Hp
  | 0, F => (0, F)
  | k + 1, F => if lndS b u F leaf c = -2 then (0, F) else ((pofS b u leaf c k (payS b u leaf (lndS b u F leaf c) c F)).1 + 1, (pofS b u leaf c k (payS b u leaf (lndS b u F leaf c) c F)).2)
def begS (b u : Int) (F : Hp) : Hp := up (fillz (fillz (fillz (fillz (fillz (up (fillz (fillz (cpy (cpy (cpy (cpy (cpy (up F b 1 0) (u + 5) 0 (b + 1) 0 12) (u + 6) 0 (b + 2) 0 12) (u + 9) 0 (b + 3) 0 12) (u + 7) 0 (b + 5) 0 12) (u + 7) 0 (b + 7) 0 12) (b + 6) 12) (b + 9) 12) (b + 8) 4 0) (b + 14) 12) (b + 15) 12) (b + 16) 12) (b + 17) 12) (b + 18) 12) (b + 19) 0 0
def cpS (e b : Int) (F : Hp) : Hp := fun a i => if a = b ∧ i = 1 then F e 1 else if a = b + 8 ∧ i = 4 then F (e + 8) 4 else if a = b + 19 ∧ i = 0 then F (e + 19) 0
  else if (a = b + 1 ∨ a = b + 2 ∨ a = b + 3 ∨ a = b + 5 ∨ a = b + 6 ∨ a = b + 7 ∨ a = b + 9 ∨ a = b + 14 ∨ a = b + 15 ∨ a = b + 16 ∨ a = b + 17 ∨ a = b + 18) ∧ 0 ≤ i ∧ i < 12 then F (e + (a - b)) i
  else if (a = b + 10 ∨ a = b + 11 ∨ a = b + 12) ∧ 0 ≤ i ∧ i < 192 then F (e + (a - b)) i
  else if (a = b + 20 ∨ a = b + 21 ∨ a = b + 22 ∨ a = b + 23) ∧ 0 ≤ i ∧ i < 24 then F (e + (a - b)) i else F a i
/-! what stays of a setup and of a state -/
def SuI (u : Int) (F : Hp) : Prop := (0 ≤ F u 0 ∧ F u 0 ≤ 12) ∧ Tr (F u 0) (F (u + 2)) ∧
  (∀ n : Int, 0 ≤ n → n < F u 0 → (n = 0 → F (u + 2) n = -2) ∧ (1 ≤ n → 0 ≤ F (u + 2) n)) ∧
  (∀ n : Int, 0 ≤ n → n < F u 0 → (0 ≤ F (u + 3) n ∧ F (u + 3) n ≤ n) ∧ (F (u + 2) n < 0 → F (u + 3) n = 0) ∧ (0 ≤ F (u + 2) n → F (u + 3) n = F (u + 3) (F (u + 2) n) + 1)) ∧
  (∀ n : Int, 0 ≤ n → n < F u 0 → 0 ≤ F (u + 4) n ∧ F (u + 4) n ≤ 12) ∧
  (∀ n : Int, 0 ≤ n → n < F u 0 → (F (u + 4) n = 0 ↔ ∀ k : Int, 0 ≤ k → k < F u 0 → F (u + 2) k ≠ n)) ∧
  (∀ n : Int, 0 ≤ n → n < F u 0 → (0 ≤ F (u + 5) n ∧ F (u + 5) n ≤ 99) ∧ (0 ≤ F (u + 6) n ∧ F (u + 6) n ≤ 999) ∧ (1 ≤ F (u + 7) n ∧ F (u + 7) n ≤ 999) ∧ (0 ≤ F (u + 8) n ∧ F (u + 8) n ≤ 999) ∧ (1 ≤ F (u + 9) n ∧ F (u + 9) n ≤ 9) ∧ (0 ≤ F (u + 10) n ∧ F (u + 10) n ≤ 7)) ∧
  (∀ n : Int, 0 ≤ n → n < F u 0 → 0 ≤ F (u + 11) n ∧ F (u + 11) n ≤ 1) ∧
  (0 ≤ F u 13 ∧ F u 13 ≤ 99) ∧ (-1 ≤ F u 14 ∧ F u 14 ≤ 999) ∧ (0 ≤ F (u + 12) 0 ∧ F (u + 12) 0 ≤ 12) ∧
  (∀ k : Int, 0 ≤ k → k < F (u + 12) 0 → (1 ≤ F (u + 13) k ∧ F (u + 13) k ≤ 5000) ∧ (0 ≤ F (u + 14) k ∧ F (u + 14) k < F u 0) ∧ (F (u + 15) k = 0 ∨ F (u + 15) k = 1 ∨ F (u + 15) k = 4) ∧ (0 ≤ F (u + 16) k ∧ F (u + 16) k ≤ 999) ∧ (F (u + 15) k = 0 → F (u + 16) k ≤ 99) ∧ (F (u + 15) k = 4 → 1 ≤ F (u + 16) k ∧ F (u + 16) k ≤ 9))
def AcI (b u : Int) (F : Hp) : Prop := ∀ n : Int, 0 ≤ n → n < F u 0 → (0 ≤ F (b + 1) n ∧ F (b + 1) n ≤ 99) ∧ (0 ≤ F (b + 2) n ∧ F (b + 2) n ≤ 999) ∧ (1 ≤ F (b + 3) n ∧ F (b + 3) n ≤ 9) ∧ (0 ≤ F (b + 5) n ∧ F (b + 5) n ≤ F (u + 7) n) ∧ (0 ≤ F (b + 6) n ∧ F (b + 6) n ≤ F (u + 8) n) ∧ (0 ≤ F (b + 7) n ∧ F (b + 7) n ≤ F (u + 7) n)
def QuI (b u : Int) (F : Hp) : Prop := (0 ≤ F b 1 ∧ F b 1 ≤ 5000) ∧ (∀ n : Int, 0 ≤ n → n < F u 0 → (0 ≤ F (b + 9) n ∧ F (b + 9) n ≤ 16) ∧ (F (u + 4) n ≠ 0 → F (b + 9) n = 0)) ∧
  ∀ n : Int, 0 ≤ n → n < F u 0 → ∀ k : Int, 0 ≤ k → k < F (b + 9) n → (1 ≤ F (b + 11) (n * 16 + k) ∧ F (b + 11) (n * 16 + k) ≤ 99) ∧ (0 ≤ F (b + 12) (n * 16 + k) ∧ F (b + 12) (n * 16 + k) ≤ F b 1)
def LoI (b : Int) (F : Hp) : Prop := (0 ≤ F (b + 19) 0 ∧ F (b + 19) 0 ≤ 24) ∧ ∀ k : Int, 0 ≤ k → k < F (b + 19) 0 → (0 ≤ F (b + 23) k ∧ F (b + 23) k ≤ F b 1) ∧ (0 ≤ F (b + 21) k ∧ F (b + 21) k ≤ 99)
def BdS (b u K : Int) (F : Hp) : Prop := ∀ n : Int, 0 ≤ n → n < F u 0 → 0 ≤ F (b + 14) n ∧ F (b + 14) n + 99 * F (b + 9) n ≤ K
abbrev dj (b u : Int) : Prop := b + 24 ≤ u ∨ u + 17 ≤ b
theorem SuI.fr {u : Int} {F G : Hp} (e : ∀ a : Int, u ≤ a → a < u + 17 → G a = F a) (h : SuI u F) : SuI u G := by
  unfold SuI at h ⊢
  rw [e u (by omega) (by omega), e (u + 2) (by omega) (by omega), e (u + 3) (by omega) (by omega), e (u + 4) (by omega) (by omega), e (u + 5) (by omega) (by omega), e (u + 6) (by omega) (by omega), e (u + 7) (by omega) (by omega), e (u + 8) (by omega) (by omega), e (u + 9) (by omega) (by omega), e (u + 10) (by omega) (by omega), e (u + 11) (by omega) (by omega), e (u + 12) (by omega) (by omega), e (u + 13) (by omega) (by omega), e (u + 14) (by omega) (by omega), e (u + 15) (by omega) (by omega), e (u + 16) (by omega) (by omega)]
  exact h
theorem AcI.fr {b u : Int} {F G : Hp} (eu : ∀ a : Int, u ≤ a → a < u + 17 → G a = F a) (e : ∀ a : Int, a = b + 1 ∨ a = b + 2 ∨ a = b + 3 ∨ a = b + 5 ∨ a = b + 6 ∨ a = b + 7 → G a = F a) (h : AcI b u F) : AcI b u G := by
  unfold AcI at h ⊢
  rw [eu u (by omega) (by omega), eu (u + 7) (by omega) (by omega), eu (u + 8) (by omega) (by omega), e (b + 1) (by omega), e (b + 2) (by omega), e (b + 3) (by omega), e (b + 5) (by omega), e (b + 6) (by omega), e (b + 7) (by omega)]
  exact h
theorem QuI.fr {b u : Int} {F G : Hp} (eu : ∀ a : Int, u ≤ a → a < u + 17 → G a = F a) (e : ∀ a : Int, a = b ∨ a = b + 9 ∨ a = b + 11 ∨ a = b + 12 → G a = F a) (h : QuI b u F) : QuI b u G := by
  unfold QuI at h ⊢
  rw [eu u (by omega) (by omega), eu (u + 4) (by omega) (by omega), e b (by omega), e (b + 9) (by omega), e (b + 11) (by omega), e (b + 12) (by omega)]
  exact h
theorem LoI.fr {b : Int} {F G : Hp} (e : ∀ a : Int, a = b ∨ a = b + 19 ∨ a = b + 21 ∨ a = b + 23 → G a = F a) (h : LoI b F) : LoI b G := by
  unfold LoI at h ⊢
  rw [e b (by omega), e (b + 19) (by omega), e (b + 21) (by omega), e (b + 23) (by omega)]
  exact h
theorem BdS.fr {b u K : Int} {F G : Hp} (eu : ∀ a : Int, u ≤ a → a < u + 17 → G a = F a) (e : ∀ a : Int, a = b + 9 ∨ a = b + 14 → G a = F a) (h : BdS b u K F) : BdS b u K G := by
  unfold BdS at h ⊢
  rw [eu u (by omega) (by omega), e (b + 9) (by omega), e (b + 14) (by omega)]
  exact h
/-! which rows an operation leaves -/
theorem up_r {F : Hp} {k i v a : Int} (h : a ≠ k) : up F k i v a = F a := by funext j; exact up_k h
theorem cpy_r {F : Hp} {a sp t dp n q : Int} (h : q ≠ t) : cpy F a sp t dp n q = F q := by funext j; exact cpy_k h
theorem fillz_r {F : Hp} {t n q : Int} (h : q ≠ t) : fillz F t n q = F q := by funext j; exact fillz_k h
theorem pf_r {F : Hp} {t v q : Int} (h : q ≠ t) : pf F t v q = F q := by funext j; exact pf_k h
theorem payS_r {b u leaf l c a : Int} {F : Hp} (h : a ≠ b + 5 ∧ a ≠ b + 6 ∧ a ≠ b + 7) : payS b u leaf l c F a = F a := by
  funext i
  unfold payS
  rw [if_neg (by omega), if_neg (by omega), if_neg (by omega)]
theorem cntS_r {b leaf l c a : Int} {F : Hp} (h : a ≠ b + 14 ∧ a ≠ b + 15 ∧ a ≠ b + 16 ∧ a ≠ b + 17) : cntS b leaf l c F a = F a := by
  unfold cntS
  split <;> simp (disch := omega) only [up_r]
theorem lgS_r {b lf co le ti a : Int} {F : Hp} (h : a < b + 19 ∨ b + 23 < a) : lgS b lf co le ti F a = F a := by
  unfold lgS
  simp (disch := omega) only [up_r, pf_r]
theorem sndS_r {b u leaf l c a : Int} {F : Hp} (h : a < b + 5 ∨ (b + 7 < a ∧ a < b + 14) ∨ a = b + 18 ∨ b + 23 < a) : sndS b u leaf l c F a = F a := by
  unfold sndS
  rw [lgS_r (by omega), cntS_r (by omega), payS_r (by omega)]
theorem rmS_r {b leaf a : Int} {F : Hp} (h : a ≠ b + 9 ∧ a ≠ b + 10 ∧ a ≠ b + 11 ∧ a ≠ b + 12) : rmS b leaf F a = F a := by
  unfold rmS
  simp (disch := omega) only [up_r, cpy_r]
theorem rfS1_r {b u n a : Int} {F : Hp} (h : a ≠ b + 5 ∧ a ≠ b + 6 ∧ a ≠ b + 7) : rfS1 b u n F a = F a := by
  unfold rfS1
  simp (disch := omega) only [up_r]
theorem refS_r {b u a : Int} (h : a ≠ b + 5 ∧ a ≠ b + 6 ∧ a ≠ b + 7) : ∀ (k : Nat) (F : Hp), refS b u k F a = F a
  | 0, F => rfl
  | k + 1, F => by unfold refS; rw [rfS1_r h, refS_r h k F]
theorem chS1_r {b u k a : Int} {F : Hp} (h : a ≠ b + 1 ∧ a ≠ b + 2 ∧ a ≠ b + 3) : chS1 b u k F a = F a := by
  unfold chS1 plc
  split
  · rw [up_r (by split <;> (try split) <;> omega)]
  · rfl
theorem chgS_r {b u a : Int} (h : a ≠ b + 1 ∧ a ≠ b + 2 ∧ a ≠ b + 3) : ∀ (k : Nat) (F : Hp), chgS b u k F a = F a
  | 0, F => rfl
  | k + 1, F => by unfold chgS; rw [chS1_r h, chgS_r h k F]
theorem drp1_r {b u leaf a : Int} (h : a < b + 9 ∨ (b + 12 < a ∧ a ≠ b + 18)) : ∀ (k : Nat) (F : Hp), drp1 b u leaf k F a = F a
  | 0, F => rfl
  | k + 1, F => by
    unfold drp1
    split
    · rw [drp1_r h k, up_r (by omega), rmS_r (by omega)]
    · rfl
theorem drpS_r {b u a : Int} (h : a < b + 9 ∨ (b + 12 < a ∧ a ≠ b + 18)) : ∀ (k : Nat) (F : Hp), drpS b u k F a = F a
  | 0, F => rfl
  | k + 1, F => by unfold drpS; rw [drp1_r h, drpS_r h k F]
theorem drpA_r {b u a : Int} {F : Hp} (h : a < b + 9 ∨ (b + 12 < a ∧ a ≠ b + 18)) : drpA b u F a = F a := by
  unfold drpA
  split
  · rfl
  · exact drpS_r h _ _
theorem dspS_r {b u a : Int} (h : a < b + 5 ∨ b + 23 < a ∨ a = b + 18) : ∀ (k : Nat) (F : Hp), (dspS b u k F).2 a = F a
  | 0, F => rfl
  | k + 1, F => by
    unfold dspS
    split
    · rfl
    · dsimp only
      rw [dspS_r h k, rmS_r (by omega), sndS_r (by omega)]
theorem tikP_r {b u a : Int} {F : Hp} (h : a < b ∨ b + 23 < a) : tikP b u F a = F a := by
  unfold tikP
  rw [drpA_r (by omega), refS_r (by omega), chgS_r (by omega), up_r (by omega)]
theorem tikS_r {b u a : Int} {F : Hp} (h : a < b ∨ b + 23 < a) : (tikS b u F).2 a = F a := by
  unfold tikS
  rw [dspS_r (by omega), tikP_r h]
theorem tksS_r {b u a : Int} (h : a < b ∨ b + 23 < a) : ∀ (k : Nat) (F : Hp), (tksS b u k F).2 a = F a
  | 0, F => rfl
  | k + 1, F => by unfold tksS; dsimp only; rw [tikS_r h, tksS_r h k F]
theorem pofS_r {b u leaf c a : Int} (h : a ≠ b + 5 ∧ a ≠ b + 6 ∧ a ≠ b + 7) : ∀ (k : Nat) (F : Hp), (pofS b u leaf c k F).2 a = F a
  | 0, F => rfl
  | k + 1, F => by
    unfold pofS
    split
    · rfl
    · dsimp only
      rw [pofS_r h k, payS_r h]
theorem PayI.fin {F G : Hp} {b u leaf l c node : Int} {N : Int} (hT : Tr N (F (u + 2))) (hl : leaf < N) (hl0 : 0 ≤ l) (hn : node < 0) (h : PayI F b (F (u + 2)) leaf l c node G) : G = payS b u leaf l c F := by
  obtain ⟨h7, h5, h6, h0⟩ := h
  have key : ∀ i, onP (F (u + 2)) 13 leaf i = true → node < i := fun i h2 => by have := onP_le hT _ _ _ hl h2; omega
  funext a i
  unfold payS
  by_cases q7 : a = b + 7
  · subst q7
    rw [h7 i]
    by_cases o : onP (F (u + 2)) 13 leaf i = true
    · rw [if_pos ⟨key i o, o⟩, if_pos ⟨rfl, o⟩]
    · rw [if_neg (fun z => o z.2), if_neg (fun z => o z.2), if_neg (by omega), if_neg (by omega)]
  · rw [if_neg (fun z => q7 z.1)]
    by_cases q5 : a = b + 5
    · subst q5
      rw [h5 i]
      by_cases o : onP (F (u + 2)) 13 leaf i = true ∧ i ≤ l
      · rw [if_pos ⟨key i o.1, o.1, o.2⟩, if_pos ⟨rfl, o.1, o.2⟩]
      · rw [if_neg (fun z => o z.2), if_neg (fun z => o z.2), if_neg (by omega)]
    · rw [if_neg (fun z => q5 z.1)]
      by_cases q6 : a = b + 6
      · subst q6
        rw [h6 i]
        by_cases o : i = l
        · rw [if_pos ⟨by omega, o⟩, if_pos ⟨rfl, o⟩]
        · rw [if_neg (fun z => o z.2), if_neg (fun z => o z.2)]
      · rw [if_neg (fun z => q6 z.1), h0 a i q5 q6 q7]
