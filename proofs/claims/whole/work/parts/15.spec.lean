/-! what the methods compute, as functions of whole numbers -/
def Tr (N : Int) (par : Int → Int) : Prop := ∀ n : Int, 0 ≤ n → n < N → -2 ≤ par n ∧ par n < n
def blkS (hd par : Int → Int) (c : Int) : Nat → Int → Int
  | 0, _ => -2
  | k + 1, n => if n < 0 then -2 else if hd n < c then n else blkS hd par c k (par n)
def askS (fu par al : Int → Int) (c : Int) : Nat → Int → Int
  | 0, _ => -2
  | k + 1, n => if n < 0 then -2 else if c ≤ fu n then n else if al n = 0 then askS fu par al c k (par n) else -2
def lendS (hd fu par al : Int → Int) (c n : Int) : Int := if blkS hd par c 13 n = -2 then askS fu par al c 13 n else -2
theorem blkS_neg {hd par : Int → Int} {c n : Int} {k : Nat} (h : n < 0) : blkS hd par c k n = -2 := by
  cases k with
  | zero => rfl
  | succ k => exact if_pos h
theorem blkS_hit {hd par : Int → Int} {c n : Int} {k : Nat} (hk : n < k) (h0 : 0 ≤ n) (h : hd n < c) : blkS hd par c k n = n := by
  cases k with
  | zero => omega
  | succ k => unfold blkS; rw [if_neg (by omega), if_pos h]
theorem blkS_up {hd par : Int → Int} {c n : Int} {k : Nat} (hk : n < k) (h0 : 0 ≤ n) (h : ¬ hd n < c) : blkS hd par c k n = blkS hd par c (k - 1) (par n) := by
  cases k with
  | zero => omega
  | succ k => rw [blkS, if_neg (by omega), if_neg h]; rfl
theorem askS_neg {fu par al : Int → Int} {c n : Int} {k : Nat} (h : n < 0) : askS fu par al c k n = -2 := by
  cases k with
  | zero => rfl
  | succ k => exact if_pos h
theorem askS_hit {fu par al : Int → Int} {c n : Int} {k : Nat} (hk : n < k) (h0 : 0 ≤ n) (h : c ≤ fu n) : askS fu par al c k n = n := by
  cases k with
  | zero => omega
  | succ k => unfold askS; rw [if_neg (by omega), if_pos h]
theorem askS_up {fu par al : Int → Int} {c n : Int} {k : Nat} (hk : n < k) (h0 : 0 ≤ n) (h : ¬ c ≤ fu n) (ha : al n = 0) : askS fu par al c k n = askS fu par al c (k - 1) (par n) := by
  cases k with
  | zero => omega
  | succ k => rw [askS, if_neg (by omega), if_neg h, if_pos ha]; rfl
theorem askS_stop {fu par al : Int → Int} {c n : Int} {k : Nat} (hk : n < k) (h0 : 0 ≤ n) (h : ¬ c ≤ fu n) (ha : ¬ al n = 0) : askS fu par al c k n = -2 := by
  cases k with
  | zero => omega
  | succ k => rw [askS, if_neg (by omega), if_neg h, if_neg ha]
/-- the answer is -2 or a node not above the start -/
theorem blkS_rng {hd par : Int → Int} {N c : Int} (hT : Tr N par) : ∀ (k : Nat) (n : Int), n < N → blkS hd par c k n = -2 ∨ (0 ≤ blkS hd par c k n ∧ blkS hd par c k n ≤ n)
  | 0, n, _ => Or.inl rfl
  | k + 1, n, h => by
    unfold blkS
    split
    · exact Or.inl rfl
    · split
      · exact Or.inr ⟨by omega, by omega⟩
      · have h1 := hT n (by omega) h
        rcases blkS_rng (hd := hd) (c := c) hT k (par n) (by omega) with q | q
        · exact Or.inl q
        · exact Or.inr ⟨q.1, by omega⟩
theorem askS_rng {fu par al : Int → Int} {N c : Int} (hT : Tr N par) : ∀ (k : Nat) (n : Int), n < N → askS fu par al c k n = -2 ∨ (0 ≤ askS fu par al c k n ∧ askS fu par al c k n ≤ n)
  | 0, n, _ => Or.inl rfl
  | k + 1, n, h => by
    unfold askS
    split
    · exact Or.inl rfl
    · split
      · exact Or.inr ⟨by omega, by omega⟩
      · split
        · have h1 := hT n (by omega) h
          rcases askS_rng (fu := fu) (al := al) (c := c) hT k (par n) (by omega) with q | q
          · exact Or.inl q
          · exact Or.inr ⟨q.1, by omega⟩
        · exact Or.inl rfl
theorem lendS_rng {hd fu par al : Int → Int} {N c n : Int} (hT : Tr N par) (h : n < N) : lendS hd fu par al c n = -2 ∨ (0 ≤ lendS hd fu par al c n ∧ lendS hd fu par al c n ≤ n) := by
  unfold lendS
  split
  · exact askS_rng hT 13 n h
  · exact Or.inl rfl
theorem blkS_cong {hd hd' par par' : Int → Int} {N c : Int} (hT : Tr N par) (h1 : ∀ n, 0 ≤ n → n < N → hd n = hd' n) (h2 : ∀ n, 0 ≤ n → n < N → par n = par' n) : ∀ (k : Nat) (n : Int), n < N → blkS hd par c k n = blkS hd' par' c k n
  | 0, n, _ => rfl
  | k + 1, n, h => by
    unfold blkS
    by_cases q : n < 0
    · rw [if_pos q, if_pos q]
    · have h3 := hT n (by omega) h
      rw [if_neg q, if_neg q, ← h1 n (by omega) h, ← h2 n (by omega) h, blkS_cong hT h1 h2 k (par n) (by omega)]
theorem askS_cong {fu fu' par par' al al' : Int → Int} {N c : Int} (hT : Tr N par) (h1 : ∀ n, 0 ≤ n → n < N → fu n = fu' n) (h2 : ∀ n, 0 ≤ n → n < N → par n = par' n) (h4 : ∀ n, 0 ≤ n → n < N → al n = al' n) : ∀ (k : Nat) (n : Int), n < N → askS fu par al c k n = askS fu' par' al' c k n
  | 0, n, _ => rfl
  | k + 1, n, h => by
    unfold askS
    by_cases q : n < 0
    · rw [if_pos q, if_pos q]
    · have h3 := hT n (by omega) h
      rw [if_neg q, if_neg q, ← h1 n (by omega) h, ← h2 n (by omega) h, ← h4 n (by omega) h, askS_cong hT h1 h2 h4 k (par n) (by omega)]
theorem lendS_cong {hd hd' fu fu' par par' al al' : Int → Int} {N c n : Int} (hT : Tr N par) (h0 : ∀ n, 0 ≤ n → n < N → hd n = hd' n) (h1 : ∀ n, 0 ≤ n → n < N → fu n = fu' n) (h2 : ∀ n, 0 ≤ n → n < N → par n = par' n) (h4 : ∀ n, 0 ≤ n → n < N → al n = al' n) (h : n < N) : lendS hd fu par al c n = lendS hd' fu' par' al' c n := by
  unfold lendS
  rw [blkS_cong hT h0 h2 13 n h, askS_cong hT h1 h2 h4 13 n h]
