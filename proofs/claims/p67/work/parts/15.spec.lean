/-! what the methods compute, as functions of whole numbers -/
def Tr (N : Int) (par : Int → Int) : Prop := ∀ n : Int, 0 ≤ n → n < N → -2 ≤ par n ∧ par n < n
def blkS (hd par : Int → Int) (c : Int) : Nat → Int → Int
  | 0, _ => -2
  | k + 1, n => if n < 0 then -2 else if hd n < c then n else blkS hd par c k (par n)
def askS (fu par al : Int → Int) (c : Int) : Nat → Int → Int
  | 0, _ => -2
  | k + 1, n => if n < 0 then -2 else if c ≤ fu n then n else if al n = 0 then askS fu par al c k (par n) else -2
def lendS (hd fu par al : Int → Int) (c n : Int) : Int := if blkS hd par c 13 n = -2 then askS fu par al c 13 n else -2
theorem blkS_neg {hd par : Int → Int} {c n : Int} {k : Nat} (h : n < 0) : blkS hd par c k n = -2 := by
  cases k with
  | zero => rfl
  | succ k => exact if_pos h
theorem blkS_hit {hd par : Int → Int} {c n : Int} {k : Nat} (hk : n < k) (h0 : 0 ≤ n) (h : hd n < c) : blkS hd par c k n = n := by
  cases k with
  | zero => omega
  | succ k => unfold blkS; rw [if_neg (by omega), if_pos h]
theorem blkS_up {hd par : Int → Int} {c n : Int} {k : Nat} (hk : n < k) (h0 : 0 ≤ n) (h : ¬ hd n < c) : blkS hd par c k n = blkS hd par c (k - 1) (par n) := by
  cases k with
  | zero => omega
  | succ k => rw [blkS, if_neg (by omega), if_neg h]; rfl
theorem askS_neg {fu par al : Int → Int} {c n : Int} {k : Nat} (h : n < 0) : askS fu par al c k n = -2 := by
  cases k with
  | zero => rfl
  | succ k => exact if_pos h
theorem askS_hit {fu par al : Int → Int} {c n : Int} {k : Nat} (hk : n < k) (h0 : 0 ≤ n) (h : c ≤ fu n) : askS fu par al c k n = n := by
  cases k with
  | zero => omega
  | succ k => unfold askS; rw [if_neg (by omega), if_pos h]
theorem askS_up {fu par al : Int → Int} {c n : Int} {k : Nat} (hk : n < k) (h0 : 0 ≤ n) (h : ¬ c ≤ fu n) (ha : al n = 0) : askS fu par al c k n = askS fu par al c (k - 1) (par n) := by
  cases k with
  | zero => omega
  | succ k => rw [askS, if_neg (by omega), if_neg h, if_pos ha]; rfl
theorem askS_stop {fu par al : Int → Int} {c n : Int} {k : Nat} (hk : n < k) (h0 : 0 ≤ n) (h : ¬ c ≤ fu n) (ha : ¬ al n = 0) : askS fu par al c k n = -2 := by
  cases k with
  | zero => omega
  | succ k => rw [askS, if_neg (by omega), if_neg h, if_neg ha]
/-- the answer is -2 or a node not above the start -/
theorem blkS_rng {hd par : Int → Int} {N c : Int} (hT : Tr N par) : ∀ (k : Nat) (n : Int), n < N → blkS hd par c k n = -2 ∨ (0 ≤ blkS hd par c k n ∧ blkS hd par c k n ≤ n)
  | 0, n, _ => Or.inl rfl
  | k + 1, n, h => by
    unfold blkS
    split
    · exact Or.inl rfl
    · split
      · exact Or.inr ⟨by omega, by omega⟩
      · have h1 := hT n (by omega) h
        rcases blkS_rng (hd := hd) (c := c) hT k (par n) (by omega) with q | q
        · exact Or.inl q
        · exact Or.inr ⟨q.1, by omega⟩
theorem askS_rng {fu par al : Int → Int} {N c : Int} (hT : Tr N par) : ∀ (k : Nat) (n : Int), n < N → askS fu par al c k n = -2 ∨ (0 ≤ askS fu par al c k n ∧ askS fu par al c k n ≤ n)
  | 0, n, _ => Or.inl rfl
  | k + 1, n, h => by
    unfold askS
    split
    · exact Or.inl rfl
    · split
      · exact Or.inr ⟨by omega, by omega⟩
      · split
        · have h1 := hT n (by omega) h
          rcases askS_rng (fu := fu) (al := al) (c := c) hT k (par n) (by omega) with q | q
          · exact Or.inl q
          · exact Or.inr ⟨q.1, by omega⟩
        · exact Or.inl rfl
theorem lendS_rng {hd fu par al : Int → Int} {N c n : Int} (hT : Tr N par) (h : n < N) : lendS hd fu par al c n = -2 ∨ (0 ≤ lendS hd fu par al c n ∧ lendS hd fu par al c n ≤ n) := by
  unfold lendS
  split
  · exact askS_rng hT 13 n h
  · exact Or.inl rfl
theorem blkS_cong {hd hd' par par' : Int → Int} {N c : Int} (hT : Tr N par) (h1 : ∀ n, 0 ≤ n → n < N → hd n = hd' n) (h2 : ∀ n, 0 ≤ n → n < N → par n = par' n) : ∀ (k : Nat) (n : Int), n < N → blkS hd par c k n = blkS hd' par' c k n
  | 0, n, _ => rfl
  | k + 1, n, h => by
    unfold blkS
    by_cases q : n < 0
    · rw [if_pos q, if_pos q]
    · have h3 := hT n (by omega) h
      rw [if_neg q, if_neg q, ← h1 n (by omega) h, ← h2 n (by omega) h, blkS_cong hT h1 h2 k (par n) (by omega)]
theorem askS_cong {fu fu' par par' al al' : Int → Int} {N c : Int} (hT : Tr N par) (h1 : ∀ n, 0 ≤ n → n < N → fu n = fu' n) (h2 : ∀ n, 0 ≤ n → n < N → par n = par' n) (h4 : ∀ n, 0 ≤ n → n < N → al n = al' n) : ∀ (k : Nat) (n : Int), n < N → askS fu par al c k n = askS fu' par' al' c k n
  | 0, n, _ => rfl
  | k + 1, n, h => by
    unfold askS
    by_cases q : n < 0
    · rw [if_pos q, if_pos q]
    · have h3 := hT n (by omega) h
      rw [if_neg q, if_neg q, ← h1 n (by omega) h, ← h2 n (by omega) h, ← h4 n (by omega) h, askS_cong hT h1 h2 h4 k (par n) (by omega)]
theorem lendS_cong {hd hd' fu fu' par par' al al' : Int → Int} {N c n : Int} (hT : Tr N par) (h0 : ∀ n, 0 ≤ n → n < N → hd n = hd' n) (h1 : ∀ n, 0 ≤ n → n < N → fu n = fu' n) (h2 : ∀ n, 0 ≤ n → n < N → par n = par' n) (h4 : ∀ n, 0 ≤ n → n < N → al n = al' n) (h : n < N) : lendS hd fu par al c n = lendS hd' fu' par' al' c n := by
  unfold lendS
  rw [blkS_cong hT h0 h2 13 n h, askS_cong hT h1 h2 h4 13 n h]
def sumN (f : Int → Int) : Nat → Int
  | 0 => 0
  | k + 1 => sumN f k + f k
def maxN (f : Int → Int) : Nat → Int
  | 0 => 0
  | k + 1 => max (maxN f k) (f k)
theorem sumN_s {f : Int → Int} {i : Int} (h : 0 ≤ i) : sumN f (i + 1).toNat = sumN f i.toNat + f i := by
  obtain ⟨k, rfl⟩ : ∃ k : Nat, i = k := ⟨i.toNat, by omega⟩
  rfl
theorem maxN_s {f : Int → Int} {i : Int} (h : 0 ≤ i) : maxN f (i + 1).toNat = max (maxN f i.toNat) (f i) := by
  obtain ⟨k, rfl⟩ : ∃ k : Nat, i = k := ⟨i.toNat, by omega⟩
  rfl
theorem sumN_bd {f : Int → Int} {c : Int} : ∀ (n : Nat), (∀ k : Int, 0 ≤ k → k < n → 0 ≤ f k ∧ f k ≤ c) → 0 ≤ sumN f n ∧ sumN f n ≤ c * n
  | 0, _ => by simp [sumN]
  | n + 1, h => by
    have h1 := sumN_bd n (fun k h0 h1 => h k h0 (by omega))
    have h2 := h n (by omega) (by omega)
    unfold sumN
    have e : c * ((n + 1 : Nat) : Int) = c * n + c := by rw [Int.natCast_add, Int.mul_add]; simp
    rw [e]
    omega
theorem maxN_bd {f : Int → Int} {c : Int} (hc : 0 ≤ c) : ∀ (n : Nat), (∀ k : Int, 0 ≤ k → k < n → 0 ≤ f k ∧ f k ≤ c) → 0 ≤ maxN f n ∧ maxN f n ≤ c
  | 0, _ => ⟨by simp [maxN], hc⟩
  | n + 1, h => by
    have h1 := maxN_bd hc n (fun k h0 h1 => h k h0 (by omega))
    have h2 := h n (by omega) (by omega)
    unfold maxN
    omega
theorem sumN_cong {f g : Int → Int} : ∀ (n : Nat), (∀ k : Int, 0 ≤ k → k < n → f k = g k) → sumN f n = sumN g n
  | 0, _ => rfl
  | n + 1, h => by
    unfold sumN
    rw [sumN_cong n (fun k h0 h1 => h k h0 (by omega)), h n (by omega) (by omega)]
/-- a row of zeroes -/
def fillz (F : Hp) (t n : Int) : Hp := fun a i => if a = t ∧ 0 ≤ i ∧ i < n then 0 else F a i
theorem fillz_0 {F : Hp} {t : Int} : fillz F t 0 = F := by
  funext a i
  exact if_neg (by omega)
theorem fillz_up {F : Hp} {t n : Int} (h : 0 ≤ n) : up (fillz F t n) t n 0 = fillz F t (n + 1) := by
  funext a i
  unfold up fillz
  by_cases q : a = t ∧ i = n
  · rw [if_pos q, if_pos ⟨q.1, by omega, by omega⟩]
  · rw [if_neg q]
    by_cases r : a = t ∧ 0 ≤ i ∧ i < n
    · rw [if_pos r, if_pos ⟨r.1, by omega, by omega⟩]
    · rw [if_neg r, if_neg (fun z => r ⟨z.1, z.2.1, by have := z.1; omega⟩)]
/-- child k of a node, from i on -/
def chS (par : Int → Int) (node N : Int) (k : Int) : Nat → Int → Int
  | 0, _ => -2
  | q + 1, i => if N ≤ i then -2 else if par i = node then (if k = 0 then i else chS par node N (k - 1) q (i + 1)) else chS par node N k q (i + 1)
theorem chS_end {par : Int → Int} {node N k i : Int} {q : Nat} (h : N ≤ i) : chS par node N k q i = -2 := by
  cases q with
  | zero => rfl
  | succ q => exact if_pos h
theorem chS_hit {par : Int → Int} {node N k i : Int} {q : Nat} (hq : N - i ≤ q) (h : i < N) (hp : par i = node) (hk : k = 0) : chS par node N k q i = i := by
  cases q with
  | zero => omega
  | succ q => rw [chS, if_neg (by omega), if_pos hp, if_pos hk]
theorem chS_next {par : Int → Int} {node N k i : Int} {q : Nat} (hq : N - i ≤ q) (h : i < N) (hp : par i = node) (hk : ¬ k = 0) : chS par node N k q i = chS par node N (k - 1) (q - 1) (i + 1) := by
  cases q with
  | zero => omega
  | succ q => rw [chS, if_neg (by omega), if_pos hp, if_neg hk]; rfl
theorem chS_skip {par : Int → Int} {node N k i : Int} {q : Nat} (hq : N - i ≤ q) (h : i < N) (hp : ¬ par i = node) : chS par node N k q i = chS par node N k (q - 1) (i + 1) := by
  cases q with
  | zero => omega
  | succ q => rw [chS, if_neg (by omega), if_neg hp]; rfl
theorem cpy_k {F : Hp} {a sp t dp n q i : Int} (h : q ≠ t) : cpy F a sp t dp n q i = F q i := if_neg fun z => h z.1
theorem cpy_in {F : Hp} {a sp t dp n i : Int} (h : dp ≤ i) (h2 : i < dp + n) : cpy F a sp t dp n t i = F a (sp + (i - dp)) := if_pos ⟨rfl, h, h2⟩
theorem cpy_out {F : Hp} {a sp t dp n i : Int} (h : i < dp ∨ dp + n ≤ i) : cpy F a sp t dp n t i = F t i := if_neg fun z => by omega
theorem fillz_k {F : Hp} {t n q i : Int} (h : q ≠ t) : fillz F t n q i = F q i := if_neg fun z => h z.1
theorem fillz_in {F : Hp} {t n i : Int} (h : 0 ≤ i) (h2 : i < n) : fillz F t n t i = 0 := if_pos ⟨rfl, h, h2⟩
/-- a row moved by one, its first place anew -/
def pf (F : Hp) (t v : Int) : Hp := up (cpy F t 0 t 1 23) t 0 v
theorem pf_k {F : Hp} {t v q i : Int} (h : q ≠ t) : pf F t v q i = F q i := by unfold pf; rw [up_k h, cpy_k h]
theorem pf_0 {F : Hp} {t v : Int} : pf F t v t 0 = v := up_s
theorem pf_s {F : Hp} {t v i : Int} (h : 1 ≤ i) (h2 : i < 24) : pf F t v t i = F t (i - 1) := by
  unfold pf
  rw [up_i (by omega), cpy_in (by omega) (by omega)]
  congr 1
  omega
