/-! paths, paying, choosing -/
def onP (par : Int → Int) : Nat → Int → Int → Bool
  | 0, _, _ => false
  | k + 1, m, i => if m < 0 then false else if i = m then true else onP par k (par m) i
theorem onP_le {par : Int → Int} {N : Int} (hT : Tr N par) : ∀ (k : Nat) (m i : Int), m < N → onP par k m i = true → 0 ≤ i ∧ i ≤ m
  | 0, m, i, _, h => by cases h
  | k + 1, m, i, hm, h => by
    unfold onP at h
    by_cases q : m < 0
    · rw [if_pos q] at h; cases h
    · rw [if_neg q] at h
      by_cases r : i = m
      · omega
      · rw [if_neg r] at h
        have ht := hT m (by omega) hm
        have := onP_le hT k (par m) i (by omega) h
        omega
theorem onP_self {par : Int → Int} {k : Nat} {m : Int} (h0 : 0 ≤ m) (hk : m < k) : onP par k m m = true := by
  cases k with
  | zero => omega
  | succ k => rw [onP, if_neg (by omega), if_pos rfl]
theorem onP_up {par : Int → Int} {k : Nat} {m i : Int} (h0 : 0 ≤ m) (hk : m < k) (hi : i ≠ m) : onP par k m i = onP par (k - 1) (par m) i := by
  cases k with
  | zero => omega
  | succ k => rw [onP, if_neg (by omega), if_neg hi]; rfl
theorem onP_step {par : Int → Int} {N leaf node : Int} {k : Nat} (hT : Tr N par) (h0 : 0 ≤ node) (hn : node < N) (hk : node < k) (hr : ∀ i, i ≤ node → onP par 13 leaf i = onP par k node i) :
    onP par 13 leaf node = true ∧ (∀ i, par node < i → i < node → onP par 13 leaf i = false) ∧ (∀ i, i ≤ par node → onP par 13 leaf i = onP par (k - 1) (par node) i) := by
  have ht := hT node h0 hn
  refine ⟨by rw [hr node (Int.le_refl _), onP_self h0 hk], fun i h1 h2 => ?_, fun i h1 => ?_⟩
  · rw [hr i (by omega), onP_up h0 hk (by omega)]
    cases hb : onP par (k - 1) (par node) i with
    | false => rfl
    | true => have := onP_le hT _ _ _ (by omega) hb; omega
  · rw [hr i (by omega), onP_up h0 hk (by omega)]
theorem onP_cong {par par' : Int → Int} {N : Int} (hT : Tr N par) (h : ∀ n, 0 ≤ n → n < N → par n = par' n) : ∀ (k : Nat) (m i : Int), m < N → onP par k m i = onP par' k m i
  | 0, _, _, _ => rfl
  | k + 1, m, i, hm => by
    unfold onP
    by_cases q : m < 0
    · rw [if_pos q, if_pos q]
    · have ht := hT m (by omega) hm
      rw [if_neg q, if_neg q, ← h m (by omega) hm, onP_cong hT h k (par m) i (by omega)]
/-- a lender lies on the path -/
theorem askS_on {fu par al : Int → Int} {N c : Int} (hT : Tr N par) : ∀ (k : Nat) (n : Int), n < N → askS fu par al c k n ≠ -2 → onP par k n (askS fu par al c k n) = true
  | 0, n, _, h => absurd rfl h
  | k + 1, n, hn, h => by
    unfold askS at h ⊢
    by_cases q : n < 0
    · rw [if_pos q] at h; exact absurd rfl h
    · rw [if_neg q] at h ⊢
      by_cases r : c ≤ fu n
      · rw [if_pos r]
        unfold onP
        rw [if_neg q, if_pos rfl]
      · rw [if_neg r] at h ⊢
        by_cases z : al n = 0
        · rw [if_pos z] at h ⊢
          have ht := hT n (by omega) hn
          have h1 := askS_on hT k (par n) (by omega) h
          have h2 := onP_le hT _ _ _ (by omega) h1
          unfold onP
          rw [if_neg q, if_neg (by omega)]
          exact h1
        · rw [if_neg z] at h; exact absurd rfl h
theorem lendS_on {hd fu par al : Int → Int} {N c n : Int} (hT : Tr N par) (hn : n < N) (h : lendS hd fu par al c n ≠ -2) : onP par 13 n (lendS hd fu par al c n) = true := by
  unfold lendS at h ⊢
  split at h
  · rename_i q
    rw [if_pos q]
    exact askS_on hT 13 n hn h
  · exact absurd rfl h
/-- the accounts while a request is paid: those above 'node' on the path are done -/
def PayI (F : Hp) (b : Int) (par : Int → Int) (leaf l c node : Int) (G : Hp) : Prop :=
  (∀ i, G (b + 7) i = if node < i ∧ onP par 13 leaf i = true then F (b + 7) i - c else F (b + 7) i) ∧
  (∀ i, G (b + 5) i = if node < i ∧ onP par 13 leaf i = true ∧ i ≤ l then F (b + 5) i - min (F (b + 5) i) c else F (b + 5) i) ∧
  (∀ i, G (b + 6) i = if node < l ∧ i = l then F (b + 6) i - (c - min (F (b + 5) l) c) else F (b + 6) i) ∧
  ∀ a i, a ≠ b + 5 → a ≠ b + 6 → a ≠ b + 7 → G a i = F a i
theorem PayI.start {F : Hp} {b : Int} {par : Int → Int} {N leaf l c : Int} (hT : Tr N par) (hl : leaf < N) (hll : l ≤ leaf) : PayI F b par leaf l c leaf F := by
  have key : ∀ i, leaf < i → onP par 13 leaf i = true → False := fun i h1 h2 => by have := onP_le hT _ _ _ hl h2; omega
  refine ⟨fun i => (if_neg (fun q => key i q.1 q.2)).symm, fun i => (if_neg (fun q => key i q.1 q.2.1)).symm, fun i => (if_neg (by omega)).symm, fun _ _ _ _ _ => rfl⟩
theorem PayI.step {F G G' : Hp} {b : Int} {par : Int → Int} {N leaf l c node : Int} {k : Nat} (hI : PayI F b par leaf l c node G) (hT : Tr N par) (h0 : 0 ≤ node) (hn : node < N) (hk : node < k) (hr : ∀ i, i ≤ node → onP par 13 leaf i = onP par k node i) (hl : onP par 13 leaf l = true)
    (h7 : ∀ i, G' (b + 7) i = if i = node then F (b + 7) node - c else G (b + 7) i) (h5 : ∀ i, G' (b + 5) i = if i = node ∧ node ≤ l then F (b + 5) node - min (F (b + 5) node) c else G (b + 5) i)
    (h6 : ∀ i, G' (b + 6) i = if i = node ∧ node = l then F (b + 6) l - (c - min (F (b + 5) l) c) else G (b + 6) i) (hf : ∀ a i, a ≠ b + 5 → a ≠ b + 6 → a ≠ b + 7 → G' a i = G a i) : PayI F b par leaf l c (par node) G' := by
  obtain ⟨i7, i5, i6, i0⟩ := hI
  obtain ⟨s1, s2, s3⟩ := onP_step hT h0 hn hk hr
  have ht := hT node h0 hn
  have hbt : ∀ i, i ≠ node → onP par 13 leaf i = true → (par node < i ↔ node < i) := by
    intro i hne ho
    constructor
    · intro h
      rcases Int.lt_trichotomy i node with q | q | q
      · rw [s2 i h q] at ho; cases ho
      · exact absurd q hne
      · exact q
    · omega
  refine ⟨fun i => ?_, fun i => ?_, fun i => ?_, fun a i q1 q2 q3 => (hf a i q1 q2 q3).trans (i0 a i q1 q2 q3)⟩
  · rw [h7 i]
    by_cases hi : i = node
    · subst hi
      rw [if_pos rfl, if_pos ⟨by omega, s1⟩]
    · rw [if_neg hi, i7 i]
      by_cases ho : onP par 13 leaf i = true
      · have := hbt i hi ho
        by_cases q : node < i
        · rw [if_pos ⟨q, ho⟩, if_pos ⟨by omega, ho⟩]
        · rw [if_neg (fun z => q z.1), if_neg (fun z => q (this.mp z.1))]
      · rw [if_neg (fun z => ho z.2), if_neg (fun z => ho z.2)]
  · rw [h5 i]
    by_cases hi : i = node
    · subst hi
      by_cases hil : i ≤ l
      · rw [if_pos ⟨rfl, hil⟩, if_pos ⟨by omega, s1, hil⟩]
      · rw [if_neg (fun z => hil z.2), if_neg (fun z => hil z.2.2), i5 i, if_neg (by omega)]
    · rw [if_neg (fun z => hi z.1), i5 i]
      by_cases ho : onP par 13 leaf i = true
      · have := hbt i hi ho
        by_cases q : node < i ∧ i ≤ l
        · rw [if_pos ⟨q.1, ho, q.2⟩, if_pos ⟨by omega, ho, q.2⟩]
        · rw [if_neg (fun z => q ⟨z.1, z.2.2⟩), if_neg (fun z => q ⟨this.mp z.1, z.2.2⟩)]
      · rw [if_neg (fun z => ho z.2.1), if_neg (fun z => ho z.2.1)]
  · rw [h6 i]
    by_cases hi : i = node ∧ node = l
    · rw [if_pos hi, if_pos ⟨by omega, by omega⟩, hi.1, hi.2]
    · rw [if_neg hi, i6 i]
      by_cases q : i = l
      · subst q
        have hne : i ≠ node := fun e => hi ⟨e, e.symm⟩
        have := hbt i hne hl
        by_cases r : node < i
        · rw [if_pos ⟨r, rfl⟩, if_pos ⟨by omega, rfl⟩]
        · rw [if_neg (fun z => r z.1), if_neg (fun z => r (this.mp z.1))]
      · rw [if_neg (fun z => q z.2), if_neg (fun z => q z.2)]
theorem mul_rng {x y A B : Int} (hx : 0 ≤ x ∧ x ≤ A) (hy : 0 ≤ y ∧ y ≤ B) : 0 ≤ x * y ∧ x * y ≤ A * B :=
  ⟨Int.mul_nonneg hx.1 hy.1, Int.mul_le_mul hx.2 hy.2 hy.1 (by omega)⟩
/-- the leaf that is chosen among the first k, and its distance -/
def chooseS (dist : Int → Int) (prec : Int → Int → Prop) [∀ a b, Decidable (prec a b)] : Nat → Int × Int
  | 0 => (-2, -2)
  | k + 1 => if dist k ≠ -2 ∧ ((chooseS dist prec k).1 = -2 ∨ dist k < (chooseS dist prec k).2 ∨ (dist k = (chooseS dist prec k).2 ∧ prec k (chooseS dist prec k).1)) then ((k : Int), dist k) else chooseS dist prec k
theorem chooseS_s {dist : Int → Int} {prec : Int → Int → Prop} [∀ a b, Decidable (prec a b)] {i : Int} (h : 0 ≤ i) : chooseS dist prec (i + 1).toNat = if dist i ≠ -2 ∧ ((chooseS dist prec i.toNat).1 = -2 ∨ dist i < (chooseS dist prec i.toNat).2 ∨ (dist i = (chooseS dist prec i.toNat).2 ∧ prec i (chooseS dist prec i.toNat).1)) then (i, dist i) else chooseS dist prec i.toNat := by
  obtain ⟨k, rfl⟩ : ∃ k : Nat, i = k := ⟨i.toNat, by omega⟩
  rfl
theorem chooseS_rng {dist : Int → Int} {prec : Int → Int → Prop} [∀ a b, Decidable (prec a b)] : ∀ (k : Nat), ((chooseS dist prec k).1 = -2 ∧ (chooseS dist prec k).2 = -2) ∨ (0 ≤ (chooseS dist prec k).1 ∧ (chooseS dist prec k).1 < k ∧ (chooseS dist prec k).2 = dist (chooseS dist prec k).1 ∧ dist (chooseS dist prec k).1 ≠ -2)
  | 0 => Or.inl ⟨rfl, rfl⟩
  | k + 1 => by
    unfold chooseS
    split
    · rename_i h
      exact Or.inr ⟨by dsimp only; omega, by dsimp only; omega, rfl, h.1⟩
    · rcases chooseS_rng (dist := dist) (prec := prec) k with q | q
      · exact Or.inl q
      · exact Or.inr ⟨q.1, by omega, q.2.2⟩
def precS (pr se we : Int → Int) (m n : Int) : Prop := pr m < pr n ∨ (pr m = pr n ∧ se m * we n < se n * we m)
