/-! a text is loaded -/
theorem PQ.rl : ∀ (k : Nat) (F : Hp), PQ F → AtQ F → PQ (rlS k F) ∧ AtQ (rlS k F)
  | 0, F, h, h2 => ⟨h, h2⟩
  | k + 1, F, h, h2 => by
    unfold rlS
    split
    · have n := Ny.stm h h2
      exact PQ.rl k _ n.1 n.2.1
    · exact ⟨h, h2⟩
theorem pq_ld {F : Hp} (h : PZ F) : PQ (ldS1 F) := (PQ.rl _ _ (pq_ld0 h).sc (at_ld0 h)).1
theorem beg_f {b u : Int} {F : Hp} (hd : dj b u) : begS b u F b 1 = 0 ∧ begS b u F (b + 8) 4 = 0 ∧ begS b u F (b + 19) 0 = 0 ∧ ∀ n : Int, 0 ≤ n → n < 12 → (begS b u F (b + 1) n = F (u + 5) n ∧ begS b u F (b + 2) n = F (u + 6) n ∧ begS b u F (b + 3) n = F (u + 9) n ∧ begS b u F (b + 5) n = F (u + 7) n ∧ begS b u F (b + 6) n = 0 ∧ begS b u F (b + 7) n = F (u + 7) n ∧ begS b u F (b + 9) n = 0) ∧ begS b u F (b + 14) n = 0 ∧ begS b u F (b + 15) n = 0 ∧ begS b u F (b + 16) n = 0 ∧ begS b u F (b + 17) n = 0 ∧ begS b u F (b + 18) n = 0 := by
  unfold dj at hd
  unfold begS
  refine ⟨?_, ?_, ?_, fun n h0 h1 => ⟨⟨?_, ?_, ?_, ?_, ?_, ?_, ?_⟩, ?_, ?_, ?_, ?_, ?_⟩⟩ <;> simp (disch := omega) only [up_k, up_i, up_s, cpy_k, cpy_in, fillz_k, fillz_in, Int.zero_add, Int.sub_zero]
theorem tn_o {F : Hp} : ∀ (k : Nat) (j : Int), (k : Int) ≤ 12 → ¬ (99 ≤ j ∧ j < 135) → ¬ (3 ≤ j ∧ j < 15) → ¬ (27 ≤ j ∧ j < 39) → tnS k F 137 j = F 137 j
  | 0, j, _, _, _, _ => rfl
  | k + 1, j, hk, h1, h2, h3 => by
    unfold tnS tn1
    simp (disch := omega) only [up_k, up_i]
    exact tn_o k j (by omega) h1 h2 h3
theorem tn_v {F : Hp} : ∀ (k : Nat) (n : Int), (k : Int) ≤ 12 → 0 ≤ n → n < k → (tnS k F 139 n = F 140 n ∧ tnS k F 141 n = F 147 n ∧ tnS k F 142 n = F 148 (7 * n + 2) ∧ tnS k F 143 n = F 148 (7 * n + 3) ∧ tnS k F 144 n = F 148 (7 * n + 5) ∧ tnS k F 145 n = if F 148 (7 * n + 6) = 1 then 1 else 0) ∧ tnS k F 137 (99 + n) = F 148 (7 * n) ∧ tnS k F 137 (111 + n) = F 148 (7 * n + 1) ∧ tnS k F 137 (123 + n) = F 148 (7 * n + 4) ∧ tnS k F 137 (3 + n) = F 148 (7 * n + 2) ∧ tnS k F 137 (27 + n) = F 148 (7 * n + 2)
  | 0, n, _, h0, h1 => by omega
  | k + 1, n, hk, h0, h1 => by
    unfold tnS tn1
    by_cases q : n = k
    · subst q
      simp (disch := omega) only [up_k, up_i, up_s, and_self]
    · have ih := tn_v (F := F) k n (by omega) h0 (by omega)
      simp (disch := omega) only [up_k, up_i]
      exact ih
theorem tc_v {F : Hp} : ∀ (k : Nat) (n : Int), 0 ≤ n → n < k → tcS k F 150 n = F 154 n ∧ tcS k F 151 n = F 155 n ∧ tcS k F 152 n = F 156 n ∧ tcS k F 153 n = F 157 n
  | 0, n, h0, h1 => by omega
  | k + 1, n, h0, h1 => by
    unfold tcS
    by_cases q : n = k
    · subst q
      simp (disch := omega) only [up_k, up_s, and_self]
    · have ih := tc_v (F := F) k n h0 (by omega)
      simp (disch := omega) only [up_k, up_i]
      exact ih
/-- the reference's cells behind a good load -/
theorem tk_f {F : Hp} (h22 : 0 ≤ F 136 22 ∧ F 136 22 ≤ 12) (h39 : 0 ≤ F 136 39 ∧ F 136 39 ≤ 12) : (∀ a i : Int, a ≠ 136 → a ≠ 137 → a ≠ 138 → a ≠ 139 → ¬ (141 ≤ a ∧ a ≤ 145) → ¬ (150 ≤ a ∧ a ≤ 153) → tkR F a i = F a i) ∧
    (tkR F 136 3 = F 136 22 ∧ tkR F 136 4 = F 136 23 ∧ tkR F 136 5 = (if F 136 26 = 0 then -1 else F 136 24) ∧ tkR F 136 38 = F 136 39 ∧ ∀ i : Int, i ≠ 3 → i ≠ 4 → i ≠ 5 → i ≠ 38 → tkR F 136 i = F 136 i) ∧ (tkR F 138 0 = 0 ∧ tkR F 138 1 = 0) ∧
    (∀ k : Int, 0 ≤ k → k < F 136 39 → tkR F 150 k = F 154 k ∧ tkR F 151 k = F 155 k ∧ tkR F 152 k = F 156 k ∧ tkR F 153 k = F 157 k) ∧
    (∀ n : Int, 0 ≤ n → n < F 136 22 → (tkR F 139 n = F 140 n ∧ tkR F 141 n = F 147 n ∧ tkR F 142 n = F 148 (7 * n + 2) ∧ tkR F 143 n = F 148 (7 * n + 3) ∧ tkR F 144 n = F 148 (7 * n + 5) ∧ tkR F 145 n = if F 148 (7 * n + 6) = 1 then 1 else 0) ∧ tkR F 137 (99 + n) = F 148 (7 * n) ∧ tkR F 137 (111 + n) = F 148 (7 * n + 1) ∧ tkR F 137 (123 + n) = F 148 (7 * n + 4) ∧ tkR F 137 (3 + n) = F 148 (7 * n + 2) ∧ tkR F 137 (27 + n) = F 148 (7 * n + 2)) ∧
    (∀ j : Int, 0 ≤ j → j < 819 → ¬ (99 ≤ j ∧ j < 135) → ¬ (3 ≤ j ∧ j < 15) → ¬ (27 ≤ j ∧ j < 39) → tkR F 137 j = 0) := by
  have hz : ∀ a i : Int, a ≠ 136 → a ≠ 137 → a ≠ 138 → ¬ (150 ≤ a ∧ a ≤ 153) → tkZ F a i = F a i := fun a i z1 z2 z3 z4 => by
    unfold tkZ tkH
    rw [zrS_r z2, up_k z3, up_k z3, tcS_r (by omega)]
    simp (disch := omega) only [up_k]
  have ha : ∀ a i : Int, a ≠ 137 → a ≠ 139 → (a < 141 ∨ 145 < a) → tkR F a i = tkZ F a i := fun a i z1 z2 z3 => by
    unfold tkR
    rw [tnS_r (by omega)]
  refine ⟨fun a i z1 z2 z3 z4 z5 z6 => ?_, ⟨?_, ?_, ?_, ?_, fun i z1 z2 z3 z4 => ?_⟩, ⟨?_, ?_⟩, fun k k0 k1 => ?_, fun n n0 n1 => ?_, fun j j0 j1 j2 j3 j4 => ?_⟩
  · rw [ha a i z2 z4 (by omega), hz a i z1 z2 z3 z6]
  · rw [ha 136 3 (by decide) (by decide) (by decide), tkZ_f]; unfold tkH; simp (disch := omega) only [up_i, up_s]
  · rw [ha 136 4 (by decide) (by decide) (by decide), tkZ_f]; unfold tkH; simp (disch := omega) only [up_i, up_s]
  · rw [ha 136 5 (by decide) (by decide) (by decide), tkZ_f]; unfold tkH; simp (disch := omega) only [up_i, up_s]
  · rw [ha 136 38 (by decide) (by decide) (by decide), tkZ_f]; unfold tkH; simp (disch := omega) only [up_i, up_s]
  · rw [ha 136 i (by decide) (by decide) (by decide), tkZ_f]; unfold tkH; simp (disch := omega) only [up_i]
  · rw [ha 138 0 (by decide) (by decide) (by decide)]; unfold tkZ; rw [zrS_r (by decide)]; simp (disch := omega) only [up_i, up_s]
  · rw [ha 138 1 (by decide) (by decide) (by decide)]; unfold tkZ; rw [zrS_r (by decide)]; simp (disch := omega) only [up_i, up_s]
  · rw [ha 150 k (by decide) (by decide) (by decide), ha 151 k (by decide) (by decide) (by decide), ha 152 k (by decide) (by decide) (by decide), ha 153 k (by decide) (by decide) (by decide)]
    have t := tc_v (F := tkH F) (F 136 39).toNat k k0 (by omega)
    have e : ∀ a : Int, a ≠ 136 → tkH F a k = F a k := fun a z => by unfold tkH; simp (disch := omega) only [up_k]
    rw [e 154 (by decide), e 155 (by decide), e 156 (by decide), e 157 (by decide)] at t
    unfold tkZ
    rw [zrS_r (by decide), zrS_r (by decide), zrS_r (by decide), zrS_r (by decide)]
    simp (disch := omega) only [up_k]
    exact t
  · have t := tn_v (F := tkZ F) (F 136 22).toNat n (by omega) n0 (by omega)
    rw [hz 140 _ (by decide) (by decide) (by decide) (by decide), hz 147 _ (by decide) (by decide) (by decide) (by decide)] at t
    simp only [hz 148 _ (by decide) (by decide) (by decide) (by decide)] at t
    exact t
  · have t := tn_o (F := tkZ F) (F 136 22).toNat j (by omega) j2 j3 j4
    unfold tkR
    rw [t]
    exact if_pos ⟨rfl, j0, j1⟩

