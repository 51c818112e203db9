theorem Bd.lp {W F : Hp} (h : Bd W F) {d : Int} {k : Nat} : Bd W (lpS d k F) := by
  rw [lpS_stop (fun z => h.1 z.1)]
  exact h
theorem Dn.lp {v : Int} {W : Hp} (hv : isSu v) {d : Int} : ∀ (k : Nat) (M F : Hp), Ms v W M F → M 3 4 = 4 → Dn v M F → F 136 22 = d → F 136 14 - F 136 15 < k → Bd W (lpS d k F) ∨ ∃ M' : Hp, Ms v W M' (lpS d k F) ∧ M' 3 4 = 4 ∧ Dn v M' (lpS d k F) ∧ stH (lpS d k F) = -2 ∧ lpS d k F 136 22 = d
  | 0, M, F, h, _, _, _, hk => by
    have a := h.2.2.2.2.2.1.1.2.2
    have b := h.2.2.2.2.2.2.1
    unfold AtQ at b
    omega
  | k + 1, M, F, h, h4, hd, e, hk => by
    have hg : F 136 19 = 0 := h.2.2.2.2.2.2.2
    by_cases q : stH F = -2
    · rw [lpS_stop (fun z => z.2 q)]
      exact Or.inr ⟨M, h, h4, hd, q, e⟩
    · rw [lpS_go (by omega) ⟨hg, q⟩, Nat.add_sub_cancel]
      have r := Dn.rs hv h h4 hd q
      rw [e] at r
      rcases r with z | ⟨M', m, s, dn⟩
      · exact Or.inl z.lp
      · have p := rs_at (d := d) h.2.2.2.2.2.1 h.2.2.2.2.2.2.1 hg q m.2.2.2.2.2.2.2
        exact Dn.lp hv k M' _ m s dn (by rw [rsS_r (by omega)]; exact e) (by rw [rsS_r (i := 14) (by omega)]; omega)
/-- a node's end -/
theorem Dn.out {v : Int} {M M' F F' : Hp} (h : Dn v M F) (hM : ∀ a i : Int, (v ≤ a ∧ a < v + 17) → ¬ (a = v + 6 ∧ i = F 136 22) → M' a i = M a i) (h6 : M' (v + 6) (F 136 22) = if gvn (M 3 7) 1 = 0 then M (v + 5) (F 136 22) else M (v + 6) (F 136 22)) (h35 : M' 3 5 = M 3 5) (hF : ∀ i : Int, (23 ≤ i ∧ i ≤ 26) ∨ i = 39 → F' 136 i = F 136 i) (h22 : F' 136 22 = F 136 22 + 1) (hF2 : ∀ a : Int, a = 140 ∨ a = 147 ∨ (154 ≤ a ∧ a ≤ 157) → F' a = F a)
    (h8 : ∀ i : Int, F' 148 i = if i = 7 * F 136 22 + 1 ∧ F 149 (7 * F 136 22 + 1) = 0 then F 148 (7 * F 136 22) else F 148 i) : Dr v M' F' := by
  obtain ⟨d1, d2, d3, d4, d5, d6⟩ := h
  have dx : Dx v M' F' := d6.of (fun a i z1 z2 z3 => hM a i z1 (by omega)) h35 hF (fun a z => hF2 a (by omega))
  have hg := d5 1 (by decide) (by decide)
  have R : ∀ n : Int, 0 ≤ n → n < F 136 22 + 1 → ∀ s : Int, 0 ≤ s → s < 7 → M' (v + 5 + s) n = F' 148 (7 * n + s) := fun n n0 n1 s s0 s1 => by
    rw [h8]
    by_cases q : s = 1 ∧ n = F 136 22
    · obtain ⟨q1, q2⟩ := q
      rw [q1, q2, show v + 5 + 1 = v + 6 by omega, h6, hg]
      by_cases p : F 149 (7 * F 136 22 + 1) = 0
      · rw [if_pos p, if_pos ⟨rfl, p⟩]
        have t := d4 (F 136 22) (by omega) (by omega) 0 (by decide) (by decide) (fun z => absurd z.1 (by decide))
        rw [Int.add_zero, Int.add_zero] at t
        exact t
      · rw [if_neg p, if_neg (fun z => p z.2)]
        have t := d4 (F 136 22) (by omega) (by omega) 1 (by decide) (by decide) (fun z => p z.2.2)
        rw [show v + 5 + 1 = v + 6 by omega] at t
        exact t
    · rw [if_neg (by omega), hM (v + 5 + s) n (by omega) (by omega)]
      exact d4 n n0 n1 s s0 s1 (fun z => q ⟨z.1, z.2.1⟩)
  refine ⟨by rw [h22, hM v 0 (by omega) (by omega)]; exact d1, fun n n0 n1 => ?_, dx⟩
  rw [h22] at n1
  have r := R n n0 n1
  have r0 := r 0 (by decide) (by decide)
  have r1 := r 1 (by decide) (by decide)
  have r2 := r 2 (by decide) (by decide)
  have r3 := r 3 (by decide) (by decide)
  have r4 := r 4 (by decide) (by decide)
  have r5 := r 5 (by decide) (by decide)
  have r6 := r 6 (by decide) (by decide)
  rw [Int.add_zero, Int.add_zero] at r0
  rw [show v + 5 + 1 = v + 6 by omega] at r1
  rw [show v + 5 + 2 = v + 7 by omega] at r2
  rw [show v + 5 + 3 = v + 8 by omega] at r3
  rw [show v + 5 + 4 = v + 9 by omega] at r4
  rw [show v + 5 + 5 = v + 10 by omega] at r5
  rw [show v + 5 + 6 = v + 11 by omega] at r6
  have a := d3 n n0 n1
  refine ⟨?_, ?_, r0, r1, r2, r3, r4, r5, r6⟩
  · rw [hM (v + 1) n (by omega) (by omega), hF2 140 (by omega)]
    exact a.1
  · rw [hM (v + 2) n (by omega) (by omega), hF2 147 (by omega)]
    exact a.2

