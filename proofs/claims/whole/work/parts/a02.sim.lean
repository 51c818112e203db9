theorem inS_f {d a : Int} (h : a ≠ 148 ∧ a ≠ 149) {F : Hp} : inS d 7 F a = F a := by
  rw [in_7]
  funext i
  simp (disch := omega) only [up_k]
theorem inS_r {d i : Int} {F : Hp} (h : i < 7 * d) : inS d 7 F 148 i = F 148 i := by
  rw [in_7]
  simp (disch := omega) only [up_k, up_i]
theorem inS_v {d s : Int} {F : Hp} (h : 0 ≤ s) (h2 : s < 7) : inS d 7 F 148 (7 * d + s) = dfK s ∧ inS d 7 F 149 (7 * d + s) = 0 := by
  have q7 : s = 0 ∨ s = 1 ∨ s = 2 ∨ s = 3 ∨ s = 4 ∨ s = 5 ∨ s = 6 := by omega
  rw [in_7]
  rcases q7 with rfl | rfl | rfl | rfl | rfl | rfl | rfl
  · rw [Int.add_zero]
    refine ⟨?_, ?_⟩ <;> simp (disch := omega) only [up_k, up_i, up_s]
    rfl
  all_goals (refine ⟨?_, ?_⟩ <;> simp (disch := omega) only [up_k, up_i, up_s] <;> rfl)
/-- a new node's row of settings, in the class -/
theorem ad_row {v w p n s : Int} {F : Hp} (hN : 0 ≤ F v 0) (hp : p < F v 0) (h : 0 ≤ s) (h2 : s < 7) : adnS v w p F (v + 5 + s) n = if n = F v 0 then (if s = 1 then 1 else dfK s) else F (v + 5 + s) n := by
  obtain ⟨-, -, -, -, a11, a5, a6, a7, a8, a9, a10⟩ := adn_n (v := v) (w := w) (p := p) (n := n) (F := F) hN hp
  have q7 : s = 0 ∨ s = 1 ∨ s = 2 ∨ s = 3 ∨ s = 4 ∨ s = 5 ∨ s = 6 := by omega
  rcases q7 with rfl | rfl | rfl | rfl | rfl | rfl | rfl
  · rw [show v + 5 + 0 = v + 5 by omega]; exact a5
  · rw [show v + 5 + 1 = v + 6 by omega]; exact a6
  · rw [show v + 5 + 2 = v + 7 by omega]; exact a7
  · rw [show v + 5 + 3 = v + 8 by omega]; exact a8
  · rw [show v + 5 + 4 = v + 9 by omega]; exact a9
  · rw [show v + 5 + 5 = v + 10 by omega]; exact a10
  · rw [show v + 5 + 6 = v + 11 by omega]; exact a11
theorem Dr.row {v : Int} {M F : Hp} (h : Dr v M F) {n s : Int} (h0 : 0 ≤ n) (h1 : n < F 136 22) (h2 : 0 ≤ s) (h3 : s < 7) : M (v + 5 + s) n = F 148 (7 * n + s) := by
  obtain ⟨-, -, a5, a6, a7, a8, a9, a10, a11⟩ := h.2.1 n h0 h1
  have q7 : s = 0 ∨ s = 1 ∨ s = 2 ∨ s = 3 ∨ s = 4 ∨ s = 5 ∨ s = 6 := by omega
  rcases q7 with rfl | rfl | rfl | rfl | rfl | rfl | rfl
  · rw [show v + 5 + 0 = v + 5 by omega, Int.add_zero]; exact a5
  · rw [show v + 5 + 1 = v + 6 by omega]; exact a6
  · rw [show v + 5 + 2 = v + 7 by omega]; exact a7
  · rw [show v + 5 + 3 = v + 8 by omega]; exact a8
  · rw [show v + 5 + 4 = v + 9 by omega]; exact a9
  · rw [show v + 5 + 5 = v + 10 by omega]; exact a10
  · rw [show v + 5 + 6 = v + 11 by omega]; exact a11
/-- a node begun -/
theorem Dn.beg {v p d w : Int} {M M' Q F X : Hp} (hv : isSu v) (hd : Dr v M F) (e : d = F 136 22) (h0 : 0 ≤ F 136 22) (h12 : F 136 22 < 12) (hw : WdR w) (hQ : ∀ a i : Int, (v ≤ a ∧ a < v + 17) ∨ (a = 3 ∧ i = 5) → Q a i = M a i) (hp : p < F 136 22) (hM : M' = up (up (up (adnS v (cvN w) p Q) 3 7 0) 3 4 4) 3 0 0) (hX : ∀ a i : Int, a ≠ 147 → (a ≠ 136 ∨ 22 ≤ i) → X a i = F a i) (h7 : ∀ i : Int, X 147 i = if i = d then p else F 147 i) : Dn v M' (inS d 7 (up X 140 d w)) := by
  have hv2 : v = 4 ∨ v = 23 := hv
  obtain ⟨d1, d2, dx⟩ := id hd
  have z0 : Q v 0 = d := by rw [hQ v 0 (by omega), d1, e]
  have an := fun n => adn_n (v := v) (w := cvN w) (p := p) (n := n) (F := Q) (by omega) (by omega)
  have a0 := adn_0 (v := v) (w := cvN w) (p := p) (F := Q)
  have hm : ∀ a i : Int, a ≠ 3 → M' a i = adnS v (cvN w) p Q a i := fun a i z => by rw [hM, up_k z, up_k z, up_k z]
  have g : ∀ a : Int, a ≠ 148 ∧ a ≠ 149 → inS d 7 (up X 140 d w) a = up X 140 d w a := fun a z => inS_f z
  have g22 : inS d 7 (up X 140 d w) 136 22 = d := by rw [g 136 (by decide), up_k (by decide), hX 136 22 (by decide) (by decide), e]
  unfold Dn
  rw [g22]
  refine ⟨by rw [hm v 0 (by omega), a0.1, z0], by omega, fun n n0 n1 => ?_, fun n n0 n1 s s0 s1 sn => ?_, fun s s0 s1 => ?_, ?_⟩
  · rw [hm (v + 1) n (by omega), hm (v + 2) n (by omega), (an n).1, (an n).2.1, g 140 (by decide), g 147 (by decide), up_k (k := 140) (a := 147) (by decide), h7 n, z0]
    by_cases q : n = d
    · rw [if_pos q, if_pos q, if_pos q, q, up_s]
      exact ⟨⟨hw, rfl⟩, rfl⟩
    · have t := d2 n n0 (by omega)
      rw [if_neg q, if_neg q, if_neg q, up_i q, hX 140 n (by decide) (by omega), hQ (v + 1) n (by omega), hQ (v + 2) n (by omega)]
      exact ⟨t.1, t.2.1⟩
  · rw [hm (v + 5 + s) n (by omega), ad_row (by omega) (by omega) s0 s1, z0]
    by_cases q : n = d
    · subst q
      rw [if_pos rfl, (inS_v s0 s1).1, if_neg (fun z => sn ⟨z, rfl, (inS_v (s := 1) (by decide) (by decide)).2⟩)]
    · rw [if_neg q, inS_r (by omega), up_k (by decide), hX 148 _ (by decide) (by omega), hQ (v + 5 + s) n (by omega)]
      exact hd.row n0 (by omega) s0 s1
  · rw [hM, up_i (by decide), up_i (by decide), up_s, (inS_v s0 s1).2]
    have := gvn_0 s.toNat (by omega)
    rw [show s = (s.toNat : Int) by omega]
    exact this
  · refine Dx.of (M := M) (F := F) dx (fun a i z1 z2 z3 => ?_) ?_ (fun i z => ?_) (fun a z => ?_)
    · rw [hm a i (by omega)]
      by_cases q : a = v
      · subst q
        rw [← hQ a i (by omega)]
        unfold adnS ad0S
        rw [dfS_6]
        split <;> simp (disch := omega) only [up_k, up_i]
      · rw [adn_r (by omega)]
        exact hQ a i (by omega)
    · rw [hM, up_i (by decide), up_i (by decide), up_i (by decide), adn_r (by omega)]
      exact hQ 3 5 (by omega)
    · rw [g 136 (by decide), up_k (by decide), hX 136 i (by decide) (by omega)]
    · funext i
      rw [g a (by omega), up_k (by omega), hX a i (by omega) (by omega)]

