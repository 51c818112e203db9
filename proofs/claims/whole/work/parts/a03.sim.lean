theorem gvn_in {g s : Int} (h0 : 0 ≤ g) (h1 : g < 128) (h2 : 0 ≤ s) (h3 : s < 7) : (gvn g s = 0 ∨ gvn g s = 1) ∧ ∀ t : Int, 0 ≤ t → t < 7 → gvn (ior g (ishl 1 s)) t = if t = s then 1 else gvn g t := by
  obtain ⟨a, rfl⟩ : ∃ k : Nat, g = k := ⟨g.toNat, by omega⟩
  obtain ⟨b, rfl⟩ : ∃ k : Nat, s = k := ⟨s.toNat, by omega⟩
  have h := gvn_all a (by omega) b (by omega)
  refine ⟨h.2.1, fun t t0 t1 => ?_⟩
  obtain ⟨c, rfl⟩ : ∃ k : Nat, t = k := ⟨t.toNat, by omega⟩
  rw [h.2.2 c (by omega)]
  by_cases q : c = b
  · rw [if_pos q, if_pos (by omega)]
  · rw [if_neg q, if_neg (by omega)]
/-- a setting's value agrees after both have written it -/
theorem Dn.set {v s x : Int} {M M' F F' : Hp} (h : Dn v M F) (hs : 0 ≤ s ∧ s < 7) (hM : ∀ a i : Int, (v ≤ a ∧ a < v + 17) → ¬ (a = v + 5 + s ∧ i = F 136 22) → M' a i = M a i) (hx : M' (v + 5 + s) (F 136 22) = x) (h35 : M' 3 5 = M 3 5) (h37 : ∀ t : Int, 0 ≤ t → t < 7 → gvn (M' 3 7) t = if t = s then 1 else gvn (M 3 7) t) (hF : ∀ i : Int, (22 ≤ i ∧ i ≤ 26) ∨ i = 39 → F' 136 i = F 136 i) (hF2 : ∀ a : Int, a = 140 ∨ a = 147 ∨ (154 ≤ a ∧ a ≤ 157) → F' a = F a)
    (h8 : ∀ i : Int, F' 148 i = if i = 7 * F 136 22 + s then x else F 148 i) (h9 : ∀ i : Int, F' 149 i = if i = 7 * F 136 22 + s then 1 else F 149 i) : Dn v M' F' := by
  have d5 := h.2.2.2.1
  have d6 := h.2.2.2.2.1
  refine h.of (fun a i z1 z2 => hM a i z1 (by omega)) h35 hF hF2 (fun n n0 n1 t t0 t1 tn => ?_) (fun t t0 t1 => ?_)
  · rw [h8]
    rw [h9] at tn
    by_cases q : 7 * n + t = 7 * F 136 22 + s
    · have e1 : n = F 136 22 := by omega
      have e2 : t = s := by omega
      rw [if_pos q, e1, e2, hx]
    · rw [if_neg q, hM (v + 5 + t) n (by omega) (by omega)]
      refine d5 n n0 n1 t t0 t1 (fun z => tn ⟨z.1, z.2.1, ?_⟩)
      rw [if_neg (by omega)]
      exact z.2.2
  · rw [h37 t t0 t1, h9, d6 t t0 t1]
    by_cases q : t = s
    · rw [if_pos q, if_pos (by omega)]
    · rw [if_neg q, if_neg (by omega)]
theorem Bd.rs {W F : Hp} (h : Bd W F) {d : Int} : Bd W (rsS d F) := by
  have a : Bd W (rsA d F) := ((h.mu).u (by omega)).sc
  unfold rsS
  split
  · exact a.u (by omega)
  · exact a.rn.u (by omega)
theorem Ms.u9 {v : Int} {W M F : Hp} (h : Ms v W M F) {i x : Int} (hx : x = 0 ∨ x = 1) : Ms v W M (up F 149 i x) := h.of ((Nx.rf h.2.2.2.2.2.1 h.2.2.2.2.2.2.1).u9 hx) (fun j z => up_k (by decide)) (up_r (by decide))
/-- a setting of a node -/
theorem Dn.rs {v : Int} {W M F : Hp} (hv : isSu v) (h : Ms v W M F) (hs : M 3 4 = 4) (hd : Dn v M F) (hst : ¬ stH F = -2) : Bd W (rsS (F 136 22) F) ∨ ∃ M' : Hp, Ms v W M' (rsS (F 136 22) F) ∧ M' 3 4 = 4 ∧ Dn v M' (rsS (F 136 22) F) := by
  have hv2 : v = 4 ∨ v = 23 := hv
  have hS : ∀ (N : Hp) (a i : Int), a ≠ 21 → scnS N a i = N a i := fun N a i z => by rw [scn_r z]
  have hf := h.2.2.2.2.1.f
  have hg : F 136 19 = 0 := h.2.2.2.2.2.2.2
  have hq := h.2.2.2.2.2.1
  obtain ⟨k1, -⟩ := kw_r (F := F) (fun z => (hf.2.2.2.2.1 z).1)
  have hr := stH_rng F
  have kq : kwR F = stH F := by split at k1 <;> omega
  have h17 : F 136 17 = 1 := by
    unfold kwR at kq
    split at kq
    · assumption
    · omega
  have h37 := h.2.1.1.2.2.2.2.2.2.2.1 (Or.inl hs)
  have hgv := gvn_in (g := M 3 7) (s := stH F) (by omega) (by omega) (by omega) (by omega)
  obtain ⟨d1, d2, d3, d4, d5, d6⟩ := id hd
  have ht := d5 (stH F) (by omega) (by omega)
  have h149 := hq.2.2.2.2.2.2.2.2.2.2 (7 * F 136 22 + stH F) (by omega) (by omega)
  have hc := tak_4 (v := v) hs rfl
  unfold tkSet at hc
  rw [hf.2.1, hf.2.2.2.1, if_neg (by omega), kq, if_neg (by omega), hS M 3 7 (by decide)] at hc
  generalize hs0 : stH F = s at *
  by_cases q : F 149 (7 * F 136 22 + s) = 0
  · have e1 : mu (F 149 (7 * F 136 22 + s) = 0) 4 F = F := if_neg (fun z => z.2 q)
    have eA : rsA (F 136 22) F = sc (up F 149 (7 * F 136 22 + s) 1) := by
      unfold rsA
      rw [hs0, e1]
    rw [if_neg (by omega)] at hc
    have nG : Nx F (up F 149 (7 * F 136 22 + s) 1) := (Nx.rf hq h.2.2.2.2.2.2.1).u9 (Or.inr rfl)
    have mA : (takS v (scnS M)).1 = 0 → Ms v W (stp v M) (rsA (F 136 22) F) := fun z => by
      rw [eA]
      exact h.ok hv (by omega) z nG (by rw [up_k (by decide)]; exact hg) (up_k (by decide)) (up_r (by decide))
    have fA : ∀ a i : Int, a ≠ 149 → (a ≠ 136 ∨ (i ≠ 15 ∧ i ≠ 16 ∧ i ≠ 17 ∧ i ≠ 18 ∧ i ≠ 21)) → rsA (F 136 22) F a i = F a i := fun a i z1 z2 => by
      rw [eA, sc_r (by omega), up_k z1]
    have f9 : ∀ i : Int, rsA (F 136 22) F 149 i = if i = 7 * F 136 22 + s then 1 else F 149 i := fun i => by
      rw [eA, sc_r (by omega)]
      by_cases y : i = 7 * F 136 22 + s
      · rw [if_pos y, y, up_s]
      · rw [if_neg y, up_i y]
    by_cases p : s = 6
    · rw [if_pos p] at hc
      have e2 : stp v M = up (up (up (up (scnS M) 3 8 s) 3 7 (ior (M 3 7) (ishl 1 s))) (v + 11) (F 136 22) 1) 3 0 0 := by
        unfold stp
        rw [hc, hS M v 0 (by omega), d1, show F 136 22 + 1 - 1 = F 136 22 by omega]
      have m1 := (mA (by rw [hc])).u (a := 148) (i := 7 * F 136 22 + 6) (x := 1) (by omega)
      have eR : rsS (F 136 22) F = up (rsA (F 136 22) F) 148 (7 * F 136 22 + 6) 1 := if_pos (by omega)
      rw [eR]
      refine Or.inr ⟨stp v M, m1, ?_, ?_⟩
      · rw [e2, up_i (by decide), up_k (by omega), up_i (by decide), up_i (by decide), hS M 3 4 (by decide)]
        exact hs
      · refine hd.set (s := 6) (x := 1) (by omega) (fun a i z1 z2 => ?_) ?_ ?_ (fun t t0 t1 => ?_) (fun i z => ?_) (fun a z => ?_) (fun i => ?_) (fun i => ?_)
        · rw [e2, up_k (by omega), up_n (by omega), up_k (by omega), up_k (by omega), hS M a i (by omega)]
        · rw [e2, up_k (by omega), show v + 5 + 6 = v + 11 by omega, up_s]
        · rw [e2, up_i (by decide), up_k (by omega), up_i (by decide), up_i (by decide), hS M 3 5 (by decide)]
        · rw [e2, up_i (by decide), up_k (by omega), up_s, hgv.2 t t0 t1, p]
        · rw [up_k (by decide), fA 136 i (by omega) (by omega)]
        · funext i
          rw [up_k (by omega), fA a i (by omega) (by omega)]
        · by_cases y : i = 7 * F 136 22 + 6
          · rw [if_pos y, y, up_s]
          · rw [if_neg y, up_i y, fA 148 i (by omega) (by omega)]
        · rw [up_k (by decide), f9 i, p]
    · rw [if_neg p] at hc
      have e2 : stp v M = up (up (up (up (scnS M) 3 8 s) 3 7 (ior (M 3 7) (ishl 1 s))) 3 4 5) 3 0 0 := by
        unfold stp
        rw [hc]
      have m1 := mA (by rw [hc])
      have w1 : ∀ a i : Int, a ≠ 3 → a ≠ 21 → stp v M a i = M a i := fun a i z1 z2 => by
        rw [e2, up_k z1, up_k z1, up_k z1, up_k z1, hS M a i z2]
      have s4 : stp v M 3 4 = 5 := by rw [e2, up_i (by decide), up_s]
      have s8 : stp v M 3 8 = s := by rw [e2, up_i (by decide), up_i (by decide), up_i (by decide), up_s]
      have s7 : stp v M 3 7 = ior (M 3 7) (ishl 1 s) := by rw [e2, up_i (by decide), up_i (by decide), up_s]
      have s5 : stp v M 3 5 = M 3 5 := by rw [e2, up_i (by decide), up_i (by decide), up_i (by decide), up_i (by decide), hS M 3 5 (by decide)]
      have tb := tab_st (q := s) (by omega)
      have hf1 := m1.2.2.2.2.1.f
      have c1 := tak_5 (v := v) s4 rfl
      generalize hM1 : stp v M = M1 at *
      have n1 : nmg (scnS M1 3 8) (scnS M1) = nmf (loK s) (hiK s) (scnS M1) := by
        unfold nmg
        rw [hS M1 3 8 (by decide), s8, tb.1, tb.2]
      have eR : rsS (F 136 22) F = up (rnS (loK s) (hiK s) (rsA (F 136 22) F)) 148 (7 * F 136 22 + s) (rsA (F 136 22) F 136 18) := by
        unfold rsS
        rw [hs0, if_neg p]
      rw [eR]
      rcases m1.num hv (lo := loK s) (hi := hiK s) (by rw [s4]; decide) (by rw [c1]; exact n1) with z | ⟨m2, k2, r2⟩
      · exact Or.inl (z.u (by omega))
      · have z0 : nmg (scnS M1 3 8) (scnS M1) = 0 := by
          rw [n1]
          unfold nmf
          rw [if_neg (by rw [hf1.2.1]; omega), hf1.2.2.2.2.2 k2, if_pos r2]
        have e3 : stp v M1 = up (up (up (scnS M1) (v + rwN s) (F 136 22) (rsA (F 136 22) F 136 18)) 3 4 4) 3 0 0 := by
          rw [show stp v M1 = up (takS v (scnS M1)).2 3 0 0 from rfl, c1]
          unfold tkVal
          rw [z0, if_pos rfl, hf1.2.2.2.2.2 k2, hS M1 3 8 (by decide), s8, hS M1 v 0 (by omega), w1 v 0 (by omega) (by omega), d1, show F 136 22 + 1 - 1 = F 136 22 by omega]
        have er : v + rwN s = v + 5 + s := by
          unfold rwN
          repeat' split
          all_goals omega
        rw [er] at e3
        refine Or.inr ⟨stp v M1, m2.u (by omega), by rw [e3, up_i (by decide), up_s], ?_⟩
        refine hd.set (s := s) (x := rsA (F 136 22) F 136 18) (by omega) (fun a i z1 z2 => ?_) ?_ ?_ (fun t t0 t1 => ?_) (fun i z => ?_) (fun a z => ?_) (fun i => ?_) (fun i => ?_)
        · rw [e3, up_k (by omega), up_k (by omega), up_n (by omega), hS M1 a i (by omega), w1 a i (by omega) (by omega)]
        · rw [e3, up_k (by omega), up_k (by omega), up_s]
        · rw [e3, up_i (by decide), up_i (by decide), up_k (by omega), hS M1 3 5 (by decide), s5]
        · rw [e3, up_i (by decide), up_i (by decide), up_k (by omega), hS M1 3 7 (by decide), s7, hgv.2 t t0 t1]
        · rw [up_k (by decide), rnS_r (by omega), fA 136 i (by omega) (by omega)]
        · funext i
          rw [up_k (by omega), rnS_r (by omega), fA a i (by omega) (by omega)]
        · by_cases y : i = 7 * F 136 22 + s
          · rw [if_pos y, y, up_s]
          · rw [if_neg y, up_i y, rnS_r (by omega), fA 148 i (by omega) (by omega)]
        · rw [up_k (by decide), rnS_r (by omega), f9 i]
  · have b : Bd W (mu (F 149 (7 * F 136 22 + s) = 0) 4 F) := h.bad q (fun z => by omega) (by rw [if_pos (by omega)] at hc; rw [hc, if_neg (by omega)]) (by decide)
    have a : Bd W (rsA (F 136 22) F) := by
      unfold rsA
      rw [hs0]
      exact (b.u (by omega)).sc
    refine Or.inl ?_
    unfold rsS
    split
    · exact a.u (by omega)
    · exact a.rn.u (by omega)

