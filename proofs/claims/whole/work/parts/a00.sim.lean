theorem Ms.of2 {v : Int} {W M F G : Hp} (h : Ms v W M F) (hn : PQ G) (hi : ∀ i : Int, i = 14 ∨ i = 15 ∨ i = 16 ∨ i = 17 ∨ i = 18 ∨ i = 19 ∨ i = 21 → G 136 i = F 136 i) (h6 : G 146 = F 146) : Ms v W M G := by
  obtain ⟨h1, h2, h3, h4, h5, h6', h7, h8⟩ := h
  refine ⟨h1, h2, h3, ?_, ?_, hn, ?_, by rw [hi 19 (by omega)]; exact h8⟩
  · unfold TxR at h4 ⊢
    rw [hi 14 (by omega), h6]
    exact h4
  · unfold Tok at h5 ⊢
    rw [hi 15 (by omega), hi 16 (by omega), hi 17 (by omega), hi 18 (by omega), hi 21 (by omega)]
    exact h5
  · unfold AtQ at h7 ⊢
    rw [hi 15 (by omega), hi 16 (by omega), hi 17 (by omega)]
    exact h7
theorem Dr.cha {v : Int} {M M' F F' : Hp} (h : Dr v M F) (hM : ∀ a i : Int, (v ≤ a ∧ a < v + 12) → M' a i = M a i) (h35 : M' 3 5 = M 3 5) (hc : M' (v + 12) 0 = M (v + 12) 0 + 1) (hF : ∀ i : Int, 22 ≤ i ∧ i ≤ 26 → F' 136 i = F 136 i) (hF2 : ∀ a : Int, a = 140 ∨ a = 147 ∨ a = 148 → F' a = F a) (h39 : F' 136 39 = F 136 39 + 1) (hn : ∀ k : Int, 0 ≤ k → k < F 136 39 + 1 → M' (v + 13) k = F' 154 k ∧ M' (v + 14) k = F' 155 k ∧ M' (v + 15) k = F' 156 k ∧ M' (v + 16) k = F' 157 k) : Dr v M' F' := by
  obtain ⟨d1, d2, d3, d4, d5, d6, d7, d8⟩ := h
  unfold Dr
  rw [hF 22 (by omega), hF 23 (by omega), hF 24 (by omega), hF 25 (by omega), hF 26 (by omega), h39, hF2 140 (by omega), hF2 147 (by omega), hF2 148 (by omega)]
  refine ⟨by rw [hM v 0 (by omega)]; exact d1, fun n z0 z1 => ?_, by rw [hM v 13 (by omega)]; exact d3, by rw [h35]; exact d4, by rw [hM v 14 (by omega)]; exact d5, d6, by rw [hc, d7], hn⟩
  rw [hM (v + 1) n (by omega), hM (v + 2) n (by omega), hM (v + 5) n (by omega), hM (v + 6) n (by omega), hM (v + 7) n (by omega), hM (v + 8) n (by omega), hM (v + 9) n (by omega), hM (v + 10) n (by omega), hM (v + 11) n (by omega)]
  exact d2 n z0 z1
theorem tab_ch {q : Int} (h : q = 0 ∨ q = 1 ∨ q = 4) : tabL q.toNat = (if q = 4 then 1 else 0) ∧ tabG q.toNat = (if q = 0 then 99 else if q = 1 then 999 else 9) := by
  rcases h with rfl | rfl | rfl <;> exact ⟨rfl, rfl⟩
theorem sim_tim {v : Int} {W M F : Hp} (hv : isSu v) (h : Ms v W M F) (h34 : M 3 4 = 0) (hd : Dr v M F) (hw : wdB 52 F) : Bd W (stmS F) ∨ ∃ M' : Hp, Ms v W M' (stmS F) ∧ M' 3 4 = 0 ∧ Dr v M' (stmS F) := by
  have hv2 : v = 4 ∨ v = 23 := hv
  have hS : ∀ (N : Hp) (a i : Int), a ≠ 21 → scnS N a i = N a i := fun N a i z => by rw [scn_r z]
  obtain ⟨d1, d2, -, -, -, -, d7, d8⟩ := id hd
  obtain ⟨eb, r1⟩ := h.at0 hv h34 d7 hw
  have out : Bd W (tmG F) → Bd W (stmS F) := fun z => by
    have b : Bd W (bdS F) := by
      rw [eb]
      unfold tmS
      rw [if_neg z.1]
      exact z
    exact b.mu.sc
  have tr1 : Bd W (tmE F) → Bd W (tmG F) := fun z => z.rn
  have tr2 : Bd W (tmD F) → Bd W (tmE F) := fun z => z.mu.sc
  have tr3 : Bd W (tmB F) → Bd W (tmD F) := fun z => z.mu.mu.sc
  rcases r1 with z | ⟨m1, -, h12, e1⟩
  · exact Or.inl (out (tr1 (tr2 (tr3 z.rn))))
  have s1 : stp v M 3 4 = 8 := by rw [e1]; (repeat (first | rw [up_s] | rw [up_i (by omega)] | rw [up_k (by omega)]))
  have hf1 := m1.2.2.2.2.1.f
  have c1 := tak_8 (v := v) s1 rfl
  rcases m1.num hv (lo := 1) (hi := 5000) (by rw [s1]; decide) (by rw [c1]; rfl) with z | ⟨m2, k2, -⟩
  · exact Or.inl (out (tr1 (tr2 (tr3 z))))
  have e2 : stp v (stp v M) = up (up (up (scnS (stp v M)) 3 9 (tmA F 136 18)) 3 4 9) 3 0 0 := by
    rw [show stp v (stp v M) = up (takS v (scnS (stp v M))).2 3 0 0 from rfl, c1]
    unfold tkTim
    rw [hf1.2.2.2.2.2 k2]
  have mA : ∀ a i : Int, a ≠ 3 → a ≠ 21 → stp v (stp v M) a i = M a i := fun a i z1 z2 => by
    rw [e2, up_k z1, up_k z1, up_k z1, hS _ a i z2, e1, up_k z1, up_k z1, hS _ a i z2]
  have fB : ∀ a i : Int, (a ≠ 136 ∨ (i ≠ 15 ∧ i ≠ 16 ∧ i ≠ 17 ∧ i ≠ 18 ∧ i ≠ 21 ∧ i ≠ 19 ∧ i ≠ 20)) → tmB F a i = F a i := fun a i z => by
    unfold tmB
    rw [rnS_r (by omega)]
    unfold tmA
    rw [sc_r (by omega), mu_r (by omega)]
  change Ms v W _ (tmB F) at m2
  generalize hM2 : stp v (stp v M) = M2 at *
  have s2 : M2 3 4 = 9 := by rw [e2]; (repeat (first | rw [up_s] | rw [up_i (by omega)] | rw [up_k (by omega)]))
  rcases m2.chn hv s2 (by rw [mA v 0 (by omega) (by omega), fB 136 22 (by omega)]; exact d1) (fun n z0 z1 => by
      rw [fB 136 22 (by omega)] at z1
      rw [mA (v + 1) n (by omega) (by omega), fB 140 n (by omega)]
      exact (d2 n z0 z1).1) with z | ⟨m3, x1, x2, x3, e3⟩
  · exact Or.inl (out (tr1 (tr2 z)))
  have eC : tmC F = tmB F := x1
  change Ms v W _ (tmD F) at m3
  have eD : tmD F = sc (tmB F) := by
    unfold tmD
    rw [eC, x2]
  have s3 : stp v M2 3 4 = 10 := by rw [e3]; (repeat (first | rw [up_s] | rw [up_i (by omega)] | rw [up_k (by omega)]))
  rcases m3.chs hv s3 with z | ⟨m4, x4, x5, e4⟩
  · exact Or.inl (out (tr1 z))
  change Ms v W _ (tmE F) at m4
  have eE : tmE F = sc (tmD F) := by
    unfold tmE
    rw [x4]
  generalize hM4 : stp v (stp v M2) = M4 at *
  have m4a : ∀ a i : Int, a ≠ 3 → a ≠ 21 → M4 a i = M a i := fun a i z1 z2 => by
    rw [e4, up_k z1, up_k z1, up_k z1, hS _ a i z2, e3, up_k z1, up_k z1, up_k z1, hS _ a i z2, mA a i z1 z2]
  have s4 : M4 3 4 = 11 := by rw [e4]; (repeat (first | rw [up_s] | rw [up_i (by omega)] | rw [up_k (by omega)]))
  have s48 : M4 3 8 = stH (tmD F) := by rw [e4]; (repeat (first | rw [up_s] | rw [up_i (by omega)] | rw [up_k (by omega)]))
  have s410 : M4 3 10 = hrS (tmC F) := by rw [e4, up_i (by decide), up_i (by decide), up_i (by decide), hS _ 3 10 (by decide), e3, up_i (by decide), up_i (by decide), up_s, eC]
  have s49 : M4 3 9 = tmA F 136 18 := by rw [e4, up_i (by decide), up_i (by decide), up_i (by decide), hS _ 3 9 (by decide), e3, up_i (by decide), up_i (by decide), up_i (by decide), hS _ 3 9 (by decide), e2, up_i (by decide), up_i (by decide), up_s]
  have s45 : M4 3 5 = M 3 5 := by rw [e4, up_i (by decide), up_i (by decide), up_i (by decide), hS _ 3 5 (by decide), e3, up_i (by decide), up_i (by decide), up_i (by decide), hS _ 3 5 (by decide), e2, up_i (by decide), up_i (by decide), up_i (by decide), hS _ 3 5 (by decide), e1, up_i (by decide), up_i (by decide), hS _ 3 5 (by decide)]
  have c4 := tak_11 (v := v) s4 rfl
  have hf4 := m4.2.2.2.2.1.f
  have tb := tab_ch x5
  have n4 : nmg (scnS M4 3 8) (scnS M4) = nmf (if stH (tmD F) = 4 then 1 else 0) (if stH (tmD F) = 0 then 99 else if stH (tmD F) = 1 then 999 else 9) (scnS M4) := by
    unfold nmg
    rw [hS _ 3 8 (by decide), s48, tb.1, tb.2]
  rcases m4.num hv (lo := if stH (tmD F) = 4 then 1 else 0) (hi := if stH (tmD F) = 0 then 99 else if stH (tmD F) = 1 then 999 else 9) (by rw [s4]; decide) (by rw [c4]; exact n4) with z | ⟨m5, k5, r5⟩
  · exact Or.inl (out z)
  change Ms v W _ (tmG F) at m5
  have z5 : nmg (scnS M4 3 8) (scnS M4) = 0 := by
    rw [n4]
    unfold nmf
    rw [if_neg (by rw [hf4.2.1]; omega), hf4.2.2.2.2.2 k5, if_pos r5]
  have e5 : stp v M4 = up (up (chaS v (tmA F 136 18) (hrS (tmC F)) (stH (tmD F)) (tmE F 136 18) (scnS M4)) 3 4 12) 3 0 0 := by
    rw [show stp v M4 = up (takS v (scnS M4)).2 3 0 0 from rfl, c4]
    unfold tkChV
    rw [z5, if_pos rfl, hf4.2.2.2.2.2 k5, hS _ 3 8 (by decide), hS _ 3 9 (by decide), hS _ 3 10 (by decide), s48, s49, s410]
  have fG : ∀ a i : Int, (a ≠ 136 ∨ (i ≠ 15 ∧ i ≠ 16 ∧ i ≠ 17 ∧ i ≠ 18 ∧ i ≠ 21 ∧ i ≠ 19 ∧ i ≠ 20)) → tmG F a i = F a i := fun a i z => by
    unfold tmG
    rw [rnS_r (by omega), eE, sc_r (by omega), eD, sc_r (by omega), fB a i z]
  have g0 : tmG F 136 19 = 0 := m5.2.2.2.2.2.2.2
  have eS : tmS F = up (tmP F) 136 39 (tmG F 136 39 + 1) := if_pos g0
  have pP : ∀ a i : Int, ¬ (154 ≤ a ∧ a ≤ 157) → tmP F a i = tmG F a i := fun a i z => by
    unfold tmP
    rw [up_k (by omega), up_k (by omega), up_k (by omega), up_k (by omega)]
  have fS : ∀ a i : Int, ¬ (154 ≤ a ∧ a ≤ 157) → ¬ (a = 136 ∧ i = 39) → tmS F a i = tmG F a i := fun a i z1 z2 => by
    rw [eS, up_n z2, pP a i z1]
  have hPQ := (Ny.tmS h.2.2.2.2.2.1 h.2.2.2.2.2.2.1).1
  have m5' : Ms v W (stp v M4) (bdS F) := by
    rw [eb]
    exact m5.of2 hPQ (fun i z => fS 136 i (by omega) (by omega)) (by funext i; exact fS 146 i (by omega) (by omega))
  have s5 : stp v M4 3 4 = 12 := by rw [e5]; (repeat (first | rw [up_s] | rw [up_i (by omega)] | rw [up_k (by omega)]))
  rcases m5'.semi hv s5 with z | ⟨m6, e6, x6⟩
  · exact Or.inl z
  refine Or.inr ⟨stp v (stp v M4), m6, by rw [e6]; (repeat (first | rw [up_s] | rw [up_i (by omega)] | rw [up_k (by omega)])), ?_⟩
  have q6 : ∀ a i : Int, (a ≠ 136 ∨ (i ≠ 15 ∧ i ≠ 16 ∧ i ≠ 17 ∧ i ≠ 18 ∧ i ≠ 21)) → stmS F a i = tmS F a i := fun a i z => by
    unfold stmS
    rw [sc_r (by omega), x6, eb]
  have w6 : ∀ a i : Int, a ≠ 3 → a ≠ 21 → stp v (stp v M4) a i = chaS v (tmA F 136 18) (hrS (tmC F)) (stH (tmD F)) (tmE F 136 18) (scnS M4) a i := fun a i z1 z2 => by
    rw [e6, up_k z1, up_k z1, hS _ a i z2, e5, up_k z1, up_k z1]
  have w7 : ∀ a i : Int, a ≠ 3 → a ≠ 21 → scnS M4 a i = M a i := fun a i z1 z2 => by rw [hS _ a i z2, m4a a i z1 z2]
  refine hd.cha (fun a i z => ?_) ?_ ?_ (fun i z => ?_) (fun a z => ?_) ?_ (fun k z0 z1 => ?_)
  · rw [w6 a i (by omega) (by omega)]
    unfold chaS
    rw [up_k (by omega), up_k (by omega), up_k (by omega), up_k (by omega), up_k (by omega), w7 a i (by omega) (by omega)]
  · rw [e6, up_i (by decide), up_i (by decide), hS _ 3 5 (by decide), e5, up_i (by decide), up_i (by decide)]
    unfold chaS
    rw [up_k (by omega), up_k (by omega), up_k (by omega), up_k (by omega), up_k (by omega), hS _ 3 5 (by decide), s45]
  · rw [w6 (v + 12) 0 (by omega) (by omega)]
    unfold chaS
    rw [up_s, w7 (v + 12) 0 (by omega) (by omega)]
  · rw [q6 136 i (by omega), fS 136 i (by omega) (by omega), fG 136 i (by omega)]
  · funext i
    rw [q6 a i (by omega), fS a i (by omega) (by omega), fG a i (by omega)]
  · rw [q6 136 39 (by omega), eS, up_s, fG 136 39 (by omega)]
  · rw [w6 (v + 13) k (by omega) (by omega), w6 (v + 14) k (by omega) (by omega), w6 (v + 15) k (by omega) (by omega), w6 (v + 16) k (by omega) (by omega), q6 154 k (by omega), q6 155 k (by omega), q6 156 k (by omega), q6 157 k (by omega), eS]
    unfold chaS tmP
    rw [w7 (v + 12) 0 (by omega) (by omega), d7, fG 136 39 (by omega)]
    by_cases y : k = F 136 39
    · rw [y]
      refine ⟨?_, ?_, ?_, ?_⟩
      · (repeat (first | rw [up_s] | rw [up_i (by omega)] | rw [up_k (by omega)]))
      · (repeat (first | rw [up_s] | rw [up_i (by omega)] | rw [up_k (by omega)]))
      · (repeat (first | rw [up_s] | rw [up_i (by omega)] | rw [up_k (by omega)]))
      · (repeat (first | rw [up_s] | rw [up_i (by omega)] | rw [up_k (by omega)]))
    · have d := d8 k z0 (by omega)
      refine ⟨?_, ?_, ?_, ?_⟩
      · rw [up_k (by omega), up_k (by omega), up_k (by omega), up_k (by omega), up_i y, w7 (v + 13) k (by omega) (by omega), up_k (by decide), up_k (by decide), up_k (by decide), up_k (by decide), up_i y, fG 154 k (by omega)]
        exact d.1
      · rw [up_k (by omega), up_k (by omega), up_k (by omega), up_i y, up_k (by omega), w7 (v + 14) k (by omega) (by omega), up_k (by decide), up_k (by decide), up_k (by decide), up_i y, up_k (by decide), fG 155 k (by omega)]
        exact d.2.1
      · rw [up_k (by omega), up_k (by omega), up_i y, up_k (by omega), up_k (by omega), w7 (v + 15) k (by omega) (by omega), up_k (by decide), up_k (by decide), up_i y, up_k (by decide), up_k (by decide), fG 156 k (by omega)]
        exact d.2.2.1
      · rw [up_k (by omega), up_i y, up_k (by omega), up_k (by omega), up_k (by omega), w7 (v + 16) k (by omega) (by omega), up_k (by decide), up_i y, up_k (by decide), up_k (by decide), up_k (by decide), fG 157 k (by omega)]
        exact d.2.2.2

