theorem sim_age {v : Int} {W M F : Hp} (hv : isSu v) (h : Ms v W M F) (h34 : M 3 4 = 0) (hd : Dr v M F) (hw : wdB 1253 F) : Bd W (stmS F) ∨ ∃ M' : Hp, Ms v W M' (stmS F) ∧ M' 3 4 = 0 ∧ Dr v M' (stmS F) := by
  have hf := h.2.2.2.2.1.f
  have hg : F 136 19 = 0 := h.2.2.2.2.2.2.2
  obtain ⟨-, -, k7, -, k9, k10, -, -⟩ := kw_r (F := F) (fun z => (hf.2.2.2.2.1 z).1)
  have kw : kwR F = 10 := k10.mp hw
  have hv2 : v = 4 ∨ v = 23 := hv
  have hS : ∀ (N : Hp) (a : Int), a ≠ 21 → scnS N a = N a := fun N a z => scn_r z
  have hc : takS v (scnS M) = (if M v 14 = -1 then 0 else 4, up (scnS M) 3 4 7) := by
    unfold takS
    rw [hS M 3 (by decide), h34, if_pos rfl]
    unfold tkStm
    rw [hf.2.2.2.1, kw, if_neg (by decide), if_neg (by decide), if_pos rfl, hS M v (by omega)]
  have hb : bdS F = up (rnS 0 999 (agA F)) 136 24 (agA F 136 18) := by
    unfold bdS
    rw [if_neg (fun z => by have := k7.mp z; omega), if_neg (fun z => by have := k9.mp z; omega), if_pos hw]
  have d14 : M v 14 = -1 ↔ F 136 26 = 0 := by
    have a := hd.2.2.2.2.1
    have b := hd.2.2.2.2.2.1
    split at a <;> omega
  have out : Bd W (bdS F) → Bd W (stmS F) := fun z => z.mu.sc
  by_cases q : F 136 26 = 0
  · have e0 : mu (F 136 26 = 0) 4 F = F := if_neg (fun z => z.2 q)
    have m1 : Ms v W (stp v M) (agA F) := by
      unfold agA
      rw [e0]
      exact h.ok hv (by have := hw.1; omega) (by rw [hc]; exact if_pos (d14.mpr q)) ((Nx.rf h.2.2.2.2.2.1 h.2.2.2.2.2.2.1).u25 (by omega) (by omega)) (by rw [up_i (by decide)]; exact hg) (up_i (by decide)) (up_r (by decide))
    have e1 : stp v M = up (up (scnS M) 3 4 7) 3 0 0 := by unfold stp; rw [hc]
    have h1 : stp v M 3 4 = 7 := by rw [e1, up_i (by decide), up_s]
    have hc1 : takS v (scnS (stp v M)) = tkAge v (scnS (stp v M)) := by
      unfold takS
      rw [hS _ 3 (by decide), h1]
      rfl
    have hf1 := m1.2.2.2.2.1.f
    rcases m1.num hv (lo := 0) (hi := 999) (by rw [h1]; decide) (by rw [hc1]; rfl) with z | ⟨m2, hk2, hr2⟩
    · exact Or.inl (out (by rw [hb]; exact z.u (by omega)))
    · have e2 : stp v (stp v M) = up (up (up (scnS (stp v M)) v 14 (agA F 136 18)) 3 4 12) 3 0 0 := by
        rw [show stp v (stp v M) = up (takS v (scnS (stp v M))).2 3 0 0 from rfl, hc1]
        unfold tkAge
        rw [hf1.2.2.2.2.2 hk2]
      have m3 := m2.u (a := 136) (i := 24) (x := agA F 136 18) (by omega)
      rw [← hb] at m3
      have h2 : stp v (stp v M) 3 4 = 12 := by rw [e2, up_i (by decide), up_s]
      rcases m3.semi hv h2 with z | ⟨m4, e4, e5⟩
      · exact Or.inl z
      · refine Or.inr ⟨stp v (stp v (stp v M)), m4, by rw [e4, up_i (by decide), up_s], ?_⟩
        have hst : ∀ i : Int, (i ≠ 15 ∧ i ≠ 16 ∧ i ≠ 17 ∧ i ≠ 18 ∧ i ≠ 21) → stmS F 136 i = bdS F 136 i := fun i z => by
          unfold stmS
          rw [sc_r (by omega), e5]
        have hst2 : ∀ a : Int, a ≠ 136 → stmS F a = F a := fun a z => by
          funext i
          unfold stmS
          rw [sc_r (by omega), e5, hb, up_k z, rnS_r (by omega)]
          unfold agA
          rw [sc_r (by omega), up_k z, mu_r (by omega)]
        have hlm : ∀ i : Int, (i ≠ 15 ∧ i ≠ 16 ∧ i ≠ 17 ∧ i ≠ 18 ∧ i ≠ 21 ∧ i ≠ 19 ∧ i ≠ 20 ∧ i ≠ 24 ∧ i ≠ 26) → bdS F 136 i = F 136 i := fun i z => by
          rw [hb, up_i (by omega), rnS_r (by omega)]
          unfold agA
          rw [sc_r (by omega), up_i (by omega), mu_r (by omega)]
        have h26 : stmS F 136 26 = 1 := by
          rw [hst 26 (by omega), hb, up_i (by decide), rnS_r (by omega)]
          unfold agA
          rw [sc_r (by omega), up_s]
        refine Dr.of hd (fun a i z1 z2 => ?_) (fun i z => by rw [hst i (by omega), hlm i (by omega)]) (fun a z => hst2 a (by omega)) ?_ ?_ ?_ ?_
        · rw [e4, up_k (by omega), up_k (by omega), hS _ a (by omega), e2, up_k (by omega), up_k (by omega), up_n (by omega), hS _ a (by omega), e1, up_k (by omega), up_k (by omega), hS _ a (by omega)]
        · rw [e4, up_k (by omega), up_k (by omega), hS _ v (by omega), e2, up_k (by omega), up_k (by omega), up_i (by decide), hS _ v (by omega), e1, up_k (by omega), up_k (by omega), hS _ v (by omega), hst 23 (by omega), hlm 23 (by omega)]
          exact hd.2.2.1
        · rw [e4, up_i (by decide), up_i (by decide), hS _ 3 (by decide), e2, up_i (by decide), up_i (by decide), up_k (by omega), hS _ 3 (by decide), e1, up_i (by decide), up_i (by decide), hS _ 3 (by decide), hst 25 (by omega), hlm 25 (by omega)]
          exact hd.2.2.2.1
        · rw [e4, up_k (by omega), up_k (by omega), hS _ v (by omega), e2, up_k (by omega), up_k (by omega), up_s, h26, if_neg (by decide), hst 24 (by omega), hb, up_s]
        · rw [h26, hst 24 (by omega), hb, up_s]
          exact Or.inr hr2.1
  · refine Or.inl (out ?_)
    rw [hb]
    refine Bd.u (Bd.rn ?_) (by omega)
    unfold agA
    exact ((h.bad q (fun z => by have := hw.1; omega) (by rw [hc]; show (if M v 14 = -1 then (0 : Int) else 4) = _; rw [if_neg (fun z => q (d14.mp z)), if_neg (by have := hw.1; omega)]) (by decide)).u (by omega)).sc

