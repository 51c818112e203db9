theorem sim_nod {v : Int} {W M F : Hp} (hv : isSu v) (h : Ms v W M F) (h34 : M 3 4 = 0) (hd : Dr v M F) (hw : wdB 474245 F) : Bd W (stmS F) ∨ ∃ M' : Hp, Ms v W M' (stmS F) ∧ M' 3 4 = 0 ∧ Dr v M' (stmS F) := by
  have hv2 : v = 4 ∨ v = 23 := hv
  have hS : ∀ (N : Hp) (a i : Int), a ≠ 21 → scnS N a i = N a i := fun N a i z => by rw [scn_r z]
  have hPQ := h.2.2.2.2.2.1
  have hAQ := h.2.2.2.2.2.2.1
  obtain ⟨d1, d2, -⟩ := id hd
  obtain ⟨eb, r1⟩ := h.nd0 hv h34 d1 hw
  have h22 : 0 ≤ F 136 22 := hPQ.2.2.2.2.2.1.1
  have out : Bd W (ndC F) → Bd W (stmS F) := fun z => by
    have b : Bd W (bdS F) := by
      rw [eb]
      unfold ndS
      rw [if_neg z.1]
      exact z
    exact b.mu.sc
  rcases r1 with z | ⟨m1, -, h12, e1⟩
  · exact Or.inl (out z.mu.mu)
  have fA : ∀ a i : Int, (a ≠ 136 ∨ 22 ≤ i) → ndA F a i = F a i := fun a i z => by
    unfold ndA
    rw [sc_r (by omega), mu_r (by omega)]
  have s1 : stp v M 3 4 = 1 := by rw [e1, up_i (by decide), up_s]
  have w1 : ∀ a i : Int, a ≠ 3 → a ≠ 21 → stp v M a i = M a i := fun a i z1 z2 => by rw [e1, up_k z1, up_k z1, hS M a i z2]
  rcases m1.ndn hv s1 (by rw [w1 v 0 (by omega) (by omega), fA 136 22 (by omega)]; exact d1) (fun n z0 z1 => by
      rw [fA 136 22 (by omega)] at z1
      rw [w1 (v + 1) n (by omega) (by omega), fA 140 n (by omega)]
      exact (d2 n z0 z1).1) with z | ⟨m2, x1, q1, q2, hwd, e2⟩
  · exact Or.inl (out z)
  have eC : ndC F = ndA F := x1
  have gC : ndC F 136 19 = 0 := by
    rw [eC]
    exact m1.2.2.2.2.2.2.2
  have c22 : ndC F 136 22 = F 136 22 := by rw [eC, fA 136 22 (by omega)]
  have eS : ndS F = up (ndG F) 136 22 (ndG F 136 22 + 1) := if_pos gC
  have out2 : Bd W (ndE F) → Bd W (stmS F) := fun z => by
    have b : Bd W (bdS F) := by
      rw [eb, eS]
      have g : Bd W (ndG F) := by
        unfold ndG
        split
        · exact z.u (by omega)
        · exact z
      exact g.u (by omega)
    exact b.mu.sc
  have eD : ndD F = up (rpS (F 136 22) (sc (ndA F))) 140 (F 136 22) (ndA F 136 21) := by
    unfold ndD
    rw [c22, eC]
  have eE : ndE F = lpS (F 136 22) 901 (inS (F 136 22) 7 (ndD F)) := by
    unfold ndE
    rw [c22]
  rw [fA 136 22 (by omega)] at e2
  have hnE : Nx F (ndD F) := Nx.ndD hPQ hAQ
  have hin := Nx.inn (d := F 136 22) (Nx.rf hnE.1 hnE.2.1) 7
  rcases nod_mid (w := ndA F 136 21) hv hd m2 fA ⟨up (scnS (stp v M)) 3 6 (cvN (ndA F 136 21)), fun a i z => by
      rcases z with z | z
      · rw [up_k (by omega), hS _ a i (by omega), w1 a i (by omega) (by omega)]
      · rw [z.1, z.2, up_i (by decide), hS _ 3 5 (by decide), e1, up_i (by decide), up_i (by decide), hS M 3 5 (by decide)], up_s, e2⟩ with z | ⟨M3, Q, p, m3, hQ, hp, e3, hX, hX7⟩
  · refine Or.inl (out2 ?_)
    rw [eE, eD]
    have b : ∀ (k : Nat) (G : Hp), Bd W G → Bd W (inS (F 136 22) k G) := by
      intro k
      induction k with
      | zero => exact fun G z => z
      | succ k ih => exact fun G z => ((ih G z).u (by omega)).u (by omega)
    exact (b 7 _ (z.u (by omega))).lp
  have dn := Dn.beg hv hd rfl h22 h12 hwd hQ hp e3 hX hX7
  rw [← eD] at dn
  have gin : ∀ a : Int, a ≠ 148 ∧ a ≠ 149 → inS (F 136 22) 7 (ndD F) a = ndD F a := fun a z => inS_f z
  have m4 : Ms v W M3 (ndD F) := m3.of2 hnE.1 (fun i z => by rw [eD, up_k (by decide)]) (by rw [eD, up_r (by decide)])
  have m5 : Ms v W M3 (inS (F 136 22) 7 (ndD F)) := m4.of hin (fun i z => by rw [gin 136 (by decide)]) (gin 146 (by decide))
  have s3 : M3 3 4 = 4 := by rw [e3, up_i (by decide), up_s]
  have i22 : inS (F 136 22) 7 (ndD F) 136 22 = F 136 22 := by rw [gin 136 (by decide)]; exact hnE.2.2.2.1
  have L := Dn.lp hv (d := F 136 22) 901 M3 (inS (F 136 22) 7 (ndD F)) m5 s3 dn i22 (by
    have a := m5.2.2.2.2.2.2.1
    have b := m5.2.2.2.2.2.1.1.1
    unfold AtQ at a
    omega)
  rw [← eE] at L
  rcases L with z | ⟨M4, m6, s6, dn6, st6, e22⟩
  · exact Or.inl (out2 z)
  have fG : ∀ a i : Int, ¬ (a = 148 ∧ i = 7 * F 136 22 + 1) → ndG F a i = ndE F a i := fun a i z => by
    unfold ndG
    rw [c22]
    split
    · rw [up_n (by omega)]
    · rfl
  have fS : ∀ a i : Int, ¬ (a = 148 ∧ i = 7 * F 136 22 + 1) → ¬ (a = 136 ∧ i = 22) → ndS F a i = ndE F a i := fun a i z1 z2 => by
    rw [eS, up_n z2, fG a i z1]
  have hNS := Ny.ndS hPQ hAQ
  have m7 : Ms v W M4 (ndS F) := m6.of2 hNS.1 (fun i z => fS 136 i (by omega) (by omega)) (by funext i; exact fS 146 i (by omega) (by omega))
  have hf := m7.2.2.2.2.1.f
  have stS : stH (ndS F) = -2 := by
    rw [← st6]
    unfold stH
    rw [fS 136 17 (by omega) (by omega), fS 136 21 (by omega) (by omega)]
  obtain ⟨k1, -⟩ := kw_r (F := ndS F) (fun z => (hf.2.2.2.2.1 z).1)
  have hc := tak_4 (v := v) s6 rfl
  unfold tkSet at hc
  rw [hf.2.1, hf.2.2.2.1] at hc
  have eT : stmS F = sc (mu (ndS F 136 17 = 3) 1 (ndS F)) := by
    unfold stmS
    rw [eb]
  rw [eT]
  by_cases q3 : ndS F 136 17 = 3
  · rw [if_pos q3] at hc
    have e7 : mu (ndS F 136 17 = 3) 1 (ndS F) = ndS F := if_neg (fun z => z.2 q3)
    rw [e7]
    have m8 : Ms v W (stp v M4) (sc (ndS F)) := m7.ok hv (by omega) (by rw [hc]) (Nx.rf m7.2.2.2.2.2.1 m7.2.2.2.2.2.2.1) m7.2.2.2.2.2.2.2 rfl rfl
    have e8 : stp v M4 = up (finS v (scnS M4)) 3 0 0 := by
      unfold stp
      rw [hc]
    have g22 : M4 v 0 = F 136 22 + 1 := by rw [dn6.1, e22]
    have fin : finS v (scnS M4) = if gvn (M4 3 7) 1 = 0 then up (up (scnS M4) (v + 6) (F 136 22) (M4 (v + 5) (F 136 22))) 3 4 0 else up (scnS M4) 3 4 0 := by
      unfold finS
      rw [hS M4 3 7 (by decide), hS M4 v 0 (by omega), g22, show F 136 22 + 1 - 1 = F 136 22 by omega, hS M4 (v + 5) _ (by omega)]
    refine Or.inr ⟨stp v M4, m8, ?_, ?_⟩
    · rw [e8, fin, up_i (by decide)]
      split <;> rw [up_s]
    · refine dn6.out (fun a i z1 z2 => ?_) ?_ ?_ (fun i z => ?_) ?_ (fun a z => ?_) (fun i => ?_)
      · rw [e22] at z2
        rw [e8, up_k (by omega), fin]
        split
        · rw [up_k (by omega), up_n z2, hS M4 a i (by omega)]
        · rw [up_k (by omega), hS M4 a i (by omega)]
      · rw [e22, e8, up_k (by omega), fin]
        by_cases y : gvn (M4 3 7) 1 = 0
        · rw [if_pos y, if_pos y, up_k (by omega), up_s]
        · rw [if_neg y, if_neg y, up_k (by omega), hS M4 _ _ (by omega)]
      · rw [e8, up_i (by decide), fin]
        split
        · rw [up_i (by decide), up_k (by omega), hS M4 3 5 (by decide)]
        · rw [up_i (by decide), hS M4 3 5 (by decide)]
      · rw [sc_r (by omega), fS 136 i (by omega) (by omega)]
      · rw [sc_r (by omega), eS, up_s, fG 136 22 (by omega)]
      · funext i
        rw [sc_r (by omega), fS a i (by omega) (by omega)]
      · rw [sc_r (by omega), eS, up_k (by decide), e22]
        unfold ndG
        rw [c22]
        by_cases y : ndE F 149 (7 * F 136 22 + 1) = 0
        · rw [if_pos y]
          by_cases x : i = 7 * F 136 22 + 1
          · rw [if_pos ⟨x, y⟩, x, up_s]
          · rw [if_neg (fun z => x z.1), up_i x]
        · rw [if_neg y, if_neg (fun z => y z.2)]
  · rw [if_neg q3, if_pos (by split at k1 <;> omega)] at hc
    exact Or.inl (m7.bad q3 (fun z => by omega) (by rw [hc]; split <;> rfl) (by decide)).sc

