/-- the machine still runs to the outcome W -/
def Rn (v : Int) (W M : Hp) : Prop := ∃ k : Nat, rdS v k M = W ∧ M 1 1 - M 21 0 < k ∧ M 3 0 = 0 ∧ M 3 1 = -2
theorem Rn.ok {v : Int} {W M : Hp} (hv : isSu v) (h : Rn v W M) (hx : TxI M) (ht : ¬ tokK M = 0) (hc : (takS v (scnS M)).1 = 0) : Rn v W (stp v M) := by
  obtain ⟨k, e, hk, k0, k1⟩ := h
  have h2 := hx.2.2
  have hr := tok_rng hx
  have hs := skp_rng hx
  refine ⟨k - 1, by rw [← e, rdS_go (by omega) (fun z => ht z.1) hc]; rfl, ?_, up_s, ?_⟩
  rotate_left
  · unfold stp
    rw [up_i (by decide), tak_k hv (by omega), scn_r (by decide)]
    exact k1
  rw [stp_k hv (Or.inl rfl), stp_k hv (Or.inr (Or.inr rfl)), scn_r (by decide), (scn_f M).1]
  have := hr.2.2.1 ht
  omega
theorem Rn.bad {v : Int} {W M : Hp} (h : Rn v W M) (hx : TxI M) (hn : ¬ (tokK M = 0 ∧ M 3 4 = 0)) {c : Int} (hc : (takS v (scnS M)).1 = c) (h0 : ¬ c = 0) : W 3 0 = c ∧ W 3 1 = skpE M := by
  obtain ⟨k, e, hk, -⟩ := h
  have h2 := hx.2.2
  rw [rdS_bad (by omega) hn (by rw [hc]; exact h0)] at e
  rw [← e, up_i (by decide), up_s, up_s]
  exact ⟨hc, rfl⟩
theorem Rn.fin {v : Int} {W M : Hp} (h : Rn v W M) (hx : TxI M) (hn : tokK M = 0 ∧ M 3 4 = 0) : W = scnS M := by
  obtain ⟨k, e, hk, -⟩ := h
  have h2 := hx.2.2
  rw [rdS_end (by omega) hn] at e
  exact e.symm
/-- both machines before the same token -/
def Ms (v : Int) (W M F : Hp) : Prop := Rn v W M ∧ PrI v M ∧ TxI M ∧ TxR M F ∧ Tok M F ∧ PQ F ∧ AtQ F ∧ F 136 19 = 0
/-- both have met the same fault -/
def Bd (W F : Hp) : Prop := ¬ F 136 19 = 0 ∧ W 3 0 = F 136 19 ∧ W 3 1 = F 136 20
theorem Bd.sc {W F : Hp} (h : Bd W F) : Bd W (sc F) := by rw [show Jvm.Pilot.CRateLimiterLaw_law_r9152_2bcaae.sc F = F from if_neg h.1]; exact h
theorem Bd.mu {W F : Hp} (h : Bd W F) {g : Prop} [Decidable g] {c : Int} : Bd W (mu g c F) := by rw [show Jvm.Pilot.CRateLimiterLaw_law_r9152_2bcaae.mu g c F = F from if_neg (fun z => h.1 z.1)]; exact h
theorem Bd.u {W F : Hp} (h : Bd W F) {a i x : Int} (ha : a ≠ 136 ∨ (i ≠ 19 ∧ i ≠ 20)) : Bd W (up F a i x) := by
  unfold Bd at h ⊢
  rw [up_n (by omega), up_n (by omega)]
  exact h
/-- a fault that the class's step finds too -/
theorem Ms.bad {v : Int} {W M F : Hp} (h : Ms v W M F) {g : Prop} [Decidable g] {c : Int} (hg : ¬ g) (hn : ¬ (F 136 17 = 0 ∧ M 3 4 = 0)) (hc : (takS v (scnS M)).1 = (if F 136 17 = 4 then 1 else c)) (h0 : ¬ c = 0) : Bd W (mu g c F) := by
  obtain ⟨h1, h2, h3, h4, h5, h6, h7, h8⟩ := h
  have e := h1.bad h3 (by rw [← h5.2.2.1]; exact hn) hc (by split <;> omega)
  rw [show Jvm.Pilot.CRateLimiterLaw_law_r9152_2bcaae.mu g c F = up (up F 136 19 (if F 136 17 = 4 then 1 else c)) 136 20 (F 136 15) from if_pos ⟨h8, hg⟩]
  unfold Bd
  rw [up_i (by decide), up_s, up_s, h5.1]
  exact ⟨by split <;> omega, e.1, e.2⟩
theorem Ms.ok {v : Int} {W M F G : Hp} (hv : isSu v) (h : Ms v W M F) (ht : ¬ F 136 17 = 0) (hc : (takS v (scnS M)).1 = 0) (hn : Nx F G) (hg : G 136 19 = 0) (h16 : G 136 16 = F 136 16) (h6 : G 146 = F 146) : Ms v W (stp v M) (sc G) := by
  obtain ⟨h1, h2, h3, h4, h5, h6', h7, h8⟩ := h
  have hne : ¬ tokK M = 0 := by rw [← h5.2.2.1]; exact ht
  have n2 := hn.sc
  refine ⟨h1.ok hv h3 hne hc, (((h2.scn hv).tak hv (TkI.scn h3) hc)).fr (fun i _ => up_i (by omega)) (fun a z1 z2 => up_r (by omega)), (h3.scn.tak hv).u3, ?_, tok_stp hv h4 h5 hn.1 hg hn.2.2.1 h16 h6, n2.1, n2.2.1, by rw [sc_r (by omega)]; exact hg⟩
  have t := stp_tx (v := v) hv h4
  have e6 : Jvm.Pilot.CRateLimiterLaw_law_r9152_2bcaae.sc G 146 = F 146 := by funext i; rw [sc_r (by omega), h6]
  unfold TxR at t ⊢
  rw [sc_r (by omega), hn.2.2.1, e6]
  exact t

