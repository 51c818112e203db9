/-- a node's IN -/
theorem Ms.inn {v : Int} {W M F : Hp} (hv : isSu v) (h : Ms v W M F) (hs : M 3 4 = 2) : Bd W (sc (mu (wdB 302 F) 1 F)) ∨ (Ms v W (stp v M) (sc F) ∧ mu (wdB 302 F) 1 F = F ∧ stp v M = up (up (scnS M) 3 4 3) 3 0 0) := by
  have hf := h.2.2.2.2.1.f
  have hg : F 136 19 = 0 := h.2.2.2.2.2.2.2
  obtain ⟨-, -, -, k8, -⟩ := kw_r (F := F) (fun z => (hf.2.2.2.2.1 z).1)
  have hc := tak_2 (v := v) hs rfl
  unfold tkInn at hc
  rw [hf.2.2.2.1] at hc
  by_cases q : wdB 302 F
  · have e1 : mu (wdB 302 F) 1 F = F := if_neg (fun z => z.2 q)
    rw [if_pos (k8.mp q)] at hc
    exact Or.inr ⟨h.ok hv (by have := q.1; omega) (by rw [hc]) (Nx.rf h.2.2.2.2.2.1 h.2.2.2.2.2.2.1) hg rfl rfl, e1, by unfold stp; rw [hc]⟩
  · rw [if_neg (fun z => q (k8.mpr z))] at hc
    exact Or.inl (h.bad q (fun z => by omega) (by rw [hc]; split <;> rfl) (by decide)).sc
/-- a node's parent -/
theorem Ms.par {v : Int} {W M F : Hp} (hv : isSu v) (h : Ms v W M F) (hs : M 3 4 = 3) (d : Int) (h0 : M v 0 = F 136 22) (hn : ∀ n : Int, 0 ≤ n → n < F 136 22 → WdR (F 140 n) ∧ M (v + 1) n = cvN (F 140 n)) : Bd W (sc (up (mu (¬ hrS (mu (nmB F) 1 F) = -2) 3 (mu (nmB F) 1 F)) 147 d (hrS (mu (nmB F) 1 F)))) ∨ (Ms v W (stp v M) (sc (up F 147 d (hrS F))) ∧ mu (nmB F) 1 F = F ∧ mu (¬ hrS F = -2) 3 F = F ∧ ¬ hrS F = -2 ∧ stp v M = up (rdAd v (hrS F) (scnS M)) 3 0 0) := by
  have hf := h.2.2.2.2.1.f
  have hg : F 136 19 = 0 := h.2.2.2.2.2.2.2
  have hv2 : v = 4 ∨ v = 23 := hv
  obtain ⟨-, k2, -⟩ := kw_r (F := F) (fun z => (hf.2.2.2.2.1 z).1)
  have hc := tak_3 (v := v) hs rfl
  unfold tkPar at hc
  rw [hf.2.1, hf.2.2.2.1] at hc
  by_cases q : nmB F
  · have e1 : mu (nmB F) 1 F = F := if_neg (fun z => z.2 q)
    have q2 := k2.mp q
    have hw := hf.2.2.2.2.1 q2.1
    have ef : fndS v (scnS M 21 3) (scnS M) = hrS F := by
      rw [hw.2]
      exact fnd_hr (by rw [scn_r (by omega)]; exact h0) (fun n z0 z1 => by rw [scn_r (k := v + 1) (by omega)]; exact hn n z0 z1) hw.1
    rw [if_neg (fun z => z q2), ef] at hc
    rw [e1]
    by_cases p : hrS F = -2
    · rw [if_pos p] at hc
      exact Or.inl ((h.bad (fun z => z p) (fun z => by omega) (by rw [hc, if_neg (by omega)]) (by decide)).u (by omega)).sc
    · rw [if_neg p] at hc
      have e2 : mu (¬ hrS F = -2) 3 F = F := if_neg (fun z => z.2 p)
      exact Or.inr ⟨h.ok hv (by omega) (by rw [hc]) ((Nx.rf h.2.2.2.2.2.1 h.2.2.2.2.2.2.1).u (by omega)) (by rw [up_k (by decide)]; exact hg) (up_k (by decide)) (up_r (by decide)), rfl, e2, p, by unfold stp; rw [hc]⟩
  · rw [if_pos (fun z => q (k2.mpr z))] at hc
    exact Or.inl (((h.bad q (fun z => by omega) (by rw [hc]; split <;> rfl) (by decide)).mu).u (by omega)).sc
/-- limit, age and changes of the drafts agree -/
def Dx (v : Int) (M F : Hp) : Prop := M v 13 = F 136 23 ∧ M 3 5 = F 136 25 ∧ M v 14 = (if F 136 26 = 0 then -1 else F 136 24) ∧ (F 136 26 = 0 ∨ 0 ≤ F 136 24) ∧
  M (v + 12) 0 = F 136 39 ∧ (∀ k : Int, 0 ≤ k → k < F 136 39 → M (v + 13) k = F 154 k ∧ M (v + 14) k = F 155 k ∧ M (v + 15) k = F 156 k ∧ M (v + 16) k = F 157 k)
theorem Dx.of {v : Int} {M M' F F' : Hp} (h : Dx v M F) (hM : ∀ a i : Int, (v ≤ a ∧ a < v + 17) → ¬ (v + 1 ≤ a ∧ a ≤ v + 11) → ¬ (a = v ∧ i = 0) → M' a i = M a i) (h35 : M' 3 5 = M 3 5) (hF : ∀ i : Int, (23 ≤ i ∧ i ≤ 26) ∨ i = 39 → F' 136 i = F 136 i) (hF2 : ∀ a : Int, 154 ≤ a ∧ a ≤ 157 → F' a = F a) : Dx v M' F' := by
  obtain ⟨d3, d4, d5, d6, d7, d8⟩ := h
  unfold Dx
  rw [hF 23 (by omega), hF 24 (by omega), hF 25 (by omega), hF 26 (by omega), hF 39 (by omega), hF2 154 (by omega), hF2 155 (by omega), hF2 156 (by omega), hF2 157 (by omega), h35]
  refine ⟨by rw [hM v 13 (by omega) (by omega) (by omega)]; exact d3, d4, by rw [hM v 14 (by omega) (by omega) (by omega)]; exact d5, d6, by rw [hM (v + 12) 0 (by omega) (by omega) (by omega)]; exact d7, fun k z0 z1 => ?_⟩
  rw [hM (v + 13) k (by omega) (by omega) (by omega), hM (v + 14) k (by omega) (by omega) (by omega), hM (v + 15) k (by omega) (by omega) (by omega), hM (v + 16) k (by omega) (by omega) (by omega)]
  exact d8 k z0 z1
/-- the drafts agree within a node statement -/
def Dn (v : Int) (M F : Hp) : Prop := M v 0 = F 136 22 + 1 ∧ (0 ≤ F 136 22 ∧ F 136 22 < 12) ∧ (∀ n : Int, 0 ≤ n → n < F 136 22 + 1 → (WdR (F 140 n) ∧ M (v + 1) n = cvN (F 140 n)) ∧ M (v + 2) n = F 147 n) ∧ (∀ n : Int, 0 ≤ n → n < F 136 22 + 1 → ∀ s : Int, 0 ≤ s → s < 7 → ¬ (s = 1 ∧ n = F 136 22 ∧ F 149 (7 * n + 1) = 0) → M (v + 5 + s) n = F 148 (7 * n + s)) ∧ (∀ s : Int, 0 ≤ s → s < 7 → gvn (M 3 7) s = F 149 (7 * F 136 22 + s)) ∧ Dx v M F
theorem Dn.of {v : Int} {M M' F F' : Hp} (h : Dn v M F) (hM : ∀ a i : Int, (v ≤ a ∧ a < v + 17) → ¬ (v + 5 ≤ a ∧ a ≤ v + 11) → M' a i = M a i) (h35 : M' 3 5 = M 3 5) (hF : ∀ i : Int, (22 ≤ i ∧ i ≤ 26) ∨ i = 39 → F' 136 i = F 136 i) (hF2 : ∀ a : Int, a = 140 ∨ a = 147 ∨ (154 ≤ a ∧ a ≤ 157) → F' a = F a)
    (hr : ∀ n : Int, 0 ≤ n → n < F 136 22 + 1 → ∀ s : Int, 0 ≤ s → s < 7 → ¬ (s = 1 ∧ n = F 136 22 ∧ F' 149 (7 * n + 1) = 0) → M' (v + 5 + s) n = F' 148 (7 * n + s)) (ht : ∀ s : Int, 0 ≤ s → s < 7 → gvn (M' 3 7) s = F' 149 (7 * F 136 22 + s)) : Dn v M' F' := by
  obtain ⟨d1, d2, d3, d4, d5, d6⟩ := h
  have dx : Dx v M' F' := d6.of (fun a i z1 z2 z3 => hM a i z1 (by omega)) h35 (fun i z => hF i (by omega)) (fun a z => hF2 a (by omega))
  unfold Dn
  rw [hF 22 (by omega), hF2 140 (by omega), hF2 147 (by omega)]
  refine ⟨by rw [hM v 0 (by omega) (by omega)]; exact d1, d2, fun n z0 z1 => ?_, hr, ht, dx⟩
  rw [hM (v + 1) n (by omega) (by omega), hM (v + 2) n (by omega) (by omega)]
  exact d3 n z0 z1
theorem tab_st {q : Int} (h : 0 ≤ q ∧ q < 6) : tabL q.toNat = loK q ∧ tabG q.toNat = hiK q := by
  have : q = 0 ∨ q = 1 ∨ q = 2 ∨ q = 3 ∨ q = 4 ∨ q = 5 := by omega
  rcases this with rfl | rfl | rfl | rfl | rfl | rfl <;> exact ⟨rfl, rfl⟩
theorem in_7 {d : Int} {F : Hp} : inS d 7 F = up (up (up (up (up (up (up (up (up (up (up (up (up (up F 149 (7 * d) 0) 148 (7 * d) 1) 149 (7 * d + 1) 0) 148 (7 * d + 1) 0) 149 (7 * d + 2) 0) 148 (7 * d + 2) 10) 149 (7 * d + 3) 0) 148 (7 * d + 3) 0) 149 (7 * d + 4) 0) 148 (7 * d + 4) 1) 149 (7 * d + 5) 0) 148 (7 * d + 5) 0) 149 (7 * d + 6) 0) 148 (7 * d + 6) 0 := by
  show inS d 7 F = up (up (up (up (up (up (up (up (up (up (up (up (up (up F 149 (7 * d) 0) 148 (7 * d) 1) 149 (7 * d + 1) 0) 148 (7 * d + 1) 0) 149 (7 * d + 2) 0) 148 (7 * d + 2) 10) 149 (7 * d + 3) 0) 148 (7 * d + 3) 0) 149 (7 * d + 4) 0) 148 (7 * d + 4) 1) 149 (7 * d + 5) 0) 148 (7 * d + 5) 0) 149 (7 * d + 6) 0) 148 (7 * d + 6) 0
  have e : 7 * d + ((0 : Nat) : Int) = 7 * d := by omega
  unfold inS inS inS inS inS inS inS inS
  rw [e]
  rfl

