def AtQ (F : Hp) : Prop := 0 ≤ F 136 15 ∧ F 136 15 ≤ F 136 16 ∧ (¬ F 136 17 = 0 → F 136 15 < F 136 16)
/-- what a step of the reader keeps -/
def Nx (F G : Hp) : Prop := PQ G ∧ AtQ G ∧ G 136 14 = F 136 14 ∧ G 136 22 = F 136 22 ∧ G 136 39 = F 136 39 ∧ (G 136 19 = 0 → F 136 19 = 0 ∧ F 136 15 ≤ G 136 15)
theorem Nx.rf {F : Hp} (h : PQ F) (h2 : AtQ F) : Nx F F := ⟨h, h2, rfl, rfl, rfl, fun z => ⟨z, Int.le_refl _⟩⟩
theorem Nx.tr {F G H : Hp} (h : Nx F G) (h2 : Nx G H) : Nx F H := ⟨h2.1, h2.2.1, h2.2.2.1.trans h.2.2.1, h2.2.2.2.1.trans h.2.2.2.1, h2.2.2.2.2.1.trans h.2.2.2.2.1, fun z => by have a := h2.2.2.2.2.2 z; have b := h.2.2.2.2.2 a.1; exact ⟨b.1, by omega⟩⟩
theorem Nx.sc {F G : Hp} (h : Nx F G) : Nx F (sc G) := by
  refine h.tr ⟨h.1.sc, ?_, sc_r (by omega), sc_r (by omega), sc_r (by omega), fun z => ?_⟩
  · by_cases q : G 136 19 = 0
    · rw [show Jvm.Pilot.CRateLimiterLaw_law_r9152_2bcaae.sc G = scF G from if_pos q]
      have f := scF_f G
      have hr := rt_rng h.1.1
      have hk := rk_f h.1.1
      have h16 := h.1.1.2.2
      unfold AtQ
      rw [f.1, f.2.1, f.2.2.1]
      exact ⟨by omega, by omega, fun y => (hr.2.2.2.2.1 y).2⟩
    · rw [show Jvm.Pilot.CRateLimiterLaw_law_r9152_2bcaae.sc G = G from if_neg q]; exact h.2.1
  · rw [sc_r (by omega)] at z
    rw [show Jvm.Pilot.CRateLimiterLaw_law_r9152_2bcaae.sc G = scF G from if_pos z]
    have f := scF_f G
    have hk := rk_f h.1.1
    have ha := h.2.1
    unfold AtQ at ha
    rw [f.1]
    exact ⟨z, by omega⟩
theorem Nx.sct {F G : Hp} (h : Nx F G) (ht : ¬ G 136 17 = 0) (hg : G 136 19 = 0) : F 136 15 < Jvm.Pilot.CRateLimiterLaw_law_r9152_2bcaae.sc G 136 15 := by
  rw [show Jvm.Pilot.CRateLimiterLaw_law_r9152_2bcaae.sc G = scF G from if_pos hg, (scF_f G).1]
  have hk := rk_f h.1.1
  have ha := h.2.1.2.2 ht
  have hb := (h.2.2.2.2.2 hg).2
  omega
theorem Nx.mu {F G : Hp} (h : Nx F G) {g : Prop} [Decidable g] {c : Int} (hc : 1 ≤ c ∧ c ≤ 5) : Nx F (mu g c G) := by
  refine h.tr ⟨h.1.mu (by omega), ?_, mu_r (by omega), mu_r (by omega), mu_r (by omega), fun z => ?_⟩
  · unfold AtQ
    rw [mu_r (by omega), mu_r (by omega), mu_r (by omega)]
    exact h.2.1
  · rw [mu_r (i := 15) (by omega)]
    refine ⟨?_, Int.le_refl _⟩
    unfold Jvm.Pilot.CRateLimiterLaw_law_r9152_2bcaae.mu at z
    split at z
    · rw [up_i (by decide), up_s] at z
      split at z <;> omega
    · exact z
theorem mu_t {G : Hp} {g : Prop} [Decidable g] {c : Int} (hc : ¬ c = 0) (h : mu g c G 136 19 = 0) : G 136 19 = 0 ∧ g ∧ mu g c G = G := by
  unfold mu at h ⊢
  by_cases q : G 136 19 = 0 ∧ ¬ g
  · rw [if_pos q, up_i (by decide), up_s] at h
    split at h <;> omega
  · rw [if_neg q] at h ⊢
    exact ⟨h, by by_cases y : g; exact y; exact absurd ⟨h, y⟩ q, rfl⟩
theorem Nx.of {F G G' : Hp} (h : Nx F G) (h2 : PQ G') (h3 : ∀ i : Int, i = 14 ∨ i = 15 ∨ i = 16 ∨ i = 17 ∨ i = 19 ∨ i = 22 ∨ i = 39 → G' 136 i = G 136 i) : Nx F G' := by
  refine h.tr ⟨h2, ?_, h3 14 (by omega), h3 22 (by omega), h3 39 (by omega), fun z => by rw [h3 19 (by omega)] at z; exact ⟨z, by rw [h3 15 (by omega)]; exact Int.le_refl _⟩⟩
  unfold AtQ
  rw [h3 15 (by omega), h3 16 (by omega), h3 17 (by omega)]
  exact h.2.1
theorem Nx.u {F G : Hp} (h : Nx F G) {a i x : Int} (ha : (a ≠ 136 ∧ a ≠ 146 ∧ a ≠ 140 ∧ a ≠ 149) ∨ (a = 136 ∧ (i = 23 ∨ i = 24))) : Nx F (up G a i x) := h.of (h.1.u ha) (fun j z => up_n (by omega))
theorem Nx.u9 {F G : Hp} (h : Nx F G) {i x : Int} (hx : x = 0 ∨ x = 1) : Nx F (up G 149 i x) := h.of (h.1.u9 hx) (fun j z => up_k (by decide))
theorem Nx.rn {F G : Hp} (h : Nx F G) {lo hi : Int} : Nx F (rnS lo hi G) := ((h.mu (by omega)).mu (by omega)).sc
theorem Nx.rpB {F G : Hp} (h : Nx F G) {d : Int} : Nx F (rpB d G) := (((h.u (by omega)).mu (by omega)).sc).mu (by omega)
theorem Nx.rp {F G : Hp} (h : Nx F G) {d : Int} : Nx F (rpS d G) := by
  unfold rpS
  split
  · exact h.u (by omega)
  · exact ((h.rpB.mu (by omega)).u (by omega)).sc
theorem Nx.rsA {F G : Hp} (h : Nx F G) {d : Int} : Nx F (rsA d G) := ((h.mu (by omega)).u9 (Or.inr rfl)).sc
theorem Nx.rs {F G : Hp} (h : Nx F G) {d : Int} : Nx F (rsS d G) := by
  unfold rsS
  split
  · exact h.rsA.u (by omega)
  · exact h.rsA.rn.u (by omega)
theorem rs_at {F : Hp} (h : PQ F) (h2 : AtQ F) {d : Int} (hg : F 136 19 = 0) (hs : ¬ stH F = -2) (hg2 : rsS d F 136 19 = 0) : F 136 15 < rsS d F 136 15 := by
  have ht : ¬ F 136 17 = 0 := by have := stH_rng F; omega
  have n0 := Nx.rf h h2
  have nA : Nx F (up (mu (F 149 (7 * d + stH F) = 0) 4 F) 149 (7 * d + stH F) 1) := (n0.mu (by omega)).u9 (Or.inr rfl)
  have key : rsA d F 136 19 = 0 → F 136 15 < rsA d F 136 15 := fun z => by
    have z2 := z
    unfold rsA at z2
    rw [sc_r (by omega)] at z2
    exact nA.sct (by rw [up_k (by decide), mu_r (by omega)]; exact ht) z2
  unfold rsS at hg2 ⊢
  split at hg2
  · rename_i q
    rw [up_k (by decide)] at hg2
    rw [if_pos q, up_k (by decide)]
    exact key hg2
  · rename_i q
    rw [up_k (by decide)] at hg2
    rw [if_neg q, up_k (by decide)]
    have n2 := (Nx.rf nA.sc.1 nA.sc.2.1).rn (lo := loK (stH F)) (hi := hiK (stH F))
    have a := n2.2.2.2.2.2 hg2
    have b := key a.1
    have c : rsA d F 136 15 ≤ rnS (loK (stH F)) (hiK (stH F)) (rsA d F) 136 15 := a.2
    omega
def dfK (k : Int) : Int := if k = 0 ∨ k = 4 then 1 else if k = 2 then 10 else 0
def inS (d : Int) : Nat → Hp → Hp
  | 0, F => F
  | k + 1, F => up (up (inS d k F) 149 (7 * d + k) 0) 148 (7 * d + k) (dfK k)
theorem inS_s {d i : Int} {F : Hp} (h : 0 ≤ i) : inS d (i + 1).toNat F = up (up (inS d i.toNat F) 149 (7 * d + i) 0) 148 (7 * d + i) (dfK i) := by
  obtain ⟨k, rfl⟩ : ∃ k : Nat, i = k := ⟨i.toNat, by omega⟩
  rfl
theorem Nx.inn {F G : Hp} (h : Nx F G) {d : Int} : ∀ k : Nat, Nx F (inS d k G)
  | 0 => h
  | k + 1 => ((Nx.inn h k).u9 (Or.inl rfl)).u (by omega)
def lpS (d : Int) : Nat → Hp → Hp
  | 0, F => F
  | k + 1, F => if F 136 19 = 0 ∧ ¬ stH F = -2 then lpS d k (rsS d F) else F
theorem Nx.lp {F : Hp} {d : Int} : ∀ (k : Nat) (G : Hp), Nx F G → Nx F (lpS d k G)
  | 0, G, h => h
  | k + 1, G, h => by
    unfold lpS
    split
    · exact Nx.lp k _ h.rs
    · exact h
theorem lpS_go {d : Int} {k : Nat} {F : Hp} (hk : 0 < k) (h : F 136 19 = 0 ∧ ¬ stH F = -2) : lpS d k F = lpS d (k - 1) (rsS d F) := by
  cases k with
  | zero => omega
  | succ k => exact if_pos h
theorem lpS_stop {d : Int} {k : Nat} {F : Hp} (h : ¬ (F 136 19 = 0 ∧ ¬ stH F = -2)) : lpS d k F = F := by
  cases k with
  | zero => rfl
  | succ k => exact if_neg h
def ndA (F : Hp) : Hp := sc (mu (F 136 22 < 12) 5 F)
def ndB (F : Hp) : Hp := mu (nmB (ndA F)) 1 (ndA F)
def ndC (F : Hp) : Hp := mu (hrS (ndB F) = -2) 3 (ndB F)
def ndD (F : Hp) : Hp := up (rpS (ndC F 136 22) (sc (ndC F))) 140 (ndC F 136 22) (ndC F 136 21)
def ndE (F : Hp) : Hp := lpS (ndC F 136 22) 901 (inS (ndC F 136 22) 7 (ndD F))
def ndG (F : Hp) : Hp := if ndE F 149 (7 * ndC F 136 22 + 1) = 0 then up (ndE F) 148 (7 * ndC F 136 22 + 1) (ndE F 148 (7 * ndC F 136 22)) else ndE F
def ndS (F : Hp) : Hp := if ndC F 136 19 = 0 then up (ndG F) 136 22 (ndG F 136 22 + 1) else ndC F
theorem PQ.u0 {F : Hp} (h : PQ F) {i x : Int} (hx : 0 ≤ x ∧ x < 1099511627776) : PQ (up F 140 i x) := by
  obtain ⟨h1, h2, h3, h4, h5, h6, h7, h8, h9, h10, h11⟩ := h
  unfold PQ TxQ
  rw [up_r (a := 146) (by decide), up_r (a := 149) (by decide)]
  rw [up_k (by decide), up_k (by decide), up_k (by decide), up_k (by decide), up_k (by decide), up_k (by decide), up_k (by decide), up_k (by decide), up_k (by decide), up_k (by decide)]
  refine ⟨h1, h2, h3, h4, h5, h6, h7, fun j z0 z1 => ?_, h9, h10, h11⟩
  by_cases q : j = i
  · rw [q, up_s]; exact hx
  · rw [up_i q]; exact h8 j z0 z1
theorem PQ.u22 {F : Hp} (h : PQ F) {x : Int} (hx : 0 ≤ x ∧ x ≤ 12) : PQ (up F 136 22 x) := by
  obtain ⟨h1, h2, h3, h4, h5, h6, h7, h8, h9, h10, h11⟩ := h
  unfold PQ TxQ
  rw [up_r (a := 146) (by decide), up_r (a := 149) (by decide), up_r (a := 140) (by decide), up_s]
  rw [up_i (by decide), up_i (by decide), up_i (by decide), up_i (by decide), up_i (by decide), up_i (by decide), up_i (by decide), up_i (by decide), up_i (by decide)]
  exact ⟨h1, h2, h3, h4, h5, hx, h7, h8, h9, h10, h11⟩
theorem Nx.ndC {F : Hp} (h : PQ F) (h2 : AtQ F) : Nx F (ndC F) := ((((Nx.rf h h2).mu (by omega)).sc).mu (by omega)).mu (by omega)
theorem Nx.ndD {F : Hp} (h : PQ F) (h2 : AtQ F) : Nx F (ndD F) := (((Nx.ndC h h2).sc).rp).of ((((Nx.ndC h h2).sc).rp).1.u0 (Nx.ndC h h2).1.2.2.2.2.1) (fun j z => up_k (by decide))
theorem Nx.ndE {F : Hp} (h : PQ F) (h2 : AtQ F) : Nx F (ndE F) := Nx.lp _ _ (Nx.inn (Nx.ndD h h2) 7)
theorem Nx.ndG {F : Hp} (h : PQ F) (h2 : AtQ F) : Nx F (ndG F) := by
  unfold Jvm.Pilot.CRateLimiterLaw_law_r9152_2bcaae.ndG
  split
  · exact (Nx.ndE h h2).u (by omega)
  · exact Nx.ndE h h2
theorem nd_22 {F : Hp} (h : ndC F 136 19 = 0) : F 136 22 < 12 := by
  have a := (mu_t (by decide) h).1
  have b := (mu_t (by decide) a).1
  unfold ndA at b
  rw [sc_r (by omega)] at b
  exact (mu_t (by decide) b).2.1

