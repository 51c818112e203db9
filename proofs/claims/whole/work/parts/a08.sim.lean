/-- what the reference's reader leaves alone -/
def Kp (F G : Hp) : Prop := (∀ a i : Int, ¬ (a = 136 ∧ (i = 0 ∨ (15 ≤ i ∧ i ≤ 26) ∨ i = 39)) → ¬ (a = 140 ∨ (147 ≤ a ∧ a ≤ 149) ∨ (154 ≤ a ∧ a ≤ 157)) → G a i = F a i) ∧ (G 136 19 = 0 → G 136 20 = -2)
theorem Kp.sc {F G : Hp} (h : Kp F G) : Kp F (Jvm.Pilot.CRateLimiterLaw_law_r9152_2bcaae.sc G) := ⟨fun a i z1 z2 => by rw [sc_r (by omega)]; exact h.1 a i z1 z2, fun z => by
  rw [sc_r (by omega)] at z
  rw [sc_r (by omega)]
  exact h.2 z⟩
theorem Kp.mu {F G : Hp} (h : Kp F G) {g : Prop} [Decidable g] {c : Int} (hc : ¬ c = 0) : Kp F (Jvm.Pilot.CRateLimiterLaw_law_r9152_2bcaae.mu g c G) := ⟨fun a i z1 z2 => by rw [mu_r (by omega)]; exact h.1 a i z1 z2, fun z => by
  have t := mu_t hc z
  rw [t.2.2]
  exact h.2 t.1⟩
theorem Kp.u {F G : Hp} (h : Kp F G) {a i x : Int} (ha : (a = 136 ∧ (i = 0 ∨ (21 ≤ i ∧ i ≤ 26) ∨ i = 39)) ∨ a = 140 ∨ (147 ≤ a ∧ a ≤ 149) ∨ (154 ≤ a ∧ a ≤ 157)) : Kp F (up G a i x) := ⟨fun b j z1 z2 => by rw [up_n (by omega)]; exact h.1 b j z1 z2, fun z => by
  rw [up_n (by omega)] at z
  rw [up_n (by omega)]
  exact h.2 z⟩
theorem Kp.rn {F G : Hp} (h : Kp F G) {lo hi : Int} : Kp F (rnS lo hi G) := ((h.mu (by decide)).mu (by decide)).sc
theorem Kp.rp {F G : Hp} (h : Kp F G) {d : Int} : Kp F (rpS d G) := by
  have a : Kp F (rpA d G) := ((h.u (by omega)).mu (by decide)).sc
  have b : Kp F (rpB d G) := a.mu (by decide)
  unfold rpS
  split
  · exact h.u (by omega)
  · exact ((b.mu (by decide)).u (by omega)).sc
theorem Kp.rs {F G : Hp} (h : Kp F G) {d : Int} : Kp F (rsS d G) := by
  have a : Kp F (rsA d G) := ((h.mu (by decide)).u (by omega)).sc
  unfold rsS
  split
  · exact a.u (by omega)
  · exact a.rn.u (by omega)
theorem Kp.inn {F G : Hp} (h : Kp F G) {d : Int} : ∀ k : Nat, Kp F (inS d k G)
  | 0 => h
  | k + 1 => ((Kp.inn h k).u (by omega)).u (by omega)
theorem Kp.lp {F : Hp} {d : Int} : ∀ (k : Nat) (G : Hp), Kp F G → Kp F (lpS d k G)
  | 0, G, h => h
  | k + 1, G, h => by
    unfold lpS
    split
    · exact Kp.lp k _ h.rs
    · exact h
theorem Kp.nd {F G : Hp} (h : Kp F G) : Kp F (ndS G) := by
  have a : Kp F (ndA G) := (h.mu (by decide)).sc
  have b : Kp F (ndB G) := a.mu (by decide)
  have c : Kp F (ndC G) := b.mu (by decide)
  have d : Kp F (ndD G) := (c.sc.rp).u (by omega)
  have e : Kp F (ndE G) := Kp.lp _ _ (d.inn 7)
  have g : Kp F (ndG G) := by
    unfold ndG
    split
    · exact e.u (by omega)
    · exact e
  unfold ndS
  split
  · exact g.u (by omega)
  · exact c
theorem Kp.tm {F G : Hp} (h : Kp F G) : Kp F (tmS G) := by
  have a : Kp F (tmA G) := (h.mu (by decide)).sc
  have b : Kp F (tmB G) := a.rn
  have c : Kp F (tmC G) := b.mu (by decide)
  have d : Kp F (tmD G) := (c.mu (by decide)).sc
  have e : Kp F (tmE G) := (d.mu (by decide)).sc
  have g : Kp F (tmG G) := e.rn
  unfold tmS tmP
  split
  · exact ((((g.u (by omega)).u (by omega)).u (by omega)).u (by omega)).u (by omega)
  · exact g
theorem Kp.stm {F G : Hp} (h : Kp F G) : Kp F (stmS G) := by
  have l : Kp F (lmA G) := ((h.mu (by decide)).u (by omega)).sc
  have a : Kp F (agA G) := ((h.mu (by decide)).u (by omega)).sc
  have b : Kp F (bdS G) := by
    unfold bdS
    split
    · exact h.nd
    · split
      · exact l.rn.u (by omega)
      · split
        · exact a.rn.u (by omega)
        · exact Kp.tm (h.mu (by decide))
  exact (b.mu (by decide)).sc
theorem Kp.rl {F : Hp} : ∀ (k : Nat) (G : Hp), Kp F G → Kp F (rlS k G)
  | 0, G, h => h
  | k + 1, G, h => by
    unfold rlS
    split
    · exact Kp.rl k _ h.stm
    · exact h
theorem kp_ld {F : Hp} : Kp F (ldS1 F) := by
  have a : Kp F (ld0 F) := by
    unfold ld0 Kp
    refine ⟨fun a i z1 z2 => ?_, fun _ => ?_⟩
    · rw [up_n (by omega), up_n (by omega), up_n (by omega), up_n (by omega), up_n (by omega), up_n (by omega), up_n (by omega), up_n (by omega), up_n (by omega), up_n (by omega)]
    · simp (disch := omega) only [up_i, up_s]
  exact Kp.rl _ _ a.sc

