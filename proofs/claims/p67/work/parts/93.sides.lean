theorem mm1 {x r b : Int} : x + r - max 0 (x + r - b) = min b (x + r) := by omega
theorem mm2 {x y r b c : Int} : min c (y + max 0 (x + r - b)) = min c (y + (x + r) - min b (x + r)) := by omega
theorem drp_none {b u n : Int} {Y : Hp} (h : ∀ i : Int, 0 ≤ i → i < n → Y (b + 9) i = 0) : ∀ k : Nat, (k : Int) ≤ n → drpS b u k Y = Y
  | 0, _ => rfl
  | k + 1, hk => by
    unfold drpS
    rw [drp_none h k (by omega)]
    unfold drp1
    rw [if_neg]
    unfold oldF
    rw [h k (by omega) (by omega)]
    simp
theorem dsp_none {b u : Int} {Y : Hp} (h : chlS b u Y = -2) : ∀ k : Nat, dspS b u k Y = (0, Y)
  | 0 => rfl
  | k + 1 => if_pos h
theorem chl_none {b u n : Int} {Y : Hp} (hn : Y u 0 = n) (h : ∀ i : Int, 0 ≤ i → i < n → Y (b + 9) i = 0) : chlS b u Y = -2 := by
  unfold chlS
  rw [choS_none]
  intro i h0 h1
  unfold dstS
  exact if_pos (h i h0 (by omega))
/-- the changes of a tick, on the limiter's side -/
def chC (t : Int) (F : Hp) : Hp := if F t 20 + 1 = F t 22 then up (up F 40 1 (F 40 1 + 1)) 41 (F t 23) (F t 24) else up F 40 1 (F 40 1 + 1)
theorem chC_r {t a : Int} {F : Hp} (h : a ≠ 40 ∧ a ≠ 41) : chC t F a = F a := by
  unfold chC
  split
  · rw [up_r h.2, up_r h.1]
  · rw [up_r h.1]
theorem Rl.tik {u v K t : Int} {F : Hp} (hp : 136 ≤ t) (hR : Rl u v K F t) (hV : TrV F t) : tksS 40 u 1 F = (0, refS 40 u (F t 0).toNat (chC t F)) := by
  have hs := hR.1
  unfold SS at hs
  obtain ⟨h1, h2, h3, ⟨e0, h4, e13, e14, ez, ep⟩, ⟨et, h5⟩⟩ := hR
  have htm := hV.tm
  have hn := hV.n
  have ec : chgS 40 u (F (u + 12) 0).toNat (up F 40 1 (F 40 1 + 1)) = chC t F := by
    unfold chC
    by_cases c : F t 22 ≤ 0
    · rw [ez c, if_neg (by omega)]
      rfl
    · obtain ⟨p1, p2, p3, p4, p5⟩ := ep (by omega)
      rw [p1]
      show chS1 40 u ((0 : Nat) : Int) (chgS 40 u 0 (up F 40 1 (F 40 1 + 1))) = _
      show chS1 40 u 0 (up F 40 1 (F 40 1 + 1)) = _
      unfold chS1
      have q13 : up F 40 1 (F 40 1 + 1) (u + 13) = F (u + 13) := up_r (by omega)
      have q14 : up F 40 1 (F 40 1 + 1) (u + 14) = F (u + 14) := up_r (by omega)
      have q15 : up F 40 1 (F 40 1 + 1) (u + 15) = F (u + 15) := up_r (by omega)
      have q16 : up F 40 1 (F 40 1 + 1) (u + 16) = F (u + 16) := up_r (by omega)
      rw [q13, q14, q15, q16, up_s, p2, p3, p4, p5, et]
      by_cases d : F t 20 + 1 = F t 22
      · rw [if_pos d.symm, if_pos d]
        rfl
      · rw [if_neg (fun z => d z.symm), if_neg d]
  have e1 : tikP 40 u F = refS 40 u (F t 0).toNat (chC t F) := by
    unfold tikP
    rw [ec, e0]
    unfold drpA
    split
    · rfl
    · rw [refS_r (a := u) (by omega), chC_r (by omega), e0]
      exact drp_none (n := F t 0) (fun i q0 q1 => by rw [refS_r (by omega), chC_r (by omega)]; exact (h5 i q0 q1).2.2.2.2.2.2.1) _ (by omega)
  have e2 : tikS 40 u F = (0, refS 40 u (F t 0).toNat (chC t F)) := by
    unfold tikS
    rw [e1]
    exact dsp_none (chl_none (n := F t 0) (by rw [refS_r (by omega), chC_r (by omega)]; exact e0) (fun i q0 q1 => by rw [refS_r (by omega), chC_r (by omega)]; exact (h5 i q0 q1).2.2.2.2.2.2.1)) _
  show ((0 : Int) + (tikS 40 u F).1, (tikS 40 u F).2) = _
  rw [e2]
  rfl
/-- both sides tick -/
theorem Rl.tick {u v K t : Int} {F : Hp} (hp : 136 ≤ t) (hR : Rl u v K F t) (hV : TrV F t) (ht : F t 20 < 1000) : (tksS 40 u 1 F).1 = 0 ∧ Rl u v K (tkT t (tksS 40 u 1 F).2) t ∧ ∀ a : Int, (a < 40 ∨ 64 ≤ a) → (tksS 40 u 1 F).2 a = F a := by
  have etk := hR.tik hp hV
  have hs := hR.1
  have hd := hs.d40
  unfold SS at hs
  have htm := hV.tm
  have hn := hV.n
  have hSt := StA.tks hd (by decide) hR.2.1.2.2.1 1 (by have := hR.2.2.2.2.1; omega)
  rw [etk] at hSt ⊢
  obtain ⟨hSt, -⟩ := hSt
  refine ⟨rfl, ?_, fun a h => by show refS 40 u (F t 0).toNat (chC t F) a = F a; rw [refS_r (by omega), chC_r (by omega)]⟩
  show Rl u v K (tkT t (refS 40 u (F t 0).toNat (chC t F))) t
  replace hSt : StA 40 u K (refS 40 u (F t 0).toNat (chC t F)) := hSt
  have xr : ∀ a : Int, (a < 40 ∨ 64 ≤ a) → refS 40 u (F t 0).toNat (chC t F) a = F a := fun a h => by rw [refS_r (by omega), chC_r (by omega)]
  have xc : ∀ a : Int, a ≠ 45 → a ≠ 46 → a ≠ 47 → refS 40 u (F t 0).toNat (chC t F) a = chC t F a := fun a h h2 h3 => refS_r (by omega) _ _
  have xv := fun i : Int => (ref_v (b := 40) (u := u) (F := chC t F) hd (F t 0).toNat i).1
  generalize hX : refS 40 u (F t 0).toNat (chC t F) = X at *
  have tr : ∀ a : Int, a < t → tkT t X a = X a := fun a h => by
    unfold tkT chT
    rw [rfP_kr (by omega) (by omega) (by omega)]
    split
    · rw [up_r (by omega), up_r (by omega)]
    · rw [up_r (by omega)]
  have tt : ∀ a : Int, t < a → a ≠ t + 2 → a ≠ t + 9 → a ≠ t + 10 → a ≠ t + 11 → tkT t X a = F a := fun a h h2 h3 h4 h5 => by
    unfold tkT chT
    rw [rfP_kr (by omega) (by omega) (by omega)]
    split
    · rw [up_r (by omega), up_r (by omega), xr a (by omega)]
    · rw [up_r (by omega), xr a (by omega)]
  have t0 : ∀ i : Int, tkT t X t i = if i = 20 then F t 20 + 1 else F t i := fun i => by
    unfold tkT chT
    rw [rfP_k (by omega) (by omega) (by omega)]
    have e : up X t 20 (X t 20 + 1) t i = if i = 20 then F t 20 + 1 else F t i := by
      by_cases c : i = 20
      · subst c
        rw [up_s, if_pos rfl, xr t (by omega)]
      · rw [up_i c, if_neg c, xr t (by omega)]
    split
    · rw [up_k (by omega)]; exact e
    · exact e
  obtain ⟨h1, h2, h3, h4, h5⟩ := hR
  obtain ⟨c1, c2, c3, c4, c5, c6, c7, c8, c9, c10⟩ := h2
  have g2 : ∀ a : Int, (a < 40 ∨ (64 ≤ a ∧ a < t)) → tkT t X a = F a := fun a h => by rw [tr a (by omega), xr a (by omega)]
  have sta : ∀ b : Int, (b = 88 ∨ b = 112) → StA b u K F → StA b u K (tkT t X) := fun b hb z => by
    have e : ∀ a : Int, b ≤ a → a < b + 24 → tkT t X a = F a := fun a q1 q2 => g2 a (by omega)
    have eu : ∀ a : Int, u ≤ a → a < u + 17 → tkT t X a = F a := fun a q1 q2 => g2 a (by omega)
    exact ⟨z.1.fr eu, z.2.1.fr eu (fun a h => e a (by omega) (by omega)), z.2.2.1.fr eu (fun a h => e a (by omega) (by omega)), z.2.2.2.1.fr (fun a h => e a (by omega) (by omega)), z.2.2.2.2.fr eu (fun a h => e a (by omega) (by omega))⟩
  refine ⟨h1, ⟨?_, ?_, ?_, c4, ?_, ?_, ?_, ?_, ?_, ?_⟩, ?_, ?_, ?_, fun i q0 q1 => ?_⟩
  · rw [g2 0 (by omega)]; exact c1
  · rw [g2 3 (by omega)]; exact c2
  · obtain ⟨s1, s2, s3, s4, s5⟩ := hSt
    have eu : ∀ a : Int, u ≤ a → a < u + 17 → tkT t X a = X a := fun a q1 q2 => tr a (by omega)
    exact ⟨s1.fr eu, s2.fr eu (fun a h => tr a (by omega)), s3.fr eu (fun a h => tr a (by omega)), s4.fr (fun a h => tr a (by omega)), s5.fr eu (fun a h => tr a (by omega))⟩
  · rw [g2 1 (by omega)]; exact c5
  · rw [g2 1 (by omega), g2 2 (by omega)]; exact c6
  · rw [g2 88 (by omega)]; exact c7
  · rw [g2 112 (by omega)]; exact c8
  · rw [g2 88 (by omega)]; exact fun z => sta 88 (by omega) (c9 z)
  · rw [g2 112 (by omega)]; exact fun z => sta 112 (by omega) (c10 z)
  · rw [g2 1 (by omega)]; exact h3
  · have e0 := t0 0
    have e1 := t0 1
    have e2 := t0 2
    have e22 := t0 22
    have e23 := t0 23
    have e24 := t0 24
    rw [if_neg (by omega)] at e0 e1 e2 e22 e23 e24
    unfold RLs at h4 ⊢
    rw [g2 u (by omega), g2 (u + 1) (by omega), g2 (u + 2) (by omega), g2 (u + 3) (by omega), g2 (u + 7) (by omega), g2 (u + 8) (by omega), g2 (u + 10) (by omega), g2 (u + 11) (by omega), g2 (u + 12) (by omega), g2 (u + 13) (by omega), g2 (u + 14) (by omega), g2 (u + 15) (by omega), g2 (u + 16) (by omega), e0, e1, e2, e22, e23, e24, tt (t + 1) (by omega) (by omega) (by omega) (by omega) (by omega), tt (t + 4) (by omega) (by omega) (by omega) (by omega) (by omega), tt (t + 5) (by omega) (by omega) (by omega) (by omega) (by omega), tt (t + 7) (by omega) (by omega) (by omega) (by omega) (by omega), tt (t + 8) (by omega) (by omega) (by omega) (by omega) (by omega)]
    exact h4
  · rw [t0 20, if_pos rfl, tr 40 (by omega), xc 40 (by omega) (by omega) (by omega)]
    have := h5.1
    unfold chC
    split
    · rw [up_k (by omega), up_s]; omega
    · rw [up_s]; omega
  · rw [t0 0, if_neg (by omega)] at q1
    have a := h5.2 i q0 q1
    have hk := h4.2.1 i q0 q1
    obtain ⟨v5, v6, v7⟩ := xv i q0 (by omega)
    have eX0 : X t 0 = F t 0 := by rw [xr t (by omega)]
    have er : tkT t X (t + 2) i = chC t F (40 + 1) i := by
      unfold tkT chT chC
      rw [rfP_k (by omega) (by omega) (by omega), up_s, up_i (show (22 : Int) ≠ 20 by omega), up_i (show (23 : Int) ≠ 20 by omega), up_i (show (24 : Int) ≠ 20 by omega), xr t (by omega)]
      by_cases d : F t 20 + 1 = F t 22
      · rw [if_pos d, if_pos d]
        by_cases z : i = F t 23
        · rw [z, up_s]
          exact up_s.symm
        · rw [up_i z, up_k (by omega), xr (t + 2) (by omega)]
          show _ = up (up F 40 1 (F 40 1 + 1)) 41 (F t 23) (F t 24) 41 i
          rw [up_i z, up_k (by omega)]
          exact a.1.symm
      · rw [if_neg d, if_neg d, up_k (by omega), xr (t + 2) (by omega), up_k (by omega)]
        exact a.1.symm
    have cT : ∀ b : Int, t < b → b ≠ t + 2 → chT t (up X t 20 (X t 20 + 1)) b = F b := fun b z1 z2 => by
      unfold chT
      split
      · rw [up_r (by omega), up_r (by omega), xr b (by omega)]
      · rw [up_r (by omega), xr b (by omega)]
    have c2 : chT t (up X t 20 (X t 20 + 1)) (t + 2) i = chC t F (40 + 1) i := by
      rw [← er]
      unfold tkT
      rw [rfP_k (by omega) (by omega) (by omega)]
    have e9 : tkT t X (t + 9) i = min (F (t + 4) i) (F (t + 9) i + chC t F (40 + 1) i) := by
      unfold tkT
      rw [rfP_9 ⟨q0, by omega⟩, c2, cT (t + 4) (by omega) (by omega), cT (t + 9) (by omega) (by omega)]
    have e10 : tkT t X (t + 10) i = min (F (t + 5) i) (F (t + 10) i + (F (t + 9) i + chC t F (40 + 1) i) - min (F (t + 4) i) (F (t + 9) i + chC t F (40 + 1) i)) := by
      unfold tkT
      rw [rfP_10 ⟨q0, by omega⟩, c2, cT (t + 4) (by omega) (by omega), cT (t + 9) (by omega) (by omega), cT (t + 5) (by omega) (by omega), cT (t + 10) (by omega) (by omega)]
    have e11 : tkT t X (t + 11) i = min (F (t + 4) i) (F (t + 11) i + F (t + 3) i) := by
      unfold tkT
      rw [rfP_11 ⟨q0, by omega⟩, cT (t + 4) (by omega) (by omega), cT (t + 3) (by omega) (by omega), cT (t + 11) (by omega) (by omega)]
    have cC : ∀ b : Int, b ≠ 40 → b ≠ 41 → chC t F b = F b := fun b z1 z2 => chC_r ⟨z1, z2⟩
    rw [cC (40 + 5) (by omega) (by omega), cC (u + 7) (by omega) (by omega)] at v5
    rw [cC (40 + 5) (by omega) (by omega), cC (40 + 6) (by omega) (by omega), cC (u + 7) (by omega) (by omega), cC (u + 8) (by omega) (by omega)] at v6
    rw [cC (40 + 7) (by omega) (by omega), cC (40 + 2) (by omega) (by omega), cC (u + 7) (by omega) (by omega)] at v7
    rw [tr (40 + 1) (by omega), tr (40 + 2) (by omega), tr (40 + 3) (by omega), tr (40 + 5) (by omega), tr (40 + 6) (by omega), tr (40 + 7) (by omega), tr (40 + 9) (by omega), tr (40 + 14) (by omega), tr (40 + 15) (by omega), tr (40 + 16) (by omega), tr (40 + 17) (by omega), tr (40 + 18) (by omega), xc (40 + 1) (by omega) (by omega) (by omega), xc (40 + 2) (by omega) (by omega) (by omega), xc (40 + 3) (by omega) (by omega) (by omega), xc (40 + 9) (by omega) (by omega) (by omega), xc (40 + 14) (by omega) (by omega) (by omega), xc (40 + 15) (by omega) (by omega) (by omega), xc (40 + 16) (by omega) (by omega) (by omega), xc (40 + 17) (by omega) (by omega) (by omega), xc (40 + 18) (by omega) (by omega) (by omega), cC (40 + 2) (by omega) (by omega), cC (40 + 3) (by omega) (by omega), cC (40 + 9) (by omega) (by omega), cC (40 + 14) (by omega) (by omega), cC (40 + 15) (by omega) (by omega), cC (40 + 16) (by omega) (by omega), cC (40 + 17) (by omega) (by omega), cC (40 + 18) (by omega) (by omega)]
    rw [er, e9, e10, e11, v5, v6, v7, tt (t + 3) (by omega) (by omega) (by omega) (by omega) (by omega), tt (t + 6) (by omega) (by omega) (by omega) (by omega) (by omega), tt (t + 12) (by omega) (by omega) (by omega) (by omega) (by omega), tt (t + 13) (by omega) (by omega) (by omega) (by omega) (by omega), tt (t + 14) (by omega) (by omega) (by omega) (by omega) (by omega), tt (t + 15) (by omega) (by omega) (by omega) (by omega) (by omega), tt (t + 16) (by omega) (by omega) (by omega) (by omega) (by omega)]
    refine ⟨rfl, a.2.1, a.2.2.1, ?_, ?_, ?_, a.2.2.2.2.2.2.1, a.2.2.2.2.2.2.2.1, a.2.2.2.2.2.2.2.2.1, a.2.2.2.2.2.2.2.2.2.1, a.2.2.2.2.2.2.2.2.2.2.1, a.2.2.2.2.2.2.2.2.2.2.2⟩
    · rw [a.2.2.2.1, hk.2.2.2.1]; exact mm1
    · rw [a.2.2.2.1, a.2.2.2.2.1, hk.2.2.2.1, hk.2.2.2.2.1]; exact mm2
    · rw [a.2.2.2.2.2.1, a.2.1, hk.2.2.2.1]

