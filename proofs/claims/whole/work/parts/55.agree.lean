theorem Ag.pay {b c u w l f k : Int} {F G : Hp} (hd : dj b u) (hd2 : dj c w) (hU : AgU u F w G) (hS : AgS b u F c G) (hT : Tr (F u 0) (F (u + 2))) (hl : l < F u 0) (hf : 0 ≤ f ∧ f < F u 0) : AgS b u (payS b u l f k F) c (payS c w l f k G) := by
  have hon : ∀ i, onP (F (u + 2)) 13 l i = onP (G (w + 2)) 13 l i := fun i => onP_cong hT hU.par 13 l i hl
  obtain ⟨e1, e2, e3, e4, e5, e6, e7⟩ := hS
  unfold AgS
  rw [payS_r (a := u) (by omega), payS_r (a := b) (by omega), payS_r (a := c) (by omega), payS_r (a := b + 1) (by omega), payS_r (a := c + 1) (by omega), payS_r (a := b + 2) (by omega), payS_r (a := c + 2) (by omega), payS_r (a := b + 3) (by omega), payS_r (a := c + 3) (by omega), payS_r (a := b + 8) (by omega), payS_r (a := c + 8) (by omega), payS_r (a := b + 9) (by omega), payS_r (a := c + 9) (by omega), payS_r (a := b + 10) (by omega), payS_r (a := c + 10) (by omega), payS_r (a := b + 11) (by omega), payS_r (a := c + 11) (by omega), payS_r (a := b + 12) (by omega), payS_r (a := c + 12) (by omega), payS_r (a := b + 14) (by omega), payS_r (a := c + 14) (by omega), payS_r (a := b + 15) (by omega), payS_r (a := c + 15) (by omega), payS_r (a := b + 16) (by omega), payS_r (a := c + 16) (by omega), payS_r (a := b + 17) (by omega), payS_r (a := c + 17) (by omega), payS_r (a := b + 18) (by omega), payS_r (a := c + 18) (by omega), payS_r (a := b + 19) (by omega), payS_r (a := c + 19) (by omega), payS_r (a := b + 20) (by omega), payS_r (a := c + 20) (by omega), payS_r (a := b + 21) (by omega), payS_r (a := c + 21) (by omega), payS_r (a := b + 22) (by omega), payS_r (a := c + 22) (by omega), payS_r (a := b + 23) (by omega), payS_r (a := c + 23) (by omega)]
  refine ⟨e1, e2, e3, fun n h0 h1 => ?_, fun n h0 h1 => ?_, fun n h0 h1 k k0 k1 => ?_, fun k k0 k1 => ?_⟩
  · obtain ⟨q1, q2, q3, q5, q6, q7, q9⟩ := e4 n h0 h1
    have lf := (e4 f hf.1 hf.2).2.2.2.1
    rw [payS_5, payS_5, payS_6, payS_6, payS_7, payS_7, ← hon, ← q5, ← q6, ← q7, ← lf]
    exact ⟨q1, q2, q3, rfl, rfl, rfl, q9⟩
  · exact e5 n h0 h1
  · exact e6 n h0 h1 k k0 k1
  · exact e7 k k0 k1
theorem cntS_15 {b leaf l c n : Int} {F : Hp} : cntS b leaf l c F (b + 15) n = if n = leaf then F (b + 15) n + 1 else F (b + 15) n := by
  unfold cntS
  by_cases q : n = leaf
  · subst q
    split <;> simp (disch := omega) only [up_k, up_s, if_true]
  · split <;> simp (disch := omega) only [up_k, up_i, if_neg q]
theorem cntS_16 {b leaf l c n : Int} {F : Hp} : cntS b leaf l c F (b + 16) n = if ¬ l = leaf ∧ n = leaf then F (b + 16) n + c else F (b + 16) n := by
  unfold cntS
  by_cases z : l = leaf
  · rw [if_pos z, if_neg (fun y => y.1 z)]
    simp (disch := omega) only [up_k]
  · rw [if_neg z]
    by_cases q : n = leaf
    · subst q
      rw [if_pos ⟨z, rfl⟩]
      simp (disch := omega) only [up_k, up_s]
    · rw [if_neg (fun y => q y.2)]
      simp (disch := omega) only [up_k, up_i]
theorem cntS_17 {b leaf l c n : Int} {F : Hp} : cntS b leaf l c F (b + 17) n = if ¬ l = leaf ∧ n = l then F (b + 17) n + c else F (b + 17) n := by
  unfold cntS
  by_cases z : l = leaf
  · rw [if_pos z, if_neg (fun y => y.1 z)]
    simp (disch := omega) only [up_k]
  · rw [if_neg z]
    by_cases q : n = l
    · subst q
      rw [if_pos ⟨z, rfl⟩]
      simp (disch := omega) only [up_k, up_s]
    · rw [if_neg (fun y => q y.2)]
      simp (disch := omega) only [up_k, up_i]
theorem Ag.cnt {b c u l f k : Int} {F G : Hp} (hd : dj b u) (hS : AgS b u F c G) : AgS b u (cntS b l f k F) c (cntS c l f k G) := by
  obtain ⟨e1, e2, e3, e4, e5, e6, e7⟩ := hS
  unfold AgS
  rw [cntS_r (a := u) (by omega), cntS_r (a := b) (by omega), cntS_r (a := c) (by omega), cntS_r (a := b + 1) (by omega), cntS_r (a := c + 1) (by omega), cntS_r (a := b + 2) (by omega), cntS_r (a := c + 2) (by omega), cntS_r (a := b + 3) (by omega), cntS_r (a := c + 3) (by omega), cntS_r (a := b + 5) (by omega), cntS_r (a := c + 5) (by omega), cntS_r (a := b + 6) (by omega), cntS_r (a := c + 6) (by omega), cntS_r (a := b + 7) (by omega), cntS_r (a := c + 7) (by omega), cntS_r (a := b + 8) (by omega), cntS_r (a := c + 8) (by omega), cntS_r (a := b + 9) (by omega), cntS_r (a := c + 9) (by omega), cntS_r (a := b + 10) (by omega), cntS_r (a := c + 10) (by omega), cntS_r (a := b + 11) (by omega), cntS_r (a := c + 11) (by omega), cntS_r (a := b + 12) (by omega), cntS_r (a := c + 12) (by omega), cntS_r (a := b + 18) (by omega), cntS_r (a := c + 18) (by omega), cntS_r (a := b + 19) (by omega), cntS_r (a := c + 19) (by omega), cntS_r (a := b + 20) (by omega), cntS_r (a := c + 20) (by omega), cntS_r (a := b + 21) (by omega), cntS_r (a := c + 21) (by omega), cntS_r (a := b + 22) (by omega), cntS_r (a := c + 22) (by omega), cntS_r (a := b + 23) (by omega), cntS_r (a := c + 23) (by omega)]
  refine ⟨e1, e2, e3, e4, fun n h0 h1 => ?_, e6, e7⟩
  obtain ⟨q1, q2, q3, q4, q5⟩ := e5 n h0 h1
  rw [cntS_14, cntS_14, cntS_15, cntS_15, cntS_16, cntS_16, cntS_17, cntS_17, ← q1, ← q2, ← q3, ← q4]
  exact ⟨rfl, rfl, rfl, rfl, q5⟩
theorem Ag.lg {b c u l f k t : Int} {F G : Hp} (hd : dj b u) (hS : AgS b u F c G) (hL : 0 ≤ F (b + 19) 0 ∧ F (b + 19) 0 ≤ 24) : AgS b u (lgS b l k f t F) c (lgS c l k f t G) := by
  obtain ⟨e1, e2, e3, e4, e5, e6, e7⟩ := hS
  unfold AgS
  rw [lgS_r (a := u) (by omega), lgS_r (a := b) (by omega), lgS_r (a := c) (by omega), lgS_r (a := b + 1) (by omega), lgS_r (a := c + 1) (by omega), lgS_r (a := b + 2) (by omega), lgS_r (a := c + 2) (by omega), lgS_r (a := b + 3) (by omega), lgS_r (a := c + 3) (by omega), lgS_r (a := b + 5) (by omega), lgS_r (a := c + 5) (by omega), lgS_r (a := b + 6) (by omega), lgS_r (a := c + 6) (by omega), lgS_r (a := b + 7) (by omega), lgS_r (a := c + 7) (by omega), lgS_r (a := b + 8) (by omega), lgS_r (a := c + 8) (by omega), lgS_r (a := b + 9) (by omega), lgS_r (a := c + 9) (by omega), lgS_r (a := b + 10) (by omega), lgS_r (a := c + 10) (by omega), lgS_r (a := b + 11) (by omega), lgS_r (a := c + 11) (by omega), lgS_r (a := b + 12) (by omega), lgS_r (a := c + 12) (by omega), lgS_r (a := b + 14) (by omega), lgS_r (a := c + 14) (by omega), lgS_r (a := b + 15) (by omega), lgS_r (a := c + 15) (by omega), lgS_r (a := b + 16) (by omega), lgS_r (a := c + 16) (by omega), lgS_r (a := b + 17) (by omega), lgS_r (a := c + 17) (by omega), lgS_r (a := b + 18) (by omega), lgS_r (a := c + 18) (by omega), lgS_19, lgS_19, ← e3]
  refine ⟨e1, e2, rfl, e4, e5, e6, fun j j0 j1 => ?_⟩
  obtain ⟨a1, a2, a3, a4⟩ := lgS_k (b := b) (lf := l) (co := k) (le := f) (ti := t) (F := F) (k := j) ⟨j0, by omega⟩
  obtain ⟨b1, b2, b3, b4⟩ := lgS_k (b := c) (lf := l) (co := k) (le := f) (ti := t) (F := G) (k := j) ⟨j0, by omega⟩
  rw [a1, a2, a3, a4, b1, b2, b3, b4]
  by_cases q : j = 0
  · simp only [if_pos q, and_self]
  · obtain ⟨q1, q2, q3, q4⟩ := e7 (j - 1) (by omega) (by omega)
    simp only [if_neg q]
    exact ⟨q1, q2, q3, q4⟩
theorem Ag.snd {b c u w l f k : Int} {F G : Hp} (hd : dj b u) (hd2 : dj c w) (hU : AgU u F w G) (hS : AgS b u F c G) (hT : Tr (F u 0) (F (u + 2))) (hL : 0 ≤ F (b + 19) 0 ∧ F (b + 19) 0 ≤ 24) (hl : l < F u 0) (hf : 0 ≤ f ∧ f < F u 0) : AgS b u (sndS b u l f k F) c (sndS c w l f k G) := by
  unfold sndS
  rw [← hS.1]
  exact Ag.lg hd (Ag.cnt hd (Ag.pay hd hd2 hU hS hT hl hf)) (by rw [cntS_r (by omega), payS_r (by omega)]; exact hL)
theorem Ag.rm {b c u l : Int} {F G : Hp} (hd : dj b u) (hS : AgS b u F c G) (hq : ∀ n : Int, 0 ≤ n → n < F u 0 → 0 ≤ F (b + 9) n ∧ F (b + 9) n ≤ 16) : AgS b u (rmS b l F) c (rmS c l G) := by
  obtain ⟨e1, e2, e3, e4, e5, e6, e7⟩ := hS
  unfold AgS
  rw [rmS_r (a := u) (by omega), rmS_r (a := b) (by omega), rmS_r (a := c) (by omega), rmS_r (a := b + 1) (by omega), rmS_r (a := c + 1) (by omega), rmS_r (a := b + 2) (by omega), rmS_r (a := c + 2) (by omega), rmS_r (a := b + 3) (by omega), rmS_r (a := c + 3) (by omega), rmS_r (a := b + 5) (by omega), rmS_r (a := c + 5) (by omega), rmS_r (a := b + 6) (by omega), rmS_r (a := c + 6) (by omega), rmS_r (a := b + 7) (by omega), rmS_r (a := c + 7) (by omega), rmS_r (a := b + 8) (by omega), rmS_r (a := c + 8) (by omega), rmS_r (a := b + 14) (by omega), rmS_r (a := c + 14) (by omega), rmS_r (a := b + 15) (by omega), rmS_r (a := c + 15) (by omega), rmS_r (a := b + 16) (by omega), rmS_r (a := c + 16) (by omega), rmS_r (a := b + 17) (by omega), rmS_r (a := c + 17) (by omega), rmS_r (a := b + 18) (by omega), rmS_r (a := c + 18) (by omega), rmS_r (a := b + 19) (by omega), rmS_r (a := c + 19) (by omega), rmS_r (a := b + 20) (by omega), rmS_r (a := c + 20) (by omega), rmS_r (a := b + 21) (by omega), rmS_r (a := c + 21) (by omega), rmS_r (a := b + 22) (by omega), rmS_r (a := c + 22) (by omega), rmS_r (a := b + 23) (by omega), rmS_r (a := c + 23) (by omega)]
  have h8 : rmS b l F (b + 8) 4 = F (b + 8) 4 := by rw [rmS_r (by omega)]
  refine ⟨e1, e2, e3, fun n h0 h1 => ?_, e5, fun n h0 h1 k k0 k1 => ?_, e7⟩
  · obtain ⟨q1, q2, q3, q5, q6, q7, q9⟩ := e4 n h0 h1
    rw [rmS_9, rmS_9, ← q9]
    exact ⟨q1, q2, q3, q5, q6, q7, rfl⟩
  · have hb := hq n h0 h1
    rw [rmS_9] at k1
    have k16 : k < 16 := by split at k1 <;> omega
    rw [rmS_c (c := 10) (by omega) ⟨k0, k16⟩, rmS_c (c := 11) (by omega) ⟨k0, k16⟩, rmS_c (c := 12) (by omega) ⟨k0, k16⟩, rmS_c (b := c) (c := 10) (by omega) ⟨k0, k16⟩, rmS_c (b := c) (c := 11) (by omega) ⟨k0, k16⟩, rmS_c (b := c) (c := 12) (by omega) ⟨k0, k16⟩]
    by_cases q : n = l ∧ k < 15
    · rw [if_pos q.1] at k1
      simp only [if_pos q]
      exact e6 n h0 h1 (k + 1) (by omega) (by omega)
    · simp only [if_neg q]
      exact e6 n h0 h1 k k0 (by split at k1 <;> omega)
theorem Ag.dr {b c u l : Int} {F G : Hp} (hd : dj b u) (hS : AgS b u F c G) (hl : 0 ≤ l ∧ l < F u 0) : AgS b u (up F (b + 18) l (F (b + 18) l + 1)) c (up G (c + 18) l (G (c + 18) l + 1)) := by
  obtain ⟨e1, e2, e3, e4, e5, e6, e7⟩ := hS
  unfold AgS
  rw [up_r (a := u) (by omega), up_r (a := b) (by omega), up_r (a := c) (by omega), up_r (a := b + 1) (by omega), up_r (a := c + 1) (by omega), up_r (a := b + 2) (by omega), up_r (a := c + 2) (by omega), up_r (a := b + 3) (by omega), up_r (a := c + 3) (by omega), up_r (a := b + 5) (by omega), up_r (a := c + 5) (by omega), up_r (a := b + 6) (by omega), up_r (a := c + 6) (by omega), up_r (a := b + 7) (by omega), up_r (a := c + 7) (by omega), up_r (a := b + 8) (by omega), up_r (a := c + 8) (by omega), up_r (a := b + 9) (by omega), up_r (a := c + 9) (by omega), up_r (a := b + 10) (by omega), up_r (a := c + 10) (by omega), up_r (a := b + 11) (by omega), up_r (a := c + 11) (by omega), up_r (a := b + 12) (by omega), up_r (a := c + 12) (by omega), up_r (a := b + 14) (by omega), up_r (a := c + 14) (by omega), up_r (a := b + 15) (by omega), up_r (a := c + 15) (by omega), up_r (a := b + 16) (by omega), up_r (a := c + 16) (by omega), up_r (a := b + 17) (by omega), up_r (a := c + 17) (by omega), up_r (a := b + 19) (by omega), up_r (a := c + 19) (by omega), up_r (a := b + 20) (by omega), up_r (a := c + 20) (by omega), up_r (a := b + 21) (by omega), up_r (a := c + 21) (by omega), up_r (a := b + 22) (by omega), up_r (a := c + 22) (by omega), up_r (a := b + 23) (by omega), up_r (a := c + 23) (by omega)]
  refine ⟨e1, e2, e3, e4, fun n h0 h1 => ?_, e6, e7⟩
  obtain ⟨q1, q2, q3, q4, q5⟩ := e5 n h0 h1
  have ql := (e5 l hl.1 hl.2).2.2.2.2
  by_cases z : n = l
  · subst z
    rw [up_s, up_s, ← q5]
    exact ⟨q1, q2, q3, q4, rfl⟩
  · rw [up_i z, up_i z]
    exact ⟨q1, q2, q3, q4, q5⟩
theorem Ag.tm {b c u : Int} {F G : Hp} (hd : dj b u) (hS : AgS b u F c G) : AgS b u (up F b 1 (F b 1 + 1)) c (up G c 1 (G c 1 + 1)) := by
  obtain ⟨e1, e2, e3, e4, e5, e6, e7⟩ := hS
  unfold AgS
  rw [up_r (a := u) (by omega), up_s, up_s, up_r (a := b + 1) (by omega), up_r (a := c + 1) (by omega), up_r (a := b + 2) (by omega), up_r (a := c + 2) (by omega), up_r (a := b + 3) (by omega), up_r (a := c + 3) (by omega), up_r (a := b + 5) (by omega), up_r (a := c + 5) (by omega), up_r (a := b + 6) (by omega), up_r (a := c + 6) (by omega), up_r (a := b + 7) (by omega), up_r (a := c + 7) (by omega), up_r (a := b + 8) (by omega), up_r (a := c + 8) (by omega), up_r (a := b + 9) (by omega), up_r (a := c + 9) (by omega), up_r (a := b + 10) (by omega), up_r (a := c + 10) (by omega), up_r (a := b + 11) (by omega), up_r (a := c + 11) (by omega), up_r (a := b + 12) (by omega), up_r (a := c + 12) (by omega), up_r (a := b + 14) (by omega), up_r (a := c + 14) (by omega), up_r (a := b + 15) (by omega), up_r (a := c + 15) (by omega), up_r (a := b + 16) (by omega), up_r (a := c + 16) (by omega), up_r (a := b + 17) (by omega), up_r (a := c + 17) (by omega), up_r (a := b + 18) (by omega), up_r (a := c + 18) (by omega), up_r (a := b + 19) (by omega), up_r (a := c + 19) (by omega), up_r (a := b + 20) (by omega), up_r (a := c + 20) (by omega), up_r (a := b + 21) (by omega), up_r (a := c + 21) (by omega), up_r (a := b + 22) (by omega), up_r (a := c + 22) (by omega), up_r (a := b + 23) (by omega), up_r (a := c + 23) (by omega)]
  exact ⟨by rw [e1], e2, e3, e4, e5, e6, e7⟩
theorem Ag.rf1 {b c u w m : Int} {F G : Hp} (hd : dj b u) (hd2 : dj c w) (hU : AgU u F w G) (hS : AgS b u F c G) (hm : 0 ≤ m ∧ m < F u 0) : AgS b u (rfS1 b u m F) c (rfS1 c w m G) := by
  obtain ⟨e1, e2, e3, e4, e5, e6, e7⟩ := hS
  obtain ⟨-, -, -, g7, g8, -, -⟩ := hU.2.2.2.2.1 m hm.1 hm.2
  unfold AgS
  rw [rfS1_r (a := u) (by omega), rfS1_r (a := b) (by omega), rfS1_r (a := c) (by omega), rfS1_r (a := b + 1) (by omega), rfS1_r (a := c + 1) (by omega), rfS1_r (a := b + 2) (by omega), rfS1_r (a := c + 2) (by omega), rfS1_r (a := b + 3) (by omega), rfS1_r (a := c + 3) (by omega), rfS1_r (a := b + 8) (by omega), rfS1_r (a := c + 8) (by omega), rfS1_r (a := b + 9) (by omega), rfS1_r (a := c + 9) (by omega), rfS1_r (a := b + 10) (by omega), rfS1_r (a := c + 10) (by omega), rfS1_r (a := b + 11) (by omega), rfS1_r (a := c + 11) (by omega), rfS1_r (a := b + 12) (by omega), rfS1_r (a := c + 12) (by omega), rfS1_r (a := b + 14) (by omega), rfS1_r (a := c + 14) (by omega), rfS1_r (a := b + 15) (by omega), rfS1_r (a := c + 15) (by omega), rfS1_r (a := b + 16) (by omega), rfS1_r (a := c + 16) (by omega), rfS1_r (a := b + 17) (by omega), rfS1_r (a := c + 17) (by omega), rfS1_r (a := b + 18) (by omega), rfS1_r (a := c + 18) (by omega), rfS1_r (a := b + 19) (by omega), rfS1_r (a := c + 19) (by omega), rfS1_r (a := b + 20) (by omega), rfS1_r (a := c + 20) (by omega), rfS1_r (a := b + 21) (by omega), rfS1_r (a := c + 21) (by omega), rfS1_r (a := b + 22) (by omega), rfS1_r (a := c + 22) (by omega), rfS1_r (a := b + 23) (by omega), rfS1_r (a := c + 23) (by omega)]
  refine ⟨e1, e2, e3, fun n h0 h1 => ?_, e5, e6, e7⟩
  obtain ⟨q1, q2, q3, q5, q6, q7, q9⟩ := e4 n h0 h1
  by_cases z : n = m
  · subst z
    unfold rfS1
    simp (disch := omega) only [up_k, up_s]
    rw [q5, q1, q6, q7, q2, g7]
    have g8' : F (u + 8) n = G (w + 8) n := (hU.2.2.2.2.1 n h0 h1).2.2.2.2.1
    rw [g8']
    exact ⟨rfl, rfl, q3, rfl, rfl, rfl, q9⟩
  · unfold rfS1
    simp (disch := omega) only [up_k, up_i]
    exact ⟨q1, q2, q3, q5, q6, q7, q9⟩
theorem Ag.rf {b c u w : Int} {F G : Hp} (hd : dj b u) (hd2 : dj c w) (hU : AgU u F w G) (hS : AgS b u F c G) : ∀ k : Nat, (k : Int) ≤ F u 0 → AgS b u (refS b u k F) c (refS c w k G)
  | 0, _ => hS
  | k + 1, hk => by
    have ih := Ag.rf hd hd2 hU hS k (by omega)
    have hU2 : AgU u (refS b u k F) w (refS c w k G) := hU.fr (fun a z1 z2 => refS_r (by omega) _ _) (fun a z1 z2 => refS_r (by omega) _ _)
    have e : refS b u k F u = F u := refS_r (by omega) _ _
    exact Ag.rf1 hd hd2 hU2 ih (by rw [e]; omega)
theorem Ag.ch1 {b c u w m : Int} {F G : Hp} (hd : dj b u) (hd2 : dj c w) (hU : AgU u F w G) (hS : AgS b u F c G) (hm : 0 ≤ m ∧ m < F (u + 12) 0) : AgS b u (chS1 b u m F) c (chS1 c w m G) := by
  obtain ⟨g13, g14, g15, g16⟩ := hU.2.2.2.2.2 m hm.1 hm.2
  have e1 := hS.1
  unfold chS1
  rw [← g13, ← g14, ← g15, ← g16, ← e1]
  split
  · obtain ⟨e1, e2, e3, e4, e5, e6, e7⟩ := hS
    have hp : plc (F (u + 15) m) = 1 ∨ plc (F (u + 15) m) = 2 ∨ plc (F (u + 15) m) = 3 := by unfold plc; split; (left; rfl); (split; (right; left; rfl); (right; right; rfl))
    rcases hp with hp | hp | hp <;>
    · rw [hp]
      unfold AgS
      rw [up_r (a := u) (by omega), up_r (a := b) (by omega), up_r (a := c) (by omega)]
      rw [up_r (a := b + 5) (by omega), up_r (a := c + 5) (by omega), up_r (a := b + 6) (by omega), up_r (a := c + 6) (by omega), up_r (a := b + 7) (by omega), up_r (a := c + 7) (by omega), up_r (a := b + 8) (by omega), up_r (a := c + 8) (by omega), up_r (a := b + 9) (by omega), up_r (a := c + 9) (by omega), up_r (a := b + 10) (by omega), up_r (a := c + 10) (by omega), up_r (a := b + 11) (by omega), up_r (a := c + 11) (by omega), up_r (a := b + 12) (by omega), up_r (a := c + 12) (by omega), up_r (a := b + 14) (by omega), up_r (a := c + 14) (by omega), up_r (a := b + 15) (by omega), up_r (a := c + 15) (by omega), up_r (a := b + 16) (by omega), up_r (a := c + 16) (by omega), up_r (a := b + 17) (by omega), up_r (a := c + 17) (by omega), up_r (a := b + 18) (by omega), up_r (a := c + 18) (by omega), up_r (a := b + 19) (by omega), up_r (a := c + 19) (by omega), up_r (a := b + 20) (by omega), up_r (a := c + 20) (by omega), up_r (a := b + 21) (by omega), up_r (a := c + 21) (by omega), up_r (a := b + 22) (by omega), up_r (a := c + 22) (by omega), up_r (a := b + 23) (by omega), up_r (a := c + 23) (by omega)]
      refine ⟨e1, e2, e3, fun n h0 h1 => ?_, e5, e6, e7⟩
      obtain ⟨q1, q2, q3, q5, q6, q7, q9⟩ := e4 n h0 h1
      by_cases z : n = F (u + 14) m
      · subst z
        simp (disch := omega) only [up_k, up_s]
        first | exact ⟨trivial, q2, q3, q5, q6, q7, q9⟩ | exact ⟨q1, trivial, q3, q5, q6, q7, q9⟩ | exact ⟨q1, q2, trivial, q5, q6, q7, q9⟩
      · simp (disch := omega) only [up_k, up_i]
        exact ⟨q1, q2, q3, q5, q6, q7, q9⟩
  · exact hS
theorem Ag.chg {b c u w : Int} {F G : Hp} (hd : dj b u) (hd2 : dj c w) (hU : AgU u F w G) (hS : AgS b u F c G) : ∀ k : Nat, (k : Int) ≤ F (u + 12) 0 → AgS b u (chgS b u k F) c (chgS c w k G)
  | 0, _ => hS
  | k + 1, hk => by
    have ih := Ag.chg hd hd2 hU hS k (by omega)
    have hU2 : AgU u (chgS b u k F) w (chgS c w k G) := hU.fr (fun a z1 z2 => chgS_r (by omega) _ _) (fun a z1 z2 => chgS_r (by omega) _ _)
    have e : chgS b u k F (u + 12) = F (u + 12) := chgS_r (by omega) _ _
    exact Ag.ch1 hd hd2 hU2 ih (by rw [e]; omega)
theorem Ag.old {b c u l age : Int} {F G : Hp} (hS : AgS b u F c G) (hl : 0 ≤ l ∧ l < F u 0) : oldF b l age F = oldF c l age G := by
  have e9 := (hS.2.2.2.1 l hl.1 hl.2).2.2.2.2.2.2
  unfold oldF
  rw [← hS.1, ← e9]
  by_cases q : 0 < F (b + 9) l
  · have e12 := (hS.2.2.2.2.2.1 l hl.1 hl.2 0 (Int.le_refl _) q).2.2
    rw [Int.add_zero] at e12
    rw [e12]
  · rw [decide_eq_false (fun z => q z.1), decide_eq_false (fun z => q z.1)]
theorem Ag.drq {b c u w K l : Int} (hd : dj b u) (hd2 : dj c w) : ∀ (k : Nat) (F G : Hp), AgU u F w G → AgS b u F c G → StA b u K F → 0 ≤ l → l < F u 0 → AgS b u (drp1 b u l k F) c (drp1 c w l k G)
  | 0, F, G, _, hS, _, _, _ => hS
  | k + 1, F, G, hU, hS, hA, h0, h1 => by
    rw [show drp1 b u l (k + 1) F = if oldF b l (F u 14) F = true then drp1 b u l k (up (rmS b l F) (b + 18) l (F (b + 18) l + 1)) else F from rfl, show drp1 c w l (k + 1) G = if oldF c l (G w 14) G = true then drp1 c w l k (up (rmS c l G) (c + 18) l (G (c + 18) l + 1)) else G from rfl]
    rw [← hU.2.2.1, ← Ag.old hS ⟨h0, h1⟩]
    split
    · rename_i q
      have q1 := oldF_t q
      have e1 : up (rmS b l F) (b + 18) l (rmS b l F (b + 18) l + 1) = up (rmS b l F) (b + 18) l (F (b + 18) l + 1) := by rw [rmS_r (by omega)]
      have e2 : up (rmS c l G) (c + 18) l (rmS c l G (c + 18) l + 1) = up (rmS c l G) (c + 18) l (G (c + 18) l + 1) := by rw [rmS_r (by omega)]
      have eu : rmS b l F u = F u := rmS_r (by omega)
      have k2 := Ag.dr hd (Ag.rm (l := l) hd hS (fun n z0 z1 => (hA.2.2.1.2.1 n z0 z1).1)) (l := l) (by rw [eu]; exact ⟨h0, h1⟩)
      rw [e1, e2] at k2
      exact Ag.drq hd hd2 k _ _ (hU.fr (fun a z1 z2 => by rw [up_r (by omega), rmS_r (by omega)]) (fun a z1 z2 => by rw [up_r (by omega), rmS_r (by omega)])) k2 (hA.dr1 hd ⟨h0, h1⟩ (by omega)) h0 (by rw [up_r (by omega), eu]; exact h1)
    · exact hS
theorem Ag.drs {b c u w K : Int} {F G : Hp} (hd : dj b u) (hd2 : dj c w) (hU : AgU u F w G) (hS : AgS b u F c G) (hA : StA b u K F) : ∀ k : Nat, (k : Int) ≤ F u 0 → AgS b u (drpS b u k F) c (drpS c w k G)
  | 0, _ => hS
  | k + 1, hk => by
    have ih := Ag.drs hd hd2 hU hS hA k (by omega)
    have e : drpS b u k F u = F u := drpS_r (by omega) _ _
    exact Ag.drq hd hd2 16 _ _ (hU.fr (fun a z1 z2 => drpS_r (by omega) _ _) (fun a z1 z2 => drpS_r (by omega) _ _)) ih (hA.pdrpS hd k (by omega)) (by omega) (by rw [e]; omega)
theorem Ag.dra {b c u w K : Int} {F G : Hp} (hd : dj b u) (hd2 : dj c w) (hU : AgU u F w G) (hS : AgS b u F c G) (hA : StA b u K F) : AgS b u (drpA b u F) c (drpA c w G) := by
  have hN := hA.1.1
  unfold drpA
  rw [← hU.2.2.1, ← hU.1]
  split
  · exact hS
  · exact Ag.drs hd hd2 hU hS hA _ (by omega)
theorem Ag.dsp {b c u w K : Int} (hd : dj b u) (hd2 : dj c w) (hb : 0 ≤ b) : ∀ (k : Nat) (F G : Hp), AgU u F w G → AgS b u F c G → StA b u K F → (dspS b u k F).1 = (dspS c w k G).1 ∧ AgS b u (dspS b u k F).2 c (dspS c w k G).2
  | 0, F, G, _, hS, _ => ⟨rfl, hS⟩
  | k + 1, F, G, hU, hS, hA => by
    have hN := hA.1.1
    have hr := chlS_rng b u F hN.1
    have hc := Ag.chl hU hS hA.1 hA.2.2.1
    unfold dspS
    rw [← hc]
    by_cases q : chlS b u F = -2
    · rw [if_pos q, if_pos q]
      exact ⟨rfl, hS⟩
    · rw [if_neg q, if_neg q]
      have hr2 : 0 ≤ chlS b u F ∧ chlS b u F < F u 0 ∧ dstS b u F (chlS b u F) ≠ -2 := by omega
      have hk := dstS_ok hA.2.2.1 hr2.1 hr2.2.1 hr2.2.2
      have hl := lndS_ok (b := b) hA.1.2.1 hr2.2.1 hk.2.1
      have e11 := (hS.2.2.2.2.2.1 _ hr2.1 hr2.2.1 0 (Int.le_refl _) (by omega)).2.1
      rw [Int.add_zero] at e11
      rw [← e11, ← Ag.lnd hU hS hA.1.2.1 hr2.2.1]
      have hu : ∀ a : Int, u ≤ a → a < u + 17 → rmS b (chlS b u F) (sndS b u (chlS b u F) (lndS b u F (chlS b u F) (F (b + 11) (chlS b u F * 16))) (F (b + 11) (chlS b u F * 16)) F) a = F a := fun a z1 z2 => by rw [rmS_r (by omega), sndS_r (by omega)]
      have hw : ∀ a : Int, w ≤ a → a < w + 17 → rmS c (chlS b u F) (sndS c w (chlS b u F) (lndS b u F (chlS b u F) (F (b + 11) (chlS b u F * 16))) (F (b + 11) (chlS b u F * 16)) G) a = G a := fun a z1 z2 => by rw [rmS_r (by omega), sndS_r (by omega)]
      have hs := Ag.snd hd hd2 hU hS (k := F (b + 11) (chlS b u F * 16)) hA.1.2.1 hA.2.2.2.1.1 hr2.2.1 (f := lndS b u F (chlS b u F) (F (b + 11) (chlS b u F * 16))) (by have := hl.1; omega)
      have hm := Ag.rm (l := chlS b u F) hd hs (fun n z0 z1 => by rw [sndS_r (a := u) (by omega)] at z1; rw [sndS_r (by omega)]; exact (hA.2.2.1.2.1 n z0 z1).1)
      have ih := Ag.dsp hd hd2 hb k _ _ (hU.fr hu hw) hm (hA.dis hd hb hl ⟨hr2.1, hr2.2.1⟩ hk.2.2 hk.1)
      exact ⟨by dsimp only; rw [ih.1], ih.2⟩
theorem Ag.tip {b c u w K : Int} {F G : Hp} (hd : dj b u) (hd2 : dj c w) (hU : AgU u F w G) (hS : AgS b u F c G) (hA : StA b u K F) (ht : F b 1 < 5000) : AgU u (tikP b u F) w (tikP c w G) ∧ AgS b u (tikP b u F) c (tikP c w G) := by
  have hU1 : AgU u (up F b 1 (F b 1 + 1)) w (up G c 1 (G c 1 + 1)) := hU.fr (fun a z1 z2 => up_r (by omega)) (fun a z1 z2 => up_r (by omega))
  have h1 := Ag.tm hd hS
  have a1 := hA.tm hd ht
  have eu : up F b 1 (F b 1 + 1) u = F u := up_r (by omega)
  have e12 : up F b 1 (F b 1 + 1) (u + 12) = F (u + 12) := up_r (by omega)
  have hcc := hA.1.2.2.2.2.2.2.2.2.2.2.1
  have hN := hA.1.1
  have h2 := Ag.chg hd hd2 hU1 h1 (F (u + 12) 0).toNat (by rw [e12]; omega)
  have a2 := a1.chg hd
  rw [e12] at a2
  have hU2 : AgU u (chgS b u (F (u + 12) 0).toNat (up F b 1 (F b 1 + 1))) w (chgS c w (F (u + 12) 0).toNat (up G c 1 (G c 1 + 1))) := hU1.fr (fun a z1 z2 => chgS_r (by omega) _ _) (fun a z1 z2 => chgS_r (by omega) _ _)
  have e2 : chgS b u (F (u + 12) 0).toNat (up F b 1 (F b 1 + 1)) u = F u := by rw [chgS_r (by omega), eu]
  have h3 := Ag.rf hd hd2 hU2 h2 (F u 0).toNat (by rw [e2]; omega)
  have a3 := a2.ref hd
  rw [e2] at a3
  have hU3 : AgU u (refS b u (F u 0).toNat (chgS b u (F (u + 12) 0).toNat (up F b 1 (F b 1 + 1)))) w (refS c w (F u 0).toNat (chgS c w (F (u + 12) 0).toNat (up G c 1 (G c 1 + 1)))) := hU2.fr (fun a z1 z2 => refS_r (by omega) _ _) (fun a z1 z2 => refS_r (by omega) _ _)
  have h4 := Ag.dra hd hd2 hU3 h3 a3
  unfold tikP
  rw [← hU.1, ← hU.2.2.2.1]
  exact ⟨hU3.fr (fun a z1 z2 => drpA_r (by omega)) (fun a z1 z2 => drpA_r (by omega)), h4⟩
theorem Ag.tik {b c u w K : Int} {F G : Hp} (hd : dj b u) (hd2 : dj c w) (hb : 0 ≤ b) (hU : AgU u F w G) (hS : AgS b u F c G) (hA : StA b u K F) (ht : F b 1 < 5000) : (tikS b u F).1 = (tikS c w G).1 ∧ AgU u (tikS b u F).2 w (tikS c w G).2 ∧ AgS b u (tikS b u F).2 c (tikS c w G).2 := by
  obtain ⟨h1, h2⟩ := Ag.tip hd hd2 hU hS hA ht
  have h3 := Ag.dsp hd hd2 hb (F u 13).toNat _ _ h1 h2 (hA.ptikP hd ht)
  unfold tikS
  rw [← hU.2.1]
  exact ⟨h3.1, h1.fr (fun a z1 z2 => dspS_r (by omega) _ _) (fun a z1 z2 => dspS_r (by omega) _ _), h3.2⟩
theorem Ag.tks {b c u w K : Int} {F G : Hp} (hd : dj b u) (hd2 : dj c w) (hb : 0 ≤ b) (hU : AgU u F w G) (hS : AgS b u F c G) (hA : StA b u K F) : ∀ k : Nat, F b 1 + k ≤ 5000 → (tksS b u k F).1 = (tksS c w k G).1 ∧ AgU u (tksS b u k F).2 w (tksS c w k G).2 ∧ AgS b u (tksS b u k F).2 c (tksS c w k G).2
  | 0, _ => ⟨rfl, hU, hS⟩
  | k + 1, hk => by
    obtain ⟨i1, i2, i3⟩ := Ag.tks hd hd2 hb hU hS hA k (by omega)
    have hs := hA.tks hd hb k (by omega)
    obtain ⟨j1, j2, j3⟩ := Ag.tik hd hd2 hb i2 i3 hs.1 (by omega)
    unfold tksS
    dsimp only
    exact ⟨by rw [i1, j1], j2, j3⟩
theorem Ag.drn {b c u w K l : Int} (hd : dj b u) (hd2 : dj c w) (hb : 0 ≤ b) : ∀ (k : Nat) (t : Int) (F G : Hp), AgU u F w G → AgS b u F c G → StA b u K F → F b 1 + k ≤ 5000 → 0 ≤ l → l < F u 0 → drS b u l k t F = drS c w l k t G
  | 0, t, F, G, hU, hS, hA, hk, h0, h1 => by
    unfold drS
    rw [(hS.2.2.2.1 l h0 h1).2.2.2.2.2.2]
  | k + 1, t, F, G, hU, hS, hA, hk, h0, h1 => by
    obtain ⟨j1, j2, j3⟩ := Ag.tik hd hd2 hb hU hS hA (by omega)
    have hs := hA.tik hd hb (by omega)
    have eu : (tikS b u F).2 u = F u := by funext i; rw [tikS_r (by omega)]
    unfold drS
    rw [← (hS.2.2.2.1 l h0 h1).2.2.2.2.2.2]
    split
    · rfl
    · exact Ag.drn hd hd2 hb k (t + 1) _ _ j2 j3 hs.1 (by rw [tikS_t]; omega) h0 (by rw [eu]; exact h1)

