/-! what the relation says of the cells -/
theorem ite_iff {p q : Prop} [Decidable p] [Decidable q] {a b x : Int} (h : p ↔ q) (e : p → a = b) : (if p then a else x) = (if q then b else x) := by
  by_cases z : p
  · rw [if_pos z, if_pos (h.mp z), e z]
  · rw [if_neg z, if_neg (fun y => z (h.mpr y))]
theorem bool_iff {p q : Prop} {r r' : Int} (h : p ↔ q) (h1 : (r = 1 ∧ p) ∨ (r = 0 ∧ ¬ p)) (h2 : (r' = 1 ∧ q) ∨ (r' = 0 ∧ ¬ q)) : r = r' := by
  rcases h1 with ⟨b, a⟩ | ⟨b, a⟩
  · rcases h2 with ⟨d, c⟩ | ⟨d, c⟩
    · rw [b, d]
    · exact absurd (h.mp a) c
  · rcases h2 with ⟨d, c⟩ | ⟨d, c⟩
    · exact absurd (h.mpr c) a
    · rw [b, d]
theorem Gl.N {u v K : Int} {F : Hp} (h : Gl u v K F) : F u 0 = F 136 3 := by have := h.2.2.1.1; rw [vw_1100_0] at this; exact this
theorem Gl.N12 {u v K : Int} {F : Hp} (h : Gl u v K F) : 0 ≤ F u 0 ∧ F u 0 ≤ 12 := h.sta.1.1
theorem Gl.U {u v K : Int} {F : Hp} (h : Gl u v K F) {n : Int} (h0 : 0 ≤ n) (h1 : n < F u 0) : F (u + 2) n = F 141 n ∧ F (u + 3) n = dptF (F 141) 13 n ∧ (F (u + 4) n = 0 ↔ chlC (F 141) (F 136 3) n = 0) ∧ F (u + 7) n = F 142 n ∧ F (u + 8) n = F 143 n ∧ F (u + 10) n = F 144 n ∧ F (u + 11) n = F 145 n := by
  have a := h.2.2.1.2.2.2.2.1 n h0 h1
  rw [show (1100 : Int) + 2 = 1102 from rfl, show (1100 : Int) + 3 = 1103 from rfl, show (1100 : Int) + 4 = 1104 from rfl, show (1100 : Int) + 7 = 1107 from rfl, show (1100 : Int) + 8 = 1108 from rfl, show (1100 : Int) + 10 = 1110 from rfl, show (1100 : Int) + 11 = 1111 from rfl, vw_1102, vw_1103, vw_1104, vw_1107, vw_1108, vw_1110, vw_1111] at a
  exact a
theorem Gl.S {u v K : Int} {F : Hp} (h : Gl u v K F) {n : Int} (h0 : 0 ≤ n) (h1 : n < F u 0) : F (40 + 1) n = F 137 (99 + n) ∧ F (40 + 2) n = F 137 (111 + n) ∧ F (40 + 3) n = F 137 (123 + n) ∧ F (40 + 5) n = F 137 (3 + n) ∧ F (40 + 6) n = F 137 (15 + n) ∧ F (40 + 7) n = F 137 (27 + n) ∧ F (40 + 9) n = F 137 (135 + n) := by
  have hN := h.N12
  have a := h.2.2.2.1.2.2.2.1 n h0 h1
  rw [show (1000 : Int) + 1 = 1001 from rfl, vw_1 (by omega), show (1000 : Int) + 2 = 1002 from rfl, vw_2 (by omega), show (1000 : Int) + 3 = 1003 from rfl, vw_3 (by omega), show (1000 : Int) + 5 = 1005 from rfl, vw_5 (by omega), show (1000 : Int) + 6 = 1006 from rfl, vw_6 (by omega), show (1000 : Int) + 7 = 1007 from rfl, vw_7 (by omega), show (1000 : Int) + 9 = 1009 from rfl, vw_9 (by omega)] at a
  exact a
theorem Gl.C {u v K : Int} {F : Hp} (h : Gl u v K F) {n : Int} (h0 : 0 ≤ n) (h1 : n < F u 0) : F (40 + 14) n = F 137 (39 + n) ∧ F (40 + 15) n = F 137 (51 + n) ∧ F (40 + 16) n = F 137 (63 + n) ∧ F (40 + 17) n = F 137 (75 + n) ∧ F (40 + 18) n = F 137 (87 + n) := by
  have hN := h.N12
  have a := h.2.2.2.1.2.2.2.2.1 n h0 h1
  rw [show (1000 : Int) + 14 = 1014 from rfl, vw_14 (by omega), show (1000 : Int) + 15 = 1015 from rfl, vw_15 (by omega), show (1000 : Int) + 16 = 1016 from rfl, vw_16 (by omega), show (1000 : Int) + 17 = 1017 from rfl, vw_17 (by omega), show (1000 : Int) + 18 = 1018 from rfl, vw_18 (by omega)] at a
  exact a
theorem Gl.T {u v K : Int} {F : Hp} (h : Gl u v K F) : F 40 1 = F 137 0 ∧ F (40 + 8) 4 = F 137 1 ∧ F (40 + 19) 0 = F 137 2 := ⟨h.2.2.2.1.1, h.2.2.2.1.2.1, h.2.2.2.1.2.2.1⟩
theorem Gl.Q {u v K : Int} {F : Hp} (h : Gl u v K F) {n k : Int} (h0 : 0 ≤ n) (h1 : n < F u 0) (k0 : 0 ≤ k) (k1 : k < F (40 + 9) n) : F (40 + 10) (n * 16 + k) = F 137 (147 + 3 * (n * 16 + k) + 0) ∧ F (40 + 11) (n * 16 + k) = F 137 (147 + 3 * (n * 16 + k) + 1) ∧ F (40 + 12) (n * 16 + k) = F 137 (147 + 3 * (n * 16 + k) + 2) := by
  have hN := h.N12
  have hq := (h.sta.2.2.1.2.1 n h0 h1).1
  have a := h.2.2.2.1.2.2.2.2.2.1 n h0 h1 k k0 k1
  rw [show (1000 : Int) + 10 = 1010 from rfl, show (1000 : Int) + 11 = 1011 from rfl, show (1000 : Int) + 12 = 1012 from rfl, vw_q0 (by omega), vw_q1 (by omega), vw_q2 (by omega)] at a
  exact a
theorem Gl.L {u v K : Int} {F : Hp} (h : Gl u v K F) {k : Int} (k0 : 0 ≤ k) (k1 : k < F (40 + 19) 0) : F (40 + 20) k = F 137 (723 + 4 * k + 0) ∧ F (40 + 21) k = F 137 (723 + 4 * k + 1) ∧ F (40 + 22) k = F 137 (723 + 4 * k + 2) ∧ F (40 + 23) k = F 137 (723 + 4 * k + 3) := by
  have hl := h.sta.2.2.2.1.1
  have a := h.2.2.2.1.2.2.2.2.2.2 k k0 k1
  rw [show (1000 : Int) + 20 = 1020 from rfl, show (1000 : Int) + 21 = 1021 from rfl, show (1000 : Int) + 22 = 1022 from rfl, show (1000 : Int) + 23 = 1023 from rfl, vw_l0 (by omega), vw_l1 (by omega), vw_l2 (by omega), vw_l3 (by omega)] at a
  exact a
theorem Gl.nd {u v K : Int} {F : Hp} (h : Gl u v K F) (n : Int) : (0 ≤ n ∧ n < F u 0) ↔ (0 ≤ n ∧ n < F 136 3) := by rw [h.N]
theorem Gl.lf {u v K : Int} {F : Hp} (h : Gl u v K F) (n : Int) : (0 ≤ n ∧ n < F u 0 ∧ F (u + 4) n = 0) ↔ (0 ≤ n ∧ n < F 136 3 ∧ chlC (F 141) (F 136 3) n = 0) := by
  have e := h.N
  constructor
  · intro z
    exact ⟨z.1, by omega, (h.U z.1 z.2.1).2.2.1.mp z.2.2⟩
  · intro z
    exact ⟨z.1, by omega, (h.U z.1 (by omega)).2.2.1.mpr z.2.2⟩
theorem Gl.aq {u v K : Int} {F : Hp} (h : Gl u v K F) (n c : Int) : (0 ≤ n ∧ n < F u 0 ∧ F (u + 4) n = 0 ∧ 1 ≤ c ∧ c ≤ 99) ↔ (0 ≤ n ∧ n < F 136 3 ∧ chlC (F 141) (F 136 3) n = 0 ∧ 1 ≤ c ∧ c ≤ 99) := by
  have e := h.lf n
  constructor
  · intro z
    have y := e.mp ⟨z.1, z.2.1, z.2.2.1⟩
    exact ⟨y.1, y.2.1, y.2.2, z.2.2.2⟩
  · intro z
    have y := e.mpr ⟨z.1, z.2.1, z.2.2.1⟩
    exact ⟨y.1, y.2.1, y.2.2, z.2.2.2⟩
theorem g_rate {u v K r r' n : Int} {F F1 F2 : Hp} (h : Gl u v K F) (h1 : r = (if 0 ≤ n ∧ n < F u 0 then F (40 + 1) n else -1) ∧ F1 = F) (h2 : F2 = up F1 136 0 0 ∧ r' = (if 0 ≤ n ∧ n < F2 136 3 then F2 137 (99 + n) else -1)) : r = r' ∧ Gl u v K F2 := by
  obtain ⟨a1, rfl⟩ := h1
  obtain ⟨rfl, a2⟩ := h2
  refine ⟨?_, h.z⟩
  simp (disch := omega) only [up_i, up_k, up_r, vw_z] at a2
  rw [a1, a2]
  exact ite_iff (h.nd n) (fun z => (h.S z.1 z.2).1)
theorem g_ceiling {u v K r r' n : Int} {F F1 F2 : Hp} (h : Gl u v K F) (h1 : r = (if 0 ≤ n ∧ n < F u 0 then F (40 + 2) n else -1) ∧ F1 = F) (h2 : F2 = up F1 136 0 0 ∧ r' = (if 0 ≤ n ∧ n < F2 136 3 then F2 137 (111 + n) else -1)) : r = r' ∧ Gl u v K F2 := by
  obtain ⟨a1, rfl⟩ := h1
  obtain ⟨rfl, a2⟩ := h2
  refine ⟨?_, h.z⟩
  simp (disch := omega) only [up_i, up_k, up_r, vw_z] at a2
  rw [a1, a2]
  exact ite_iff (h.nd n) (fun z => (h.S z.1 z.2).2.1)
theorem g_burst {u v K r r' n : Int} {F F1 F2 : Hp} (h : Gl u v K F) (h1 : r = (if 0 ≤ n ∧ n < F u 0 then F (u + 7) n else -1) ∧ F1 = F) (h2 : F2 = up F1 136 0 0 ∧ r' = (if 0 ≤ n ∧ n < F2 136 3 then F2 142 n else -1)) : r = r' ∧ Gl u v K F2 := by
  obtain ⟨a1, rfl⟩ := h1
  obtain ⟨rfl, a2⟩ := h2
  refine ⟨?_, h.z⟩
  simp (disch := omega) only [up_i, up_k, up_r, vw_z] at a2
  rw [a1, a2]
  exact ite_iff (h.nd n) (fun z => (h.U z.1 z.2).2.2.2.1)
theorem g_creditLimit {u v K r r' n : Int} {F F1 F2 : Hp} (h : Gl u v K F) (h1 : r = (if 0 ≤ n ∧ n < F u 0 then F (u + 8) n else -1) ∧ F1 = F) (h2 : F2 = up F1 136 0 0 ∧ r' = (if 0 ≤ n ∧ n < F2 136 3 then F2 143 n else -1)) : r = r' ∧ Gl u v K F2 := by
  obtain ⟨a1, rfl⟩ := h1
  obtain ⟨rfl, a2⟩ := h2
  refine ⟨?_, h.z⟩
  simp (disch := omega) only [up_i, up_k, up_r, vw_z] at a2
  rw [a1, a2]
  exact ite_iff (h.nd n) (fun z => (h.U z.1 z.2).2.2.2.2.1)
theorem g_weight {u v K r r' n : Int} {F F1 F2 : Hp} (h : Gl u v K F) (h1 : r = (if 0 ≤ n ∧ n < F u 0 then F (40 + 3) n else -1) ∧ F1 = F) (h2 : F2 = up F1 136 0 0 ∧ r' = (if 0 ≤ n ∧ n < F2 136 3 then F2 137 (123 + n) else -1)) : r = r' ∧ Gl u v K F2 := by
  obtain ⟨a1, rfl⟩ := h1
  obtain ⟨rfl, a2⟩ := h2
  refine ⟨?_, h.z⟩
  simp (disch := omega) only [up_i, up_k, up_r, vw_z] at a2
  rw [a1, a2]
  exact ite_iff (h.nd n) (fun z => (h.S z.1 z.2).2.2.1)
theorem g_priority {u v K r r' n : Int} {F F1 F2 : Hp} (h : Gl u v K F) (h1 : r = (if 0 ≤ n ∧ n < F u 0 then F (u + 10) n else -1) ∧ F1 = F) (h2 : F2 = up F1 136 0 0 ∧ r' = (if 0 ≤ n ∧ n < F2 136 3 then F2 144 n else -1)) : r = r' ∧ Gl u v K F2 := by
  obtain ⟨a1, rfl⟩ := h1
  obtain ⟨rfl, a2⟩ := h2
  refine ⟨?_, h.z⟩
  simp (disch := omega) only [up_i, up_k, up_r, vw_z] at a2
  rw [a1, a2]
  exact ite_iff (h.nd n) (fun z => (h.U z.1 z.2).2.2.2.2.2.1)
theorem g_tokens {u v K r r' n : Int} {F F1 F2 : Hp} (h : Gl u v K F) (h1 : r = (if 0 ≤ n ∧ n < F u 0 then F (40 + 5) n else -1) ∧ F1 = F) (h2 : F2 = up F1 136 0 0 ∧ r' = (if 0 ≤ n ∧ n < F2 136 3 then F2 137 (3 + n) else -1)) : r = r' ∧ Gl u v K F2 := by
  obtain ⟨a1, rfl⟩ := h1
  obtain ⟨rfl, a2⟩ := h2
  refine ⟨?_, h.z⟩
  simp (disch := omega) only [up_i, up_k, up_r, vw_z] at a2
  rw [a1, a2]
  exact ite_iff (h.nd n) (fun z => (h.S z.1 z.2).2.2.2.1)
theorem g_credit {u v K r r' n : Int} {F F1 F2 : Hp} (h : Gl u v K F) (h1 : r = (if 0 ≤ n ∧ n < F u 0 then F (40 + 6) n else -1) ∧ F1 = F) (h2 : F2 = up F1 136 0 0 ∧ r' = (if 0 ≤ n ∧ n < F2 136 3 then F2 137 (15 + n) else -1)) : r = r' ∧ Gl u v K F2 := by
  obtain ⟨a1, rfl⟩ := h1
  obtain ⟨rfl, a2⟩ := h2
  refine ⟨?_, h.z⟩
  simp (disch := omega) only [up_i, up_k, up_r, vw_z] at a2
  rw [a1, a2]
  exact ite_iff (h.nd n) (fun z => (h.S z.1 z.2).2.2.2.2.1)
theorem g_headroom {u v K r r' n : Int} {F F1 F2 : Hp} (h : Gl u v K F) (h1 : r = (if 0 ≤ n ∧ n < F u 0 then F (40 + 7) n else -1) ∧ F1 = F) (h2 : F2 = up F1 136 0 0 ∧ r' = (if 0 ≤ n ∧ n < F2 136 3 then F2 137 (27 + n) else -1)) : r = r' ∧ Gl u v K F2 := by
  obtain ⟨a1, rfl⟩ := h1
  obtain ⟨rfl, a2⟩ := h2
  refine ⟨?_, h.z⟩
  simp (disch := omega) only [up_i, up_k, up_r, vw_z] at a2
  rw [a1, a2]
  exact ite_iff (h.nd n) (fun z => (h.S z.1 z.2).2.2.2.2.2.1)
theorem g_lentCost {u v K r r' n : Int} {F F1 F2 : Hp} (h : Gl u v K F) (h1 : r = (if 0 ≤ n ∧ n < F u 0 then F (40 + 17) n else -1) ∧ F1 = F) (h2 : F2 = up F1 136 0 0 ∧ r' = (if 0 ≤ n ∧ n < F2 136 3 then F2 137 (75 + n) else -1)) : r = r' ∧ Gl u v K F2 := by
  obtain ⟨a1, rfl⟩ := h1
  obtain ⟨rfl, a2⟩ := h2
  refine ⟨?_, h.z⟩
  simp (disch := omega) only [up_i, up_k, up_r, vw_z] at a2
  rw [a1, a2]
  exact ite_iff (h.nd n) (fun z => (h.C z.1 z.2).2.2.2.1)
theorem g_queueLength {u v K r r' n : Int} {F F1 F2 : Hp} (h : Gl u v K F) (h1 : r = (if 0 ≤ n ∧ n < F u 0 ∧ F (u + 4) n = 0 then F (40 + 9) n else -1) ∧ F1 = F) (h2 : F2 = up F1 136 0 0 ∧ r' = (if 0 ≤ n ∧ n < F2 136 3 ∧ chlC (F2 141) (F2 136 3) n = 0 then F2 137 (135 + n) else -1)) : r = r' ∧ Gl u v K F2 := by
  obtain ⟨a1, rfl⟩ := h1
  obtain ⟨rfl, a2⟩ := h2
  refine ⟨?_, h.z⟩
  simp (disch := omega) only [up_i, up_k, up_r, vw_z] at a2
  rw [a1, a2]
  exact ite_iff (h.lf n) (fun z => (h.S z.1 z.2.1).2.2.2.2.2.2)
theorem g_sentCost {u v K r r' n : Int} {F F1 F2 : Hp} (h : Gl u v K F) (h1 : r = (if 0 ≤ n ∧ n < F u 0 ∧ F (u + 4) n = 0 then F (40 + 14) n else -1) ∧ F1 = F) (h2 : F2 = up F1 136 0 0 ∧ r' = (if 0 ≤ n ∧ n < F2 136 3 ∧ chlC (F2 141) (F2 136 3) n = 0 then F2 137 (39 + n) else -1)) : r = r' ∧ Gl u v K F2 := by
  obtain ⟨a1, rfl⟩ := h1
  obtain ⟨rfl, a2⟩ := h2
  refine ⟨?_, h.z⟩
  simp (disch := omega) only [up_i, up_k, up_r, vw_z] at a2
  rw [a1, a2]
  exact ite_iff (h.lf n) (fun z => (h.C z.1 z.2.1).1)
theorem g_sentCount {u v K r r' n : Int} {F F1 F2 : Hp} (h : Gl u v K F) (h1 : r = (if 0 ≤ n ∧ n < F u 0 ∧ F (u + 4) n = 0 then F (40 + 15) n else -1) ∧ F1 = F) (h2 : F2 = up F1 136 0 0 ∧ r' = (if 0 ≤ n ∧ n < F2 136 3 ∧ chlC (F2 141) (F2 136 3) n = 0 then F2 137 (51 + n) else -1)) : r = r' ∧ Gl u v K F2 := by
  obtain ⟨a1, rfl⟩ := h1
  obtain ⟨rfl, a2⟩ := h2
  refine ⟨?_, h.z⟩
  simp (disch := omega) only [up_i, up_k, up_r, vw_z] at a2
  rw [a1, a2]
  exact ite_iff (h.lf n) (fun z => (h.C z.1 z.2.1).2.1)
theorem g_borrowedCost {u v K r r' n : Int} {F F1 F2 : Hp} (h : Gl u v K F) (h1 : r = (if 0 ≤ n ∧ n < F u 0 ∧ F (u + 4) n = 0 then F (40 + 16) n else -1) ∧ F1 = F) (h2 : F2 = up F1 136 0 0 ∧ r' = (if 0 ≤ n ∧ n < F2 136 3 ∧ chlC (F2 141) (F2 136 3) n = 0 then F2 137 (63 + n) else -1)) : r = r' ∧ Gl u v K F2 := by
  obtain ⟨a1, rfl⟩ := h1
  obtain ⟨rfl, a2⟩ := h2
  refine ⟨?_, h.z⟩
  simp (disch := omega) only [up_i, up_k, up_r, vw_z] at a2
  rw [a1, a2]
  exact ite_iff (h.lf n) (fun z => (h.C z.1 z.2.1).2.2.1)
theorem g_droppedCount {u v K r r' n : Int} {F F1 F2 : Hp} (h : Gl u v K F) (h1 : r = (if 0 ≤ n ∧ n < F u 0 ∧ F (u + 4) n = 0 then F (40 + 18) n else -1) ∧ F1 = F) (h2 : F2 = up F1 136 0 0 ∧ r' = (if 0 ≤ n ∧ n < F2 136 3 ∧ chlC (F2 141) (F2 136 3) n = 0 then F2 137 (87 + n) else -1)) : r = r' ∧ Gl u v K F2 := by
  obtain ⟨a1, rfl⟩ := h1
  obtain ⟨rfl, a2⟩ := h2
  refine ⟨?_, h.z⟩
  simp (disch := omega) only [up_i, up_k, up_r, vw_z] at a2
  rw [a1, a2]
  exact ite_iff (h.lf n) (fun z => (h.C z.1 z.2.1).2.2.2.2)
theorem g_nodeCount {u v K r r'  : Int} {F F1 F2 : Hp} (h : Gl u v K F) (h1 : r = F u 0 ∧ F1 = F) (h2 : F2 = up F1 136 0 0 ∧ r' = F2 136 3) : r = r' ∧ Gl u v K F2 := by
  obtain ⟨a1, rfl⟩ := h1
  obtain ⟨rfl, a2⟩ := h2
  refine ⟨?_, h.z⟩
  simp (disch := omega) only [up_i, up_k, up_r, vw_z] at a2
  rw [a1, a2]
  exact h.N
theorem g_time {u v K r r'  : Int} {F F1 F2 : Hp} (h : Gl u v K F) (h1 : r = F 40 1 ∧ F1 = F) (h2 : F2 = up F1 136 0 0 ∧ r' = F2 137 0) : r = r' ∧ Gl u v K F2 := by
  obtain ⟨a1, rfl⟩ := h1
  obtain ⟨rfl, a2⟩ := h2
  refine ⟨?_, h.z⟩
  simp (disch := omega) only [up_i, up_k, up_r, vw_z] at a2
  rw [a1, a2]
  exact h.T.1
theorem g_logCount {u v K r r'  : Int} {F F1 F2 : Hp} (h : Gl u v K F) (h1 : r = F (40 + 19) 0 ∧ F1 = F) (h2 : F2 = up F1 136 0 0 ∧ r' = F2 137 2) : r = r' ∧ Gl u v K F2 := by
  obtain ⟨a1, rfl⟩ := h1
  obtain ⟨rfl, a2⟩ := h2
  refine ⟨?_, h.z⟩
  simp (disch := omega) only [up_i, up_k, up_r, vw_z] at a2
  rw [a1, a2]
  exact h.T.2.2
theorem g_faultCode {u v K r r'  : Int} {F F1 F2 : Hp} (h : Gl u v K F) (h1 : r = F 3 0 ∧ F1 = F) (h2 : F2 = up F1 136 0 0 ∧ r' = F2 136 19) : r = r' ∧ Gl u v K F2 := by
  obtain ⟨a1, rfl⟩ := h1
  obtain ⟨rfl, a2⟩ := h2
  refine ⟨?_, h.z⟩
  simp (disch := omega) only [up_i, up_k, up_r, vw_z] at a2
  rw [a1, a2]
  exact h.2.2.2.2.2.2.2.1.1
theorem g_faultPosition {u v K r r'  : Int} {F F1 F2 : Hp} (h : Gl u v K F) (h1 : r = F 3 1 ∧ F1 = F) (h2 : F2 = up F1 136 0 0 ∧ r' = F2 136 20) : r = r' ∧ Gl u v K F2 := by
  obtain ⟨a1, rfl⟩ := h1
  obtain ⟨rfl, a2⟩ := h2
  refine ⟨?_, h.z⟩
  simp (disch := omega) only [up_i, up_k, up_r, vw_z] at a2
  rw [a1, a2]
  exact h.2.2.2.2.2.2.2.1.2
theorem g_parent {u v K r r' n : Int} {F F1 F2 : Hp} (h : Gl u v K F) (h1 : r = (if 0 ≤ n ∧ n < F u 0 then F (u + 2) n else -1) ∧ F1 = F) (h2 : F2 = up F1 136 0 0 ∧ r' = (if 0 ≤ n ∧ n < F2 136 3 then (if n = 0 then -2 else F2 141 n) else -1)) : r = r' ∧ Gl u v K F2 := by
  obtain ⟨a1, rfl⟩ := h1
  obtain ⟨rfl, a2⟩ := h2
  refine ⟨?_, h.z⟩
  simp (disch := omega) only [up_i, up_k, up_r, vw_z] at a2
  rw [a1, a2]
  exact ite_iff (h.nd n) (fun z => by
    have a := h.sta.1.2.2.1 n z.1 z.2
    rw [← (h.U z.1 z.2).1]
    by_cases q : n = 0
    · rw [if_pos q, a.1 q]
    · rw [if_neg q])
theorem g_depth {u v K r r' n : Int} {F F1 F2 : Hp} (h : Gl u v K F) (h1 : r = (if 0 ≤ n ∧ n < F u 0 then F (u + 3) n else -1) ∧ F1 = F) (h2 : F2 = up F1 136 0 0 ∧ r' = (if 0 ≤ n ∧ n < F2 136 3 then dptF (F2 141) 13 n - dptF (F2 141) 13 0 else -1)) : r = r' ∧ Gl u v K F2 := by
  obtain ⟨a1, rfl⟩ := h1
  obtain ⟨rfl, a2⟩ := h2
  refine ⟨?_, h.z⟩
  simp (disch := omega) only [up_i, up_k, up_r, vw_z] at a2
  rw [a1, a2]
  exact ite_iff (h.nd n) (fun z => by
    have a := (h.sta.1.2.2.2.1 0 (by decide) (by omega)).1
    rw [← (h.U z.1 z.2).2.1, ← (h.U (n := 0) (by decide) (by omega)).2.1]
    omega)
theorem g_isLeaf {u v K r r' n : Int} {F F1 F2 : Hp} (h : Gl u v K F) (h1 : (((r = 1 ∧ (0 ≤ n ∧ n < F u 0 ∧ F (u + 4) n = 0)) ∨ (r = 0 ∧ ¬ (0 ≤ n ∧ n < F u 0 ∧ F (u + 4) n = 0)))) ∧ F1 = F) (h2 : F2 = up F1 136 0 0 ∧ (((r' = 1 ∧ (0 ≤ n ∧ n < F2 136 3 ∧ chlC (F2 141) (F2 136 3) n = 0)) ∨ (r' = 0 ∧ ¬ (0 ≤ n ∧ n < F2 136 3 ∧ chlC (F2 141) (F2 136 3) n = 0))))) : r = r' ∧ Gl u v K F2 := by
  obtain ⟨a1, rfl⟩ := h1
  obtain ⟨rfl, a2⟩ := h2
  refine ⟨?_, h.z⟩
  simp (disch := omega) only [up_i, up_k, up_r, vw_z] at a2
  refine bool_iff ?_ a1 a2
  exact h.lf n
theorem g_mayBorrow {u v K r r' n : Int} {F F1 F2 : Hp} (h : Gl u v K F) (h1 : (((r = 1 ∧ (0 ≤ n ∧ n < F u 0 ∧ F (u + 11) n = 0)) ∨ (r = 0 ∧ ¬ (0 ≤ n ∧ n < F u 0 ∧ F (u + 11) n = 0)))) ∧ F1 = F) (h2 : F2 = up F1 136 0 0 ∧ (((r' = 1 ∧ (0 ≤ n ∧ n < F2 136 3 ∧ F2 145 n = 0)) ∨ (r' = 0 ∧ ¬ (0 ≤ n ∧ n < F2 136 3 ∧ F2 145 n = 0))))) : r = r' ∧ Gl u v K F2 := by
  obtain ⟨a1, rfl⟩ := h1
  obtain ⟨rfl, a2⟩ := h2
  refine ⟨?_, h.z⟩
  simp (disch := omega) only [up_i, up_k, up_r, vw_z] at a2
  refine bool_iff ?_ a1 a2
  exact ⟨fun z => ⟨z.1, by rw [← h.N]; exact z.2.1, by rw [← (h.U z.1 z.2.1).2.2.2.2.2.2]; exact z.2.2⟩, fun z => ⟨z.1, by rw [h.N]; exact z.2.1, by rw [(h.U z.1 (by rw [h.N]; exact z.2.1)).2.2.2.2.2.2]; exact z.2.2⟩⟩
theorem g_requestAt {u v K r r' l k : Int} {F F1 F2 : Hp} (h : Gl u v K F) (h1 : r = (if 0 ≤ l ∧ l < F u 0 ∧ F (u + 4) l = 0 ∧ 0 ≤ k then (if k < F (40 + 9) l then F (40 + 10) (l * 16 + k) else -2) else -1) ∧ F1 = F) (h2 : F2 = up F1 136 0 0 ∧ r' = (if (0 ≤ l ∧ l < F2 136 3 ∧ chlC (F2 141) (F2 136 3) l = 0) ∧ 0 ≤ k then (if k < F2 137 (135 + l) then F2 137 (147 + 3 * (l * 16 + k) + 0) else -2) else -1)) : r = r' ∧ Gl u v K F2 := by
  obtain ⟨a1, rfl⟩ := h1
  obtain ⟨rfl, a2⟩ := h2
  refine ⟨?_, h.z⟩
  simp (disch := omega) only [up_i, up_k, up_r, vw_z] at a2
  rw [a1, a2]
  refine ite_iff ?_ (fun z => ?_)
  · exact ⟨fun z => ⟨(h.lf l).mp ⟨z.1, z.2.1, z.2.2.1⟩, z.2.2.2⟩, fun z => have y := (h.lf l).mpr z.1; ⟨y.1, y.2.1, y.2.2, z.2⟩⟩
  · refine ite_iff (by rw [(h.S z.1 z.2.1).2.2.2.2.2.2]) (fun y => ?_)
    exact (h.Q z.1 z.2.1 z.2.2.2 y).1
theorem g_costAt {u v K r r' l k : Int} {F F1 F2 : Hp} (h : Gl u v K F) (h1 : r = (if 0 ≤ l ∧ l < F u 0 ∧ F (u + 4) l = 0 ∧ 0 ≤ k then (if k < F (40 + 9) l then F (40 + 11) (l * 16 + k) else -2) else -1) ∧ F1 = F) (h2 : F2 = up F1 136 0 0 ∧ r' = (if (0 ≤ l ∧ l < F2 136 3 ∧ chlC (F2 141) (F2 136 3) l = 0) ∧ 0 ≤ k then (if k < F2 137 (135 + l) then F2 137 (147 + 3 * (l * 16 + k) + 1) else -2) else -1)) : r = r' ∧ Gl u v K F2 := by
  obtain ⟨a1, rfl⟩ := h1
  obtain ⟨rfl, a2⟩ := h2
  refine ⟨?_, h.z⟩
  simp (disch := omega) only [up_i, up_k, up_r, vw_z] at a2
  rw [a1, a2]
  refine ite_iff ?_ (fun z => ?_)
  · exact ⟨fun z => ⟨(h.lf l).mp ⟨z.1, z.2.1, z.2.2.1⟩, z.2.2.2⟩, fun z => have y := (h.lf l).mpr z.1; ⟨y.1, y.2.1, y.2.2, z.2⟩⟩
  · refine ite_iff (by rw [(h.S z.1 z.2.1).2.2.2.2.2.2]) (fun y => ?_)
    exact (h.Q z.1 z.2.1 z.2.2.2 y).2.1
theorem g_ageAt {u v K r r' l k : Int} {F F1 F2 : Hp} (h : Gl u v K F) (h1 : r = (if 0 ≤ l ∧ l < F u 0 ∧ F (u + 4) l = 0 ∧ 0 ≤ k then (if k < F (40 + 9) l then F 40 1 - F (40 + 12) (l * 16 + k) else -2) else -1) ∧ F1 = F) (h2 : F2 = up F1 136 0 0 ∧ r' = (if (0 ≤ l ∧ l < F2 136 3 ∧ chlC (F2 141) (F2 136 3) l = 0) ∧ 0 ≤ k then (if k < F2 137 (135 + l) then (F2 137 0 - F2 137 (147 + 3 * (l * 16 + k) + 2)) else -2) else -1)) : r = r' ∧ Gl u v K F2 := by
  obtain ⟨a1, rfl⟩ := h1
  obtain ⟨rfl, a2⟩ := h2
  refine ⟨?_, h.z⟩
  simp (disch := omega) only [up_i, up_k, up_r, vw_z] at a2
  rw [a1, a2]
  refine ite_iff ?_ (fun z => ?_)
  · exact ⟨fun z => ⟨(h.lf l).mp ⟨z.1, z.2.1, z.2.2.1⟩, z.2.2.2⟩, fun z => have y := (h.lf l).mpr z.1; ⟨y.1, y.2.1, y.2.2, z.2⟩⟩
  · refine ite_iff (by rw [(h.S z.1 z.2.1).2.2.2.2.2.2]) (fun y => ?_)
    rw [(h.Q z.1 z.2.1 z.2.2.2 y).2.2, h.T.1]
theorem g_loggedLeaf {u v K r r' k : Int} {F F1 F2 : Hp} (h : Gl u v K F) (h1 : r = (if k < 0 then -1 else if k < F (40 + 19) 0 then F (40 + 20) k else -2) ∧ F1 = F) (h2 : F2 = up F1 136 0 0 ∧ r' = (if k < 0 then -1 else if k < F2 137 2 then F2 137 (723 + 4 * k + 0) else -2)) : r = r' ∧ Gl u v K F2 := by
  obtain ⟨a1, rfl⟩ := h1
  obtain ⟨rfl, a2⟩ := h2
  refine ⟨?_, h.z⟩
  simp (disch := omega) only [up_i, up_k, up_r, vw_z] at a2
  rw [a1, a2]
  by_cases q : k < 0
  · rw [if_pos q, if_pos q]
  · rw [if_neg q, if_neg q]
    exact ite_iff (by rw [h.T.2.2]) (fun z => (h.L (by omega) z).1)
theorem g_loggedCost {u v K r r' k : Int} {F F1 F2 : Hp} (h : Gl u v K F) (h1 : r = (if k < 0 then -1 else if k < F (40 + 19) 0 then F (40 + 21) k else -2) ∧ F1 = F) (h2 : F2 = up F1 136 0 0 ∧ r' = (if k < 0 then -1 else if k < F2 137 2 then F2 137 (723 + 4 * k + 1) else -2)) : r = r' ∧ Gl u v K F2 := by
  obtain ⟨a1, rfl⟩ := h1
  obtain ⟨rfl, a2⟩ := h2
  refine ⟨?_, h.z⟩
  simp (disch := omega) only [up_i, up_k, up_r, vw_z] at a2
  rw [a1, a2]
  by_cases q : k < 0
  · rw [if_pos q, if_pos q]
  · rw [if_neg q, if_neg q]
    exact ite_iff (by rw [h.T.2.2]) (fun z => (h.L (by omega) z).2.1)
theorem g_loggedLender {u v K r r' k : Int} {F F1 F2 : Hp} (h : Gl u v K F) (h1 : r = (if k < 0 then -1 else if k < F (40 + 19) 0 then F (40 + 22) k else -2) ∧ F1 = F) (h2 : F2 = up F1 136 0 0 ∧ r' = (if k < 0 then -1 else if k < F2 137 2 then F2 137 (723 + 4 * k + 2) else -2)) : r = r' ∧ Gl u v K F2 := by
  obtain ⟨a1, rfl⟩ := h1
  obtain ⟨rfl, a2⟩ := h2
  refine ⟨?_, h.z⟩
  simp (disch := omega) only [up_i, up_k, up_r, vw_z] at a2
  rw [a1, a2]
  by_cases q : k < 0
  · rw [if_pos q, if_pos q]
  · rw [if_neg q, if_neg q]
    exact ite_iff (by rw [h.T.2.2]) (fun z => (h.L (by omega) z).2.2.1)
theorem g_loggedTime {u v K r r' k : Int} {F F1 F2 : Hp} (h : Gl u v K F) (h1 : r = (if k < 0 then -1 else if k < F (40 + 19) 0 then F (40 + 23) k else -2) ∧ F1 = F) (h2 : F2 = up F1 136 0 0 ∧ r' = (if k < 0 then -1 else if k < F2 137 2 then F2 137 (723 + 4 * k + 3) else -2)) : r = r' ∧ Gl u v K F2 := by
  obtain ⟨a1, rfl⟩ := h1
  obtain ⟨rfl, a2⟩ := h2
  refine ⟨?_, h.z⟩
  simp (disch := omega) only [up_i, up_k, up_r, vw_z] at a2
  rw [a1, a2]
  by_cases q : k < 0
  · rw [if_pos q, if_pos q]
  · rw [if_neg q, if_neg q]
    exact ite_iff (by rw [h.T.2.2]) (fun z => (h.L (by omega) z).2.2.2)

