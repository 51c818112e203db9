/-! letters, texts, snapshots -/
theorem nlF_up : ∀ (k : Nat) (w : Int), w < ((32 ^ k : Nat) : Int) → w < ((32 ^ nlF k w : Nat) : Int)
  | 0, w, h => by simpa [nlF] using h
  | k + 1, w, h => by
    by_cases q : w ≤ 0
    · rw [nlF_0 q]
      simp
      omega
    · rw [nlF_st (by omega) (by omega), Nat.add_sub_cancel]
      have ih := nlF_up k (w / 32) (dv_lt h)
      rw [Nat.pow_succ]
      generalize 32 ^ nlF k (w / 32) = z at *
      omega
theorem lt_ld {w i : Int} (h0 : 0 < w) (h1 : w < 1099511627776) (hi : 0 ≤ i) : ltS (cvN w) i = ldS w i := by
  have hL := nlF_le 8 w
  have hu := nlF_up 8 w (by simpa using h1)
  unfold ltS ldS cvN
  generalize nlF 8 w = L at *
  by_cases q : i < 8
  · rw [if_pos q, iand_31]
    obtain ⟨p, rfl⟩ : ∃ p : Nat, i = p := ⟨i.toNat, by omega⟩
    obtain ⟨n, rfl⟩ : ∃ n : Nat, w = n := ⟨w.toNat, by omega⟩
    have hb : n * 32 ^ (8 - L) < 2 ^ 62 := by
      have a : n < 32 ^ L := by omega
      have b : n * 32 ^ (8 - L) < 32 ^ L * 32 ^ (8 - L) := Nat.mul_lt_mul_of_pos_right a (Nat.pow_pos (by decide))
      rw [← Nat.pow_add, show L + (8 - L) = 8 by omega] at b
      omega
    rw [← Int.natCast_mul, lshr_div hb (by omega)]
    by_cases z : (p : Int) < L
    · rw [if_pos z, Int.toNat_natCast]
      have e : 7 - p = (8 - L) + (L - 1 - p) := by omega
      rw [e, Nat.pow_add, Nat.mul_comm n, Nat.mul_div_mul_left _ _ (Nat.pow_pos (by decide))]
      rfl
    · rw [if_neg z]
      have e : 8 - L = (p - L) + 1 + (7 - p) := by omega
      rw [e, Nat.pow_add, ← Nat.mul_assoc, Nat.mul_div_cancel _ (Nat.pow_pos (by decide)), Nat.pow_succ, ← Nat.mul_assoc]
      omega
  · rw [if_neg q, if_neg (by omega)]
/-- the text's cells were changed alike -/
theorem Gl.tx {u v K : Int} {F G : Hp} (h : Gl u v K F) (hc : ∀ a : Int, a < 136 → a ≠ 1 → a ≠ 2 → G a = F a) (h6 : ∀ i : Int, i ≠ 0 → i ≠ 14 → G 136 i = F 136 i) (hr : ∀ a : Int, 136 < a → a ≠ 146 → G a = F a) (ht : TxR G G) : Gl u v K G := by
  have hsta := h.sta
  obtain ⟨⟨⟨g1, g2⟩, g3⟩, g4, g5, g6, g7, g8, g9, g10, g11⟩ := h
  have hu2 : u = 4 ∨ u = 23 := g1
  have e6 : G 136 3 = F 136 3 ∧ G 136 4 = F 136 4 ∧ G 136 5 = F 136 5 ∧ G 136 38 = F 136 38 := ⟨h6 3 (by decide) (by decide), h6 4 (by decide) (by decide), h6 5 (by decide) (by decide), h6 38 (by decide) (by decide)⟩
  have er : ∀ a : Int, a = 139 ∨ (141 ≤ a ∧ a ≤ 145) ∨ (150 ≤ a ∧ a ≤ 153) → G a = F a := fun a z => hr a (by omega) (by omega)
  have ev : ∀ o : Int, vw o G = vw o F := fun o => vw_fr (fun j _ _ => by rw [hr 137 (by decide) (by decide)]) e6 er
  have fr : ∀ b : Int, 40 ≤ b → b + 24 ≤ 136 → StA b u K F → StA b u K G := fun b z1 z2 z => z.fr2 (fun a y1 y2 => hc a (by omega) (by omega) (by omega)) (fun a y1 y2 => hc a (by omega) (by omega) (by omega))
  refine ⟨⟨⟨g1, g2⟩, g3⟩, ?_, g5.fr (fun a z1 z2 => hc a (by omega) (by omega) (by omega)) (fun a z1 z2 => sv_eq z1 e6 er), ?_, ?_, ?_, ht, ?_, ?_⟩
  · obtain ⟨c1, c2, c3, c4, c5, c6, c7, c8, c9, c10⟩ := g4
    unfold CI
    rw [hc 0 (by omega) (by omega) (by omega), hc 3 (by omega) (by omega) (by omega), hc 88 (by omega) (by omega) (by omega), hc 112 (by omega) (by omega) (by omega)]
    refine ⟨c1, c2, fr 40 (by omega) (by omega) c3, c4, by rw [ht.1]; exact ht.2.1, fun i z0 z1 => ?_, c7, c8, fun z => fr 88 (by omega) (by omega) (c9 z), fun z => fr 112 (by omega) (by omega) (c10 z)⟩
    have t := ht.2.2 i z0 (by rw [← ht.1]; exact z1)
    rw [t.1]
    exact sb_rng t.2
  · rw [ev]
    exact g6.frL (hc u (by omega) (by omega) (by omega)) (fun a z1 z2 => hc a (by omega) (by omega) (by omega))
  · unfold Nm at g7 ⊢
    rw [hc u (by omega) (by omega) (by omega), hr 139 (by omega) (by omega), hc (u + 1) (by omega) (by omega) (by omega)]
    exact g7
  · unfold Sn at g8 ⊢
    rw [hr 138 (by omega) (by omega), hc 88 (by omega) (by omega) (by omega), hc 112 (by omega) (by omega) (by omega), ev, ev]
    refine ⟨g8.1, g8.2.1, fun z => ?_, fun z => ?_⟩
    · exact (g8.2.2.1 z).frL (hc u (by omega) (by omega) (by omega)) (fun a z1 z2 => hc a (by omega) (by omega) (by omega))
    · exact (g8.2.2.2 z).frL (hc u (by omega) (by omega) (by omega)) (fun a z1 z2 => hc a (by omega) (by omega) (by omega))
  · rw [hc 3 (by omega) (by omega) (by omega), h6 19 (by decide) (by decide), h6 20 (by decide) (by decide)]
    exact g10
  · unfold PZ at g11 ⊢
    rw [h6 17 (by decide) (by decide), h6 18 (by decide) (by decide), h6 21 (by decide) (by decide), hr 140 (by omega) (by omega), hr 149 (by omega) (by omega)]
    exact ⟨ht.2.1, fun i z0 z1 => (ht.2.2 i z0 z1).2, g11.2.2⟩
def TxP (C G : Hp) : Prop := C 1 1 = G 136 14 ∧ 0 ≤ G 136 14 ∧ ∀ i : Int, 0 ≤ i → i < G 136 14 → C 2 i = sb (G 146 i) ∧ (0 ≤ G 146 i ∧ G 146 i ≤ 255)
theorem tx_ap {x : Int} {C G : Hp} (h : TxP C G) : ∀ k : Nat, TxP (apS x k C) (foS x k G)
  | 0 => h
  | k + 1 => by
    obtain ⟨h1, h2, h3⟩ := tx_ap h (x := x) k
    unfold apS foS
    generalize apS x k C = A at *
    generalize foS x k G = B at *
    unfold TxP
    rw [up_s, up_s, h1]
    refine ⟨rfl, by omega, fun i z0 z1 => ?_⟩
    rw [up_k (show (2 : Int) ≠ 1 by decide), up_k (show (146 : Int) ≠ 136 by decide)]
    by_cases q : i = B 136 14
    · rw [q, up_s, up_s, b8_sb, iand_255]
      exact ⟨rfl, by omega⟩
    · rw [up_i q, up_i q]
      exact h3 i z0 (by omega)
theorem apS_r {x a : Int} (h : a ≠ 1 ∧ a ≠ 2) : ∀ (k : Nat) (F : Hp), apS x k F a = F a
  | 0, F => rfl
  | k + 1, F => by
    unfold apS
    rw [up_r h.1, up_r h.2, apS_r h k F]
theorem g_feed {u v K r r' x1 x2 x3 x4 x5 : Int} {F F1 F2 : Hp} (h : Gl u v K F) (h1 : (880 < F 1 1 ∧ r = -1 ∧ F1 = F) ∨ (F 1 1 ≤ 880 ∧ r = F 1 1 + 20 ∧ F1 = apS x5 4 (apS x4 4 (apS x3 4 (apS x2 4 (apS x1 4 F)))))) (h2 : (880 < F1 136 14 ∧ r' = -1 ∧ F2 = up F1 136 0 0) ∨ (F1 136 14 ≤ 880 ∧ r' = F1 136 14 + 20 ∧ F2 = foS x5 4 (foS x4 4 (foS x3 4 (foS x2 4 (foS x1 4 (up F1 136 0 0))))))) : r = r' ∧ Gl u v K F2 := by
  have hK := h.2.1.2.2.2.1
  have ht : TxR F F := h.2.2.2.2.2.2.1
  have hi : ∀ a : Int, 136 ≤ a → F1 a = F a := fun a z => by
    rcases h1 with ⟨-, -, e⟩ | ⟨-, -, e⟩
    · rw [e]
    · rw [e, apS_r (by omega), apS_r (by omega), apS_r (by omega), apS_r (by omega), apS_r (by omega)]
  have e14 : F1 136 14 = F 136 14 := by rw [hi 136 (by decide)]
  rw [e14, ← ht.1] at h2
  rcases h1 with ⟨n1, a2, a3⟩ | ⟨n1, a2, a3⟩
  · rcases h2 with ⟨m1, b2, b3⟩ | ⟨m1, -⟩
    · exact ⟨a2.trans b2.symm, by rw [b3, a3]; exact h.z⟩
    · omega
  · rcases h2 with ⟨m1, -⟩ | ⟨m1, b2, b3⟩
    · omega
    · refine ⟨by rw [a2, b2], ?_⟩
      have p0 : TxP F (up F1 136 0 0) := ⟨by rw [up_i (by decide), e14]; exact ht.1, by rw [up_i (by decide), e14]; exact ht.2.1.1, fun i z0 z1 => by
        rw [up_i (by decide), e14] at z1
        rw [up_k (by decide), hi 146 (by decide)]
        exact ht.2.2 i z0 z1⟩
      have p5 := tx_ap (x := x5) (tx_ap (x := x4) (tx_ap (x := x3) (tx_ap (x := x2) (tx_ap (x := x1) p0 4) 4) 4) 4) 4
      rw [← a3, ← b3] at p5
      have lo : ∀ a i : Int, a ≠ 146 → (a ≠ 136 ∨ i ≠ 14) → F2 a i = up F1 136 0 0 a i := fun a i z1 z2 => by rw [b3, foS_r z1 z2, foS_r z1 z2, foS_r z1 z2, foS_r z1 z2, foS_r z1 z2]
      have l14 : F2 136 14 = F 1 1 + 20 := by
        rw [b3, foS_len, foS_len, foS_len, foS_len, foS_len, up_i (by decide), e14, ← ht.1]
        omega
      refine h.tx (fun a z1 z2 z3 => ?_) (fun i z1 z2 => ?_) (fun a z1 z2 => ?_) ?_
      · funext i
        rw [lo a i (by omega) (by omega), up_k (by omega), a3, apS_r (by omega), apS_r (by omega), apS_r (by omega), apS_r (by omega), apS_r (by omega)]
      · rw [lo 136 i (by decide) (by omega), up_i z1, hi 136 (by decide)]
      · funext i
        rw [lo a i z2 (by omega), up_k (by omega), hi a (by omega)]
      · have q1 : F2 1 = F1 1 := by funext i; rw [lo 1 i (by decide) (by omega), up_k (by decide)]
        have q2 : F2 2 = F1 2 := by funext i; rw [lo 2 i (by decide) (by omega), up_k (by decide)]
        have hr := ht.2.1
        have h11 := ht.1
        unfold TxR
        rw [q1, q2]
        exact ⟨p5.1, by omega, p5.2.2⟩
theorem g_truncate {u v K r r' x : Int} {F F1 F2 : Hp} (h : Gl u v K F) (h1 : ((x < 0 ∨ F 1 1 < x) ∧ r = -1 ∧ F1 = F) ∨ ((0 ≤ x ∧ x ≤ F 1 1) ∧ r = x ∧ F1 = up F 1 1 x)) (h2 : ((x < 0 ∨ F1 136 14 < x) ∧ r' = -1 ∧ F2 = up F1 136 0 0) ∨ ((0 ≤ x ∧ x ≤ F1 136 14) ∧ r' = x ∧ F2 = up (up F1 136 0 0) 136 14 x)) : r = r' ∧ Gl u v K F2 := by
  have ht : TxR F F := h.2.2.2.2.2.2.1
  have e14 : F1 136 14 = F 136 14 := by
    rcases h1 with ⟨-, -, e⟩ | ⟨-, -, e⟩
    · rw [e]
    · rw [e, up_k (by decide)]
  rw [e14, ← ht.1] at h2
  rcases h1 with ⟨n1, a2, a3⟩ | ⟨n1, a2, a3⟩
  · rcases h2 with ⟨m1, b2, b3⟩ | ⟨m1, -⟩
    · exact ⟨a2.trans b2.symm, by rw [b3, a3]; exact h.z⟩
    · omega
  · rcases h2 with ⟨m1, -⟩ | ⟨m1, b2, b3⟩
    · omega
    · refine ⟨by rw [a2, b2], h.tx (fun a z1 z2 z3 => ?_) (fun i z1 z2 => ?_) (fun a z1 z2 => ?_) ?_⟩
      · rw [b3, up_r (by omega), up_r (by omega), a3, up_r z2]
      · rw [b3, up_i z2, up_i z1, a3, up_k (by decide)]
      · rw [b3, up_r (by omega), up_r (by omega), a3, up_r (by omega)]
      · have hr := ht.2.1
        have h11 := ht.1
        unfold TxR
        rw [b3, up_s, up_r (a := 1) (by decide), up_r (a := 1) (by decide), up_r (a := 2) (by decide), up_r (a := 2) (by decide), up_r (a := 146) (by decide), up_r (a := 146) (by decide), a3, up_s, up_r (a := 2) (by decide), up_r (a := 146) (by decide)]
        exact ⟨rfl, by omega, fun i z0 z1 => ht.2.2 i z0 (by omega)⟩
theorem g_nameLetter {u v K r r' n i : Int} {F F1 F2 : Hp} (h : Gl u v K F) (h1 : r = (if 0 ≤ n ∧ n < F u 0 ∧ 0 ≤ i then ltS (F (u + 1) n) i else -1) ∧ F1 = F) (h2 : F2 = up F1 136 0 0 ∧ r' = (if (0 ≤ n ∧ n < F2 136 3) ∧ 0 ≤ i then ldS (F2 139 n) i else -1)) : r = r' ∧ Gl u v K F2 := by
  obtain ⟨a1, rfl⟩ := h1
  obtain ⟨rfl, a2⟩ := h2
  refine ⟨?_, h.z⟩
  simp (disch := omega) only [up_i, up_k, up_r, vw_z] at a2
  rw [a1, a2]
  refine ite_iff (by rw [h.N]; exact ⟨fun z => ⟨⟨z.1, z.2.1⟩, z.2.2⟩, fun z => ⟨z.1.1, z.1.2, z.2⟩⟩) (fun z => ?_)
  have m := h.2.2.2.2.1 n z.1 z.2.1
  rw [m.2]
  exact lt_ld m.1.1.1 m.1.2 z.2.2

