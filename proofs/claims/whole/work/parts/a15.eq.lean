/-! congruences -/
theorem chS_cong {par par' : Int → Int} {node N : Int} (hp : ∀ n : Int, 0 ≤ n → n < N → par n = par' n) : ∀ (q : Nat) (i k : Int), 0 ≤ i → chS par node N k q i = chS par' node N k q i
  | 0, i, k, _ => rfl
  | q + 1, i, k, h0 => by
    unfold chS
    by_cases z : N ≤ i
    · rw [if_pos z, if_pos z]
    · rw [if_neg z, if_neg z, hp i h0 (by omega), chS_cong hp q (i + 1) (k - 1) (by omega), chS_cong hp q (i + 1) k (by omega)]
theorem chS_fu {par : Int → Int} {node N : Int} : ∀ (q q' : Nat) (i k : Int), N - i ≤ q → N - i ≤ q' → chS par node N k q i = chS par node N k q' i
  | 0, q', i, k, h, _ => by rw [chS_end (by omega), chS_end (by omega)]
  | q + 1, 0, i, k, _, h => by rw [chS_end (by omega), chS_end (by omega)]
  | q + 1, q' + 1, i, k, h, h' => by
    unfold chS
    by_cases z : N ≤ i
    · rw [if_pos z, if_pos z]
    · rw [if_neg z, if_neg z, chS_fu q q' (i + 1) (k - 1) (by omega) (by omega), chS_fu q q' (i + 1) k (by omega) (by omega)]
theorem chS_to {par : Int → Int} {d N : Int} (hT : Tr N par) (hd : d < N) : ∀ (m : Nat) (i k : Int) (q : Nat), i + m = d + 1 → 0 ≤ i → N - i ≤ q → chS par d N k q i = chS par d N k q (d + 1)
  | 0, i, k, q, h, _, _ => by rw [show i = d + 1 by omega]
  | m + 1, i, k, q, h, h0, hq => by
    have ht := hT i h0 (by omega)
    rw [chS_skip hq (by omega) (by omega), chS_to hT hd m (i + 1) k (q - 1) (by omega) (by omega) (by omega)]
    exact chS_fu (q - 1) q (d + 1) k (by omega) (by omega)
theorem lcS_cong {ce ce' par par' : Int → Int} {N : Int} (hT : Tr N par) (h1 : ∀ n, 0 ≤ n → n < N → ce n = ce' n) (h2 : ∀ n, 0 ≤ n → n < N → par n = par' n) : ∀ (k : Nat) (n a : Int), n < N → lcS ce par k n a = lcS ce' par' k n a
  | 0, _, _, _ => rfl
  | k + 1, n, a, h => by
    unfold lcS
    by_cases z : n < 0
    · rw [if_pos z, if_pos z]
    · have t := hT n (by omega) h
      rw [if_neg z, if_neg z, h1 n (by omega) h, ← h2 n (by omega) h, lcS_cong hT h1 h2 k (par n) _ (by omega)]
theorem Ag.ms {b c u w : Int} {F G : Hp} (h : ∀ n : Int, 0 ≤ n → n < F u 0 → (F (u + 4) n = 0 ↔ G (w + 4) n = 0) ∧ F (b + 14) n = G (c + 14) n ∧ F (b + 3) n = G (c + 3) n) : ∀ k : Nat, (k : Int) ≤ F u 0 → msS b u F k = msS c w G k
  | 0, _ => rfl
  | k + 1, hk => by
    have ih := Ag.ms h k (by omega)
    have a := h k (by omega) (by omega)
    have hr := msS_rng (b := b) (u := u) (F := F) k
    unfold msS
    rw [← ih]
    by_cases z : msS b u F k = -2
    · by_cases y : F (u + 4) k = 0
      · rw [if_pos ⟨y, Or.inl z⟩, if_pos ⟨a.1.mp y, Or.inl z⟩]
      · rw [if_neg (fun x => y x.1), if_neg (fun x => y (a.1.mpr x.1))]
    · have a2 := h (msS b u F k) (by omega) (by omega)
      rw [← a.2.1, ← a.2.2, ← a2.2.1, ← a2.2.2]
      by_cases y : F (u + 4) k = 0
      · by_cases x : F (b + 14) (msS b u F k) * F (b + 3) k < F (b + 14) k * F (b + 3) (msS b u F k)
        · rw [if_pos ⟨y, Or.inr x⟩, if_pos ⟨a.1.mp y, Or.inr x⟩]
        · rw [if_neg (fun t => t.2.elim z x), if_neg (fun t => t.2.elim z x)]
      · rw [if_neg (fun x => y x.1), if_neg (fun x => y (a.1.mpr x.1))]
theorem sumN_le {f g : Int → Int} : ∀ (n : Nat), (∀ k : Int, 0 ≤ k → k < n → f k ≤ g k) → sumN f n ≤ sumN g n
  | 0, _ => Int.le_refl _
  | n + 1, h => by
    have a := sumN_le n (fun k h0 h1 => h k h0 (by omega))
    have b := h n (by omega) (by omega)
    unfold sumN
    omega
theorem maxN_le {f : Int → Int} {m : Int} (hm : 0 ≤ m) : ∀ (n : Nat), (∀ k : Int, 0 ≤ k → k < n → f k ≤ m) → maxN f n ≤ m
  | 0, _ => hm
  | n + 1, h => by
    have a := maxN_le hm n (fun k h0 h1 => h k h0 (by omega))
    have b := h n (by omega) (by omega)
    unfold maxN
    omega
theorem maxN_ge {f : Int → Int} : ∀ (n : Nat), 0 ≤ maxN f n ∧ ∀ k : Int, 0 ≤ k → k < n → f k ≤ maxN f n
  | 0 => ⟨Int.le_refl _, fun k h0 h1 => by omega⟩
  | n + 1 => by
    have a := maxN_ge (f := f) n
    unfold maxN
    refine ⟨by omega, fun k h0 h1 => ?_⟩
    by_cases q : k = n
    · subst q; omega
    · have := a.2 k h0 (by omega)
      omega
/-- the least of those that satisfy P -/
theorem least {t : Int → Int} {P : Int → Prop} : ∀ (n : Nat), (∃ k : Int, 0 ≤ k ∧ k < n ∧ P k) → ∃ k : Int, (0 ≤ k ∧ k < n ∧ P k) ∧ ∀ j : Int, 0 ≤ j → j < n → P j → t k ≤ t j
  | 0, ⟨k, h0, h1, _⟩ => by omega
  | n + 1, h => by
    by_cases q : ∃ k : Int, 0 ≤ k ∧ k < n ∧ P k
    · obtain ⟨k, ⟨h0, h1, h2⟩, h3⟩ := least (t := t) n q
      by_cases z : P n ∧ t n < t k
      · refine ⟨n, ⟨by omega, by omega, z.1⟩, fun j j0 j1 j2 => ?_⟩
        by_cases y : j = n
        · rw [y]; exact Int.le_refl _
        · have := h3 j j0 (by omega) j2
          omega
      · refine ⟨k, ⟨h0, by omega, h2⟩, fun j j0 j1 j2 => ?_⟩
        by_cases y : j = n
        · subst y
          have : ¬ t n < t k := fun x => z ⟨j2, x⟩
          omega
        · exact h3 j j0 (by omega) j2
    · obtain ⟨k, h0, h1, h2⟩ := h
      refine ⟨k, ⟨h0, h1, h2⟩, fun j j0 j1 j2 => ?_⟩
      have e : k = n := by
        by_cases y : k = n
        · exact y
        · exact absurd ⟨k, h0, by omega, h2⟩ q
      have e2 : j = n := by
        by_cases y : j = n
        · exact y
        · exact absurd ⟨j, j0, by omega, j2⟩ q
      rw [e, e2]
      exact Int.le_refl _
/-- windows that end at a log's time, windows that begin at one: the same greatest sum -/
theorem maxN_win {t c : Int → Int} {w : Int} (hw : 1 ≤ w) {n : Nat} (hc : ∀ j : Int, 0 ≤ j → j < n → 0 ≤ c j) : maxN (fun k => sumN (fun j => if 0 ≤ t k - t j ∧ t k - t j < w then c j else 0) n) n = maxN (fun k => sumN (fun j => if t k ≤ t j ∧ t j ≤ t k + w - 1 then c j else 0) n) n := by
  have a := maxN_ge (f := fun k => sumN (fun j => if 0 ≤ t k - t j ∧ t k - t j < w then c j else 0) n) n
  have b := maxN_ge (f := fun k => sumN (fun j => if t k ≤ t j ∧ t j ≤ t k + w - 1 then c j else 0) n) n
  refine Int.le_antisymm ?_ ?_
  · refine maxN_le b.1 n (fun k h0 h1 => ?_)
    obtain ⟨m, ⟨m0, m1, m2⟩, m3⟩ := least (t := t) (P := fun j => 0 ≤ t k - t j ∧ t k - t j < w) n ⟨k, h0, h1, by omega, by omega⟩
    refine Int.le_trans (sumN_le n (fun j j0 j1 => ?_)) (b.2 m m0 m1)
    have hj := hc j j0 j1
    by_cases q : 0 ≤ t k - t j ∧ t k - t j < w
    · have := m3 j j0 j1 q
      rw [if_pos q, if_pos (by omega)]
      exact Int.le_refl _
    · rw [if_neg q]
      split <;> omega
  · refine maxN_le a.1 n (fun k h0 h1 => ?_)
    obtain ⟨m, ⟨m0, m1, m2⟩, m3⟩ := least (t := fun j => - t j) (P := fun j => t k ≤ t j ∧ t j ≤ t k + w - 1) n ⟨k, h0, h1, by omega, by omega⟩
    refine Int.le_trans (sumN_le n (fun j j0 j1 => ?_)) (a.2 m m0 m1)
    have hj := hc j j0 j1
    by_cases q : t k ≤ t j ∧ t j ≤ t k + w - 1
    · have := m3 j j0 j1 q
      rw [if_pos q, if_pos (by omega)]
      exact Int.le_refl _
    · rw [if_neg q]
      split <;> omega
theorem Gl.blk {u v K l c : Int} {F : Hp} (h : Gl u v K F) (hl : l < F u 0) : blkS (F (40 + 7)) (F (u + 2)) c 13 l = blkS (vw 0 F 1007) (F 141) c 13 l := blkS_cong h.sta.1.2.1 (fun n h0 h1 => (h.2.2.2.1.2.2.2.1 n h0 h1).2.2.2.2.2.1) (fun n h0 h1 => (h.U h0 h1).1) 13 l hl
theorem Gl.lnd {u v K l c : Int} {F : Hp} (h : Gl u v K F) (hl : l < F u 0) : lndS 40 u F l c = lndS 1000 1100 (vw 0 F) l c := Ag.lnd h.2.2.1 h.2.2.2.1 h.sta.1.2.1 hl
theorem Gl.fx {u v K : Int} {F : Hp} (h : Gl u v K F) {n : Int} (h0 : 0 ≤ n) (h1 : n < F u 0) : (F (u + 4) n = 0 ↔ vw 0 F (1100 + 4) n = 0) ∧ F (40 + 14) n = vw 0 F (1000 + 14) n ∧ F (40 + 3) n = vw 0 F (1000 + 3) n := ⟨(h.2.2.1.2.2.2.2.1 n h0 h1).2.2.1, (h.2.2.2.1.2.2.2.2.1 n h0 h1).1, (h.2.2.2.1.2.2.2.1 n h0 h1).2.2.1⟩
theorem ite_b {p q : Prop} [Decidable p] [Decidable q] {a b x y : Int} (h : p ↔ q) (e : a = b) (f : x = y) : (if p then a else x) = (if q then b else y) := by
  rw [e, f]
  exact ite_iff h (fun _ => rfl)
theorem Gl.frs {u v K : Int} {F : Hp} (h : Gl u v K F) : (∀ n : Int, 0 ≤ n → n < F u 0 → fxS 40 u F n = fxS 1000 1100 (vw 0 F) n) ∧ (∀ n : Int, 0 ≤ n → n < F u 0 → lvS u F n = lvS 1100 (vw 0 F) n) ∧ (∀ n : Int, 0 ≤ n → n < F u 0 → sxS 40 u F n = sxS 1000 1100 (vw 0 F) n) ∧ (∀ n : Int, 0 ≤ n → n < F u 0 → swS 40 u F n = swS 1000 1100 (vw 0 F) n) := by
  refine ⟨fun n h0 h1 => ?_, fun n h0 h1 => ?_, fun n h0 h1 => ?_, fun n h0 h1 => ?_⟩ <;> have a := h.fx h0 h1
  · exact ite_b a.1 (by rw [a.2.1, a.2.2]) rfl
  · exact ite_b a.1 rfl rfl
  · exact ite_b a.1 a.2.1 rfl
  · exact ite_b a.1 a.2.2 rfl
theorem g_lender {u v K r r' l c : Int} {F F1 F2 : Hp} (h : Gl u v K F) (h1 : r = (if 0 ≤ l ∧ l < F u 0 ∧ F (u + 4) l = 0 ∧ 1 ≤ c ∧ c ≤ 99 then lndS 40 u F l c else -1) ∧ F1 = F) (h2 : F2 = up F1 136 0 0 ∧ r' = (if 0 ≤ l ∧ l < F2 136 3 ∧ chlC (F2 141) (F2 136 3) l = 0 ∧ 1 ≤ c ∧ c ≤ 99 then lndS 1000 1100 (vw 0 F2) l c else -1)) : r = r' ∧ Gl u v K F2 := by
  obtain ⟨a1, rfl⟩ := h1
  obtain ⟨rfl, a2⟩ := h2
  refine ⟨?_, h.z⟩
  simp (disch := omega) only [up_i, up_k, up_r, vw_z] at a2
  rw [a1, a2]
  exact ite_iff (h.aq l c) (fun z => h.lnd z.2.1)
theorem g_blockingNode {u v K r r' l c : Int} {F F1 F2 : Hp} (h : Gl u v K F) (h1 : r = (if 0 ≤ l ∧ l < F u 0 ∧ F (u + 4) l = 0 ∧ 1 ≤ c ∧ c ≤ 99 then blkS (F (40 + 7)) (F (u + 2)) c 13 l else -1) ∧ F1 = F) (h2 : F2 = up F1 136 0 0 ∧ r' = (if 0 ≤ l ∧ l < F2 136 3 ∧ chlC (F2 141) (F2 136 3) l = 0 ∧ 1 ≤ c ∧ c ≤ 99 then blkS (vw 0 F2 1007) (F2 141) c 13 l else -1)) : r = r' ∧ Gl u v K F2 := by
  obtain ⟨a1, rfl⟩ := h1
  obtain ⟨rfl, a2⟩ := h2
  refine ⟨?_, h.z⟩
  simp (disch := omega) only [up_i, up_k, up_r, vw_z] at a2
  rw [a1, a2]
  exact ite_iff (h.aq l c) (fun z => h.blk z.2.1)
theorem g_refusal {u v K r r' l c : Int} {F F1 F2 : Hp} (h : Gl u v K F) (h1 : r = (if 0 ≤ l ∧ l < F u 0 ∧ F (u + 4) l = 0 ∧ 1 ≤ c ∧ c ≤ 99 then (if blkS (F (40 + 7)) (F (u + 2)) c 13 l ≠ -2 then 1 else if lndS 40 u F l c = -2 then 2 else 0) else -1) ∧ F1 = F) (h2 : F2 = up F1 136 0 0 ∧ r' = (if 0 ≤ l ∧ l < F2 136 3 ∧ chlC (F2 141) (F2 136 3) l = 0 ∧ 1 ≤ c ∧ c ≤ 99 then (if blkS (vw 0 F2 1007) (F2 141) c 13 l ≠ -2 then 1 else if lndS 1000 1100 (vw 0 F2) l c = -2 then 2 else 0) else -1)) : r = r' ∧ Gl u v K F2 := by
  obtain ⟨a1, rfl⟩ := h1
  obtain ⟨rfl, a2⟩ := h2
  refine ⟨?_, h.z⟩
  simp (disch := omega) only [up_i, up_k, up_r, vw_z] at a2
  rw [a1, a2]
  exact ite_iff (h.aq l c) (fun z => by rw [h.blk z.2.1, h.lnd z.2.1])
theorem g_nextLeaf {u v K r r'  : Int} {F F1 F2 : Hp} (h : Gl u v K F) (h1 : r = chlS 40 u F ∧ F1 = F) (h2 : F2 = up F1 136 0 0 ∧ r' = chlS 1000 1100 (vw 0 F2)) : r = r' ∧ Gl u v K F2 := by
  obtain ⟨a1, rfl⟩ := h1
  obtain ⟨rfl, a2⟩ := h2
  refine ⟨?_, h.z⟩
  simp (disch := omega) only [up_i, up_k, up_r, vw_z] at a2
  rw [a1, a2]
  exact Ag.chl h.2.2.1 h.2.2.2.1 h.sta.1 h.sta.2.2.1
theorem g_greatestCost {u v K r r' l : Int} {F F1 F2 : Hp} (h : Gl u v K F) (h1 : r = (if 0 ≤ l ∧ l < F u 0 ∧ F (u + 4) l = 0 then gcS (fun c => lndS 40 u F l c) 99 else -1) ∧ F1 = F) (h2 : F2 = up F1 136 0 0 ∧ r' = (if 0 ≤ l ∧ l < F2 136 3 ∧ chlC (F2 141) (F2 136 3) l = 0 then gcS (fun c => lndS 1000 1100 (vw 0 F2) l c) 99 else -1)) : r = r' ∧ Gl u v K F2 := by
  obtain ⟨a1, rfl⟩ := h1
  obtain ⟨rfl, a2⟩ := h2
  refine ⟨?_, h.z⟩
  simp (disch := omega) only [up_i, up_k, up_r, vw_z] at a2
  rw [a1, a2]
  exact ite_iff (h.lf l) (fun z => by rw [show (fun c => lndS 40 u F1 l c) = (fun c => lndS 1000 1100 (vw 0 F1) l c) from funext (fun c => h.lnd z.2.1)])
theorem g_queuedCost {u v K r r' l : Int} {F F1 F2 : Hp} (h : Gl u v K F) (h1 : r = (if 0 ≤ l ∧ l < F u 0 ∧ F (u + 4) l = 0 then sumN (fun k => F (40 + 11) (l * 16 + k)) (F (40 + 9) l).toNat else -1) ∧ F1 = F) (h2 : F2 = up F1 136 0 0 ∧ r' = (if 0 ≤ l ∧ l < F2 136 3 ∧ chlC (F2 141) (F2 136 3) l = 0 then sumN (fun k => F2 137 (147 + 3 * (l * 16 + k) + 1)) (F2 137 (135 + l)).toNat else -1)) : r = r' ∧ Gl u v K F2 := by
  obtain ⟨a1, rfl⟩ := h1
  obtain ⟨rfl, a2⟩ := h2
  refine ⟨?_, h.z⟩
  simp (disch := omega) only [up_i, up_k, up_r, vw_z] at a2
  rw [a1, a2]
  exact ite_iff (h.lf l) (fun z => by
    rw [← (h.S z.1 z.2.1).2.2.2.2.2.2]
    exact sumN_cong _ (fun k k0 k1 => (h.Q z.1 z.2.1 k0 (by omega)).2.1))
theorem g_child {u v K r r' n i : Int} {F F1 F2 : Hp} (h : Gl u v K F) (h1 : r = (if 0 ≤ n ∧ n < F u 0 ∧ 0 ≤ i then chS (F (u + 2)) n (F u 0) i 12 (n + 1) else -1) ∧ F1 = F) (h2 : F2 = up F1 136 0 0 ∧ r' = (if (0 ≤ n ∧ n < F2 136 3) ∧ 0 ≤ i then chS (F2 141) n (F2 136 3) i 12 1 else -1)) : r = r' ∧ Gl u v K F2 := by
  obtain ⟨a1, rfl⟩ := h1
  obtain ⟨rfl, a2⟩ := h2
  refine ⟨?_, h.z⟩
  simp (disch := omega) only [up_i, up_k, up_r, vw_z] at a2
  rw [a1, a2]
  refine ite_iff (by rw [h.N]; exact ⟨fun z => ⟨⟨z.1, z.2.1⟩, z.2.2⟩, fun z => ⟨z.1.1, z.1.2, z.2⟩⟩) (fun z => ?_)
  have hN := h.N12
  rw [← h.N, chS_cong (fun m m0 m1 => (h.U m0 m1).1) 12 (n + 1) i (by omega)]
  have hT : Tr (F1 u 0) (F1 141) := fun m m0 m1 => by rw [← (h.U m0 m1).1]; exact h.sta.1.2.1 m m0 m1
  exact (chS_to hT z.2.1 n.toNat 1 i 12 (by omega) (by decide) (by omega)).symm
theorem g_isOversubscribed {u v K r r' n : Int} {F F1 F2 : Hp} (h : Gl u v K F) (h1 : (((r = 1 ∧ (0 ≤ n ∧ n < F u 0 ∧ F (40 + 1) n < sumN (fun c => if F (u + 2) c = n then F (40 + 1) c else 0) (F u 0).toNat)) ∨ (r = 0 ∧ ¬ (0 ≤ n ∧ n < F u 0 ∧ F (40 + 1) n < sumN (fun c => if F (u + 2) c = n then F (40 + 1) c else 0) (F u 0).toNat)))) ∧ F1 = F) (h2 : F2 = up F1 136 0 0 ∧ (((r' = 1 ∧ (0 ≤ n ∧ n < F2 136 3 ∧ F2 137 (99 + n) < sumN (fun c => if F2 141 c = n then F2 137 (99 + c) else 0) (F2 136 3).toNat)) ∨ (r' = 0 ∧ ¬ (0 ≤ n ∧ n < F2 136 3 ∧ F2 137 (99 + n) < sumN (fun c => if F2 141 c = n then F2 137 (99 + c) else 0) (F2 136 3).toNat))))) : r = r' ∧ Gl u v K F2 := by
  obtain ⟨a1, rfl⟩ := h1
  obtain ⟨rfl, a2⟩ := h2
  refine ⟨?_, h.z⟩
  simp (disch := omega) only [up_i, up_k, up_r, vw_z] at a2
  refine bool_iff ?_ a1 a2
  exact by
    have e : sumN (fun c => if F1 (u + 2) c = n then F1 (40 + 1) c else 0) (F1 u 0).toNat = sumN (fun c => if F1 141 c = n then F1 137 (99 + c) else 0) (F1 u 0).toNat := sumN_cong _ (fun k k0 k1 => by rw [(h.U k0 (by omega)).1, (h.S k0 (by omega)).1])
    rw [e, ← h.N]
    exact ⟨fun z => ⟨z.1, z.2.1, by rw [← (h.S z.1 z.2.1).1]; exact z.2.2⟩, fun z => ⟨z.1, z.2.1, by rw [(h.S z.1 z.2.1).1]; exact z.2.2⟩⟩
theorem g_pathCeiling {u v K r r' n : Int} {F F1 F2 : Hp} (h : Gl u v K F) (h1 : r = (if 0 ≤ n ∧ n < F u 0 then lcS (F (40 + 2)) (F (u + 2)) 13 n 999 else -1) ∧ F1 = F) (h2 : F2 = up F1 136 0 0 ∧ r' = (if 0 ≤ n ∧ n < F2 136 3 then lcS (fun i => F2 137 (111 + i)) (F2 141) 13 n 999 else -1)) : r = r' ∧ Gl u v K F2 := by
  obtain ⟨a1, rfl⟩ := h1
  obtain ⟨rfl, a2⟩ := h2
  refine ⟨?_, h.z⟩
  simp (disch := omega) only [up_i, up_k, up_r, vw_z] at a2
  rw [a1, a2]
  exact ite_iff (h.nd n) (fun z => lcS_cong h.sta.1.2.1 (fun m m0 m1 => (h.S m0 m1).2.1) (fun m m0 m1 => (h.U m0 m1).1) 13 n 999 z.2)
theorem g_mostServed {u v K r r'  : Int} {F F1 F2 : Hp} (h : Gl u v K F) (h1 : r = msS 40 u F (F u 0).toNat ∧ F1 = F) (h2 : F2 = up F1 136 0 0 ∧ r' = msS 1000 1100 (vw 0 F2) (F2 136 3).toNat) : r = r' ∧ Gl u v K F2 := by
  obtain ⟨a1, rfl⟩ := h1
  obtain ⟨rfl, a2⟩ := h2
  refine ⟨?_, h.z⟩
  simp (disch := omega) only [up_i, up_k, up_r, vw_z] at a2
  rw [a1, a2]
  rw [← h.N]
  have hN := h.N12
  exact Ag.ms (fun m m0 m1 => h.fx m0 m1) _ (by omega)
theorem g_fairness {u v K r r'  : Int} {F F1 F2 : Hp} (h : Gl u v K F) (h1 : r = (if F u 0 = 0 then -1 else frS 40 u F) ∧ F1 = F) (h2 : F2 = up F1 136 0 0 ∧ r' = (if F2 136 3 = 0 then -1 else frS 1000 1100 (vw 0 F2))) : r = r' ∧ Gl u v K F2 := by
  obtain ⟨a1, rfl⟩ := h1
  obtain ⟨rfl, a2⟩ := h2
  refine ⟨?_, h.z⟩
  simp (disch := omega) only [up_i, up_k, up_r, vw_z] at a2
  rw [a1, a2]
  have hN := h.N12
  obtain ⟨f1, f2, -⟩ := h.frs
  have e : frS 40 u F1 = frS 1000 1100 (vw 0 F1) := by
    unfold frS
    rw [vw_1100_0, ← h.N, sumN_cong (f := fxS 40 u F1) (g := fxS 1000 1100 (vw 0 F1)) (F1 u 0).toNat (fun k k0 k1 => f1 k k0 (by omega)), sumN_cong (f := lvS u F1) (g := lvS 1100 (vw 0 F1)) (F1 u 0).toNat (fun k k0 k1 => f2 k k0 (by omega)), sumN_cong (f := fun n => fxS 40 u F1 n * fxS 40 u F1 n) (g := fun n => fxS 1000 1100 (vw 0 F1) n * fxS 1000 1100 (vw 0 F1) n) (F1 u 0).toNat (fun k k0 k1 => by rw [f1 k k0 (by omega)])]
  rw [e, h.N]
theorem g_fairShare {u v K r r' l : Int} {F F1 F2 : Hp} (h : Gl u v K F) (h1 : r = (if 0 ≤ l ∧ l < F u 0 ∧ F (u + 4) l = 0 then fsS 40 u F l else -1) ∧ F1 = F) (h2 : F2 = up F1 136 0 0 ∧ r' = (if 0 ≤ l ∧ l < F2 136 3 ∧ chlC (F2 141) (F2 136 3) l = 0 then fsS 1000 1100 (vw 0 F2) l else -1)) : r = r' ∧ Gl u v K F2 := by
  obtain ⟨a1, rfl⟩ := h1
  obtain ⟨rfl, a2⟩ := h2
  refine ⟨?_, h.z⟩
  simp (disch := omega) only [up_i, up_k, up_r, vw_z] at a2
  rw [a1, a2]
  have hN := h.N12
  obtain ⟨-, -, f1, f2⟩ := h.frs
  refine ite_iff (h.lf l) (fun z => ?_)
  unfold fsS
  rw [vw_1100_0, ← h.N, sumN_cong (f := sxS 40 u F1) (g := sxS 1000 1100 (vw 0 F1)) (F1 u 0).toNat (fun k k0 k1 => f1 k k0 (by omega)), sumN_cong (f := swS 40 u F1) (g := swS 1000 1100 (vw 0 F1)) (F1 u 0).toNat (fun k k0 k1 => f2 k k0 (by omega)), (h.fx z.1 z.2.1).2.2]
theorem g_recentCost {u v K r r' w : Int} {F F1 F2 : Hp} (h : Gl u v K F) (h1 : r = (if w < 1 then -1 else sumN (fun k => if 0 ≤ F 40 1 - F (40 + 23) k ∧ F 40 1 - F (40 + 23) k < w then F (40 + 21) k else 0) (F (40 + 19) 0).toNat) ∧ F1 = F) (h2 : F2 = up F1 136 0 0 ∧ r' = (if w < 1 then -1 else sumN (fun k => if F2 137 0 - w + 1 ≤ F2 137 (723 + 4 * k + 3) ∧ F2 137 (723 + 4 * k + 3) ≤ 5000 then F2 137 (723 + 4 * k + 1) else 0) (F2 137 2).toNat)) : r = r' ∧ Gl u v K F2 := by
  obtain ⟨a1, rfl⟩ := h1
  obtain ⟨rfl, a2⟩ := h2
  refine ⟨?_, h.z⟩
  simp (disch := omega) only [up_i, up_k, up_r, vw_z] at a2
  rw [a1, a2]
  have hl := h.sta.2.2.2.1
  have ht := h.sta.2.2.1.1
  refine ite_b Iff.rfl rfl ?_
  rw [← h.T.1, ← h.T.2.2]
  refine sumN_cong _ (fun k k0 k1 => ?_)
  have a := h.L k0 (by omega)
  have b := hl.2 k k0 (by omega)
  rw [← a.2.2.2, ← a.2.1]
  refine ite_b ?_ rfl rfl
  omega
theorem g_busiestCost {u v K r r' w : Int} {F F1 F2 : Hp} (h : Gl u v K F) (h1 : r = (if w < 1 then -1 else maxN (fun k => sumN (fun j => if 0 ≤ F (40 + 23) k - F (40 + 23) j ∧ F (40 + 23) k - F (40 + 23) j < w then F (40 + 21) j else 0) (F (40 + 19) 0).toNat) (F (40 + 19) 0).toNat) ∧ F1 = F) (h2 : F2 = up F1 136 0 0 ∧ r' = (if w < 1 then -1 else maxN (fun k => sumN (fun j => if F2 137 (723 + 4 * k + 3) ≤ F2 137 (723 + 4 * j + 3) ∧ F2 137 (723 + 4 * j + 3) ≤ F2 137 (723 + 4 * k + 3) + w - 1 then F2 137 (723 + 4 * j + 1) else 0) (F2 137 2).toNat) (F2 137 2).toNat)) : r = r' ∧ Gl u v K F2 := by
  obtain ⟨a1, rfl⟩ := h1
  obtain ⟨rfl, a2⟩ := h2
  refine ⟨?_, h.z⟩
  simp (disch := omega) only [up_i, up_k, up_r, vw_z] at a2
  rw [a1, a2]
  have hl := h.sta.2.2.2.1
  by_cases q : w < 1
  · rw [if_pos q, if_pos q]
  · rw [if_neg q, if_neg q, ← h.T.2.2, maxN_win (t := F1 (40 + 23)) (c := F1 (40 + 21)) (by omega) (fun j j0 j1 => (hl.2 j j0 (by omega)).2.1)]
    have key : ∀ (f g : Int → Int) (n : Nat), (∀ k : Int, 0 ≤ k → k < n → f k = g k) → maxN f n = maxN g n := by
      intro f g n
      induction n with
      | zero => exact fun _ => rfl
      | succ n ih =>
        intro hfg
        unfold maxN
        rw [ih (fun k k0 k1 => hfg k k0 (by omega)), hfg n (by omega) (by omega)]
    refine key _ _ _ (fun k k0 k1 => sumN_cong _ (fun j j0 j1 => ?_))
    have a := h.L k0 (by omega)
    have b := h.L j0 (by omega)
    rw [a.2.2.2, b.2.2.2, b.2.1]

