/-! the law's tree at t: its rows at t + 1 .. t + 16, its list at t + 17, the list's row at t + 19 -/
def trs (t : Int) : List Int := [-1, -1, -1, t + 1, t + 2, t + 3, t + 4, t + 5, t + 6, t + 7, t + 8, t + 9, t + 10, t + 11, t + 12, t + 13, t + 14, t + 15, t + 16, t + 17]
def TrS (T : Shp) (t : Int) : Prop := isO (SH T) t 12 (trs t) ∧ 136 ≤ t ∧ isA (SH T) (t + 1) .int 6 ∧ isA (SH T) (t + 2) .int 6 ∧ isA (SH T) (t + 3) .int 6 ∧ isA (SH T) (t + 4) .int 6 ∧ isA (SH T) (t + 5) .int 6 ∧ isA (SH T) (t + 6) .int 6 ∧ isA (SH T) (t + 7) .int 6 ∧ isA (SH T) (t + 8) .boolean 6 ∧ isA (SH T) (t + 9) .int 6 ∧ isA (SH T) (t + 10) .int 6 ∧ isA (SH T) (t + 11) .int 6 ∧ isA (SH T) (t + 12) .int 6 ∧ isA (SH T) (t + 13) .int 6 ∧ isA (SH T) (t + 14) .int 6 ∧ isA (SH T) (t + 15) .int 6 ∧ isA (SH T) (t + 16) .int 6 ∧ isO (SH T) (t + 17) 15 [] ∧ isA (SH T) (t + 19) (.object "java/lang/Object") 10
theorem TrS.o {T : Shp} {t : Int} (h : TrS T t) : isO (SH T) t 12 (trs t) := h.1
theorem TrS.p {T : Shp} {t : Int} (h : TrS T t) : 136 ≤ t := h.2.1
theorem TrS.a1 {T : Shp} {t : Int} (h : TrS T t) : isA (SH T) (t + 1) .int 6 := h.2.2.1
theorem TrS.a2 {T : Shp} {t : Int} (h : TrS T t) : isA (SH T) (t + 2) .int 6 := h.2.2.2.1
theorem TrS.a3 {T : Shp} {t : Int} (h : TrS T t) : isA (SH T) (t + 3) .int 6 := h.2.2.2.2.1
theorem TrS.a4 {T : Shp} {t : Int} (h : TrS T t) : isA (SH T) (t + 4) .int 6 := h.2.2.2.2.2.1
theorem TrS.a5 {T : Shp} {t : Int} (h : TrS T t) : isA (SH T) (t + 5) .int 6 := h.2.2.2.2.2.2.1
theorem TrS.a6 {T : Shp} {t : Int} (h : TrS T t) : isA (SH T) (t + 6) .int 6 := h.2.2.2.2.2.2.2.1
theorem TrS.a7 {T : Shp} {t : Int} (h : TrS T t) : isA (SH T) (t + 7) .int 6 := h.2.2.2.2.2.2.2.2.1
theorem TrS.a8 {T : Shp} {t : Int} (h : TrS T t) : isA (SH T) (t + 8) .boolean 6 := h.2.2.2.2.2.2.2.2.2.1
theorem TrS.a9 {T : Shp} {t : Int} (h : TrS T t) : isA (SH T) (t + 9) .int 6 := h.2.2.2.2.2.2.2.2.2.2.1
theorem TrS.a10 {T : Shp} {t : Int} (h : TrS T t) : isA (SH T) (t + 10) .int 6 := h.2.2.2.2.2.2.2.2.2.2.2.1
theorem TrS.a11 {T : Shp} {t : Int} (h : TrS T t) : isA (SH T) (t + 11) .int 6 := h.2.2.2.2.2.2.2.2.2.2.2.2.1
theorem TrS.a12 {T : Shp} {t : Int} (h : TrS T t) : isA (SH T) (t + 12) .int 6 := h.2.2.2.2.2.2.2.2.2.2.2.2.2.1
theorem TrS.a13 {T : Shp} {t : Int} (h : TrS T t) : isA (SH T) (t + 13) .int 6 := h.2.2.2.2.2.2.2.2.2.2.2.2.2.2.1
theorem TrS.a14 {T : Shp} {t : Int} (h : TrS T t) : isA (SH T) (t + 14) .int 6 := h.2.2.2.2.2.2.2.2.2.2.2.2.2.2.2.1
theorem TrS.a15 {T : Shp} {t : Int} (h : TrS T t) : isA (SH T) (t + 15) .int 6 := h.2.2.2.2.2.2.2.2.2.2.2.2.2.2.2.2.1
theorem TrS.a16 {T : Shp} {t : Int} (h : TrS T t) : isA (SH T) (t + 16) .int 6 := h.2.2.2.2.2.2.2.2.2.2.2.2.2.2.2.2.2.1
theorem TrS.q {T : Shp} {t : Int} (h : TrS T t) : isO (SH T) (t + 17) 15 [] := h.2.2.2.2.2.2.2.2.2.2.2.2.2.2.2.2.2.2.1
theorem TrS.e {T : Shp} {t : Int} (h : TrS T t) : isA (SH T) (t + 19) (.object "java/lang/Object") 10 := h.2.2.2.2.2.2.2.2.2.2.2.2.2.2.2.2.2.2.2
theorem TrS.up {T g : Shp} {t : Int} (h : TrS T t) : TrS (T ++ g) t := ⟨h.o.up, h.p, h.a1.up, h.a2.up, h.a3.up, h.a4.up, h.a5.up, h.a6.up, h.a7.up, h.a8.up, h.a9.up, h.a10.up, h.a11.up, h.a12.up, h.a13.up, h.a14.up, h.a15.up, h.a16.up, h.q.up, h.e.up⟩
/-- what the tree's numbers keep -/
def TrV (F : Hp) (t : Int) : Prop := (1 ≤ F t 0 ∧ F t 0 ≤ 6) ∧ (0 ≤ F t 1 ∧ F t 1 ≤ 5) ∧ (F t 2 = -1 ∨ (2 ≤ F t 2 ∧ F t 2 ≤ 7)) ∧
  (∀ k : Int, 0 ≤ k → k < F t 0 → (k = 0 → F (t + 1) k = -2) ∧ (1 ≤ k → 0 ≤ F (t + 1) k ∧ F (t + 1) k < k)) ∧
  (∀ k : Int, 0 ≤ k → k < F t 0 → (0 ≤ F (t + 2) k ∧ F (t + 2) k ≤ 11) ∧ (0 ≤ F (t + 3) k ∧ F (t + 3) k ≤ 11) ∧ (1 ≤ F (t + 4) k ∧ F (t + 4) k ≤ 20) ∧ (0 ≤ F (t + 5) k ∧ F (t + 5) k ≤ 8) ∧ (1 ≤ F (t + 6) k ∧ F (t + 6) k ≤ 3) ∧ (0 ≤ F (t + 7) k ∧ F (t + 7) k ≤ 1) ∧ (0 ≤ F (t + 8) k ∧ F (t + 8) k ≤ 1)) ∧
  (∀ k : Int, 0 ≤ k → k < F t 0 → (0 ≤ F (t + 9) k ∧ F (t + 9) k ≤ 20) ∧ (0 ≤ F (t + 10) k ∧ F (t + 10) k ≤ 8) ∧ (0 ≤ F (t + 11) k ∧ F (t + 11) k ≤ 20)) ∧
  (0 ≤ F t 20 ∧ F t 20 ≤ 1000) ∧ (0 ≤ F t 22 ∧ F t 22 ≤ 9) ∧ (0 ≤ F t 23 ∧ F t 23 < F t 0) ∧ (0 ≤ F t 24 ∧ F t 24 ≤ 11)
theorem TrV.n {F : Hp} {t : Int} (h : TrV F t) : 1 ≤ F t 0 ∧ F t 0 ≤ 6 := h.1
theorem TrV.par {F : Hp} {t : Int} (h : TrV F t) : ∀ k : Int, 0 ≤ k → k < F t 0 → (k = 0 → F (t + 1) k = -2) ∧ (1 ≤ k → 0 ≤ F (t + 1) k ∧ F (t + 1) k < k) := h.2.2.2.1
theorem TrV.st {F : Hp} {t : Int} (h : TrV F t) : ∀ k : Int, 0 ≤ k → k < F t 0 → (0 ≤ F (t + 2) k ∧ F (t + 2) k ≤ 11) ∧ (0 ≤ F (t + 3) k ∧ F (t + 3) k ≤ 11) ∧ (1 ≤ F (t + 4) k ∧ F (t + 4) k ≤ 20) ∧ (0 ≤ F (t + 5) k ∧ F (t + 5) k ≤ 8) ∧ (1 ≤ F (t + 6) k ∧ F (t + 6) k ≤ 3) ∧ (0 ≤ F (t + 7) k ∧ F (t + 7) k ≤ 1) ∧ (0 ≤ F (t + 8) k ∧ F (t + 8) k ≤ 1) := h.2.2.2.2.1
theorem TrV.ac {F : Hp} {t : Int} (h : TrV F t) : ∀ k : Int, 0 ≤ k → k < F t 0 → (0 ≤ F (t + 9) k ∧ F (t + 9) k ≤ 20) ∧ (0 ≤ F (t + 10) k ∧ F (t + 10) k ≤ 8) ∧ (0 ≤ F (t + 11) k ∧ F (t + 11) k ≤ 20) := h.2.2.2.2.2.1
theorem TrV.tm {F : Hp} {t : Int} (h : TrV F t) : (0 ≤ F t 20 ∧ F t 20 ≤ 1000) ∧ (0 ≤ F t 22 ∧ F t 22 ≤ 9) ∧ (0 ≤ F t 23 ∧ F t 23 < F t 0) ∧ (0 ≤ F t 24 ∧ F t 24 ≤ 11) := h.2.2.2.2.2.2
theorem TrV.tr {F : Hp} {t : Int} (h : TrV F t) : Tr (F t 0) (F (t + 1)) := fun n h0 h1 => by
  have := h.par n h0 h1
  omega
/-- the lists behind the tree's list, all empty -/
def qc (t k : Int) : Int := if k = 0 then t + 18 else t + 19 + k
def TQ (T : Shp) (F : Hp) (t : Int) : Prop := F (t + 17) 1 = t + 19 ∧ F (t + 17) 2 = F t 0 ∧ ∀ k : Int, 0 ≤ k → k < F t 0 → F (t + 19) k = qc t k ∧ isO (SH T) (qc t k) 15 [] ∧ F (qc t k) 2 = 0
theorem TQ.up {T g : Shp} {F F' : Hp} {t : Int} (h : TQ T F t) (h0 : F' t 0 = F t 0) (h17 : F' (t + 17) = F (t + 17)) (h19 : F' (t + 19) = F (t + 19)) (hq : ∀ k : Int, 0 ≤ k → k < F t 0 → F' (qc t k) 2 = F (qc t k) 2) : TQ (T ++ g) F' t := by
  refine ⟨by rw [h17]; exact h.1, by rw [h17, h0]; exact h.2.1, fun k k0 k1 => ?_⟩
  rw [h0] at k1
  obtain ⟨a1, a2, a3⟩ := h.2.2 k k0 k1
  exact ⟨by rw [h19]; exact a1, a2.up, by rw [hq k k0 k1]; exact a3⟩
/-- the tree's lender -/
def lnT (t : Int) (F : Hp) (leaf c : Int) : Int := lendS (F (t + 11)) (fun n => F (t + 9) n + F (t + 10) n) (F (t + 1)) (F (t + 8)) c leaf
/-- the steps up a path -/
def stF (par : Int → Int) : Nat → Int → Int → Int
  | 0, _, _ => 0
  | k + 1, m, i => if m = i then 0 else 1 + stF par k (par m) i
/-- a tick's pay into the accounts -/
def rfP (t : Int) (F : Hp) (m : Int) : Hp := fun a i => if 0 ≤ i ∧ i < m then
    (if a = t + 9 then min (F (t + 4) i) (F (t + 9) i + F (t + 2) i)
     else if a = t + 10 then min (F (t + 5) i) (F (t + 10) i + (F (t + 9) i + F (t + 2) i) - min (F (t + 4) i) (F (t + 9) i + F (t + 2) i))
     else if a = t + 11 then min (F (t + 4) i) (F (t + 11) i + F (t + 3) i) else F a i) else F a i
theorem rfP_0 {t : Int} {F : Hp} : rfP t F 0 = F := by
  funext a i
  exact if_neg (by omega)
theorem rfP_out {t : Int} {F : Hp} {m a i : Int} (h : ¬ (0 ≤ i ∧ i < m)) : rfP t F m a i = F a i := if_neg h
theorem rfP_k {t : Int} {F : Hp} {m a i : Int} (h : a ≠ t + 9) (h2 : a ≠ t + 10) (h3 : a ≠ t + 11) : rfP t F m a i = F a i := by
  unfold rfP
  split
  · rename_i c
    first | rfl | rw [if_neg h, if_neg h2, if_neg h3]
  · rfl
theorem rfP_kr {t : Int} {F : Hp} {m a : Int} (h : a ≠ t + 9) (h2 : a ≠ t + 10) (h3 : a ≠ t + 11) : rfP t F m a = F a := by
  funext i
  exact rfP_k h h2 h3
theorem rfP_9 {t : Int} {F : Hp} {m i : Int} (h : 0 ≤ i ∧ i < m) : rfP t F m (t + 9) i = min (F (t + 4) i) (F (t + 9) i + F (t + 2) i) := by
  unfold rfP
  rw [if_pos h, if_pos rfl]
theorem rfP_10 {t : Int} {F : Hp} {m i : Int} (h : 0 ≤ i ∧ i < m) : rfP t F m (t + 10) i = min (F (t + 5) i) (F (t + 10) i + (F (t + 9) i + F (t + 2) i) - min (F (t + 4) i) (F (t + 9) i + F (t + 2) i)) := by
  unfold rfP
  rw [if_pos h, if_neg (by omega), if_pos rfl]
theorem rfP_11 {t : Int} {F : Hp} {m i : Int} (h : 0 ≤ i ∧ i < m) : rfP t F m (t + 11) i = min (F (t + 4) i) (F (t + 11) i + F (t + 3) i) := by
  unfold rfP
  rw [if_pos h, if_neg (by omega), if_neg (by omega), if_pos rfl]
theorem rfP_s {t : Int} {F : Hp} {m : Int} (h : 0 ≤ m) : rfP t F (m + 1) = up (up (up (rfP t F m) (t + 9) m (min (F (t + 4) m) (F (t + 9) m + F (t + 2) m))) (t + 10) m (min (F (t + 5) m) (F (t + 10) m + (F (t + 9) m + F (t + 2) m) - min (F (t + 4) m) (F (t + 9) m + F (t + 2) m)))) (t + 11) m (min (F (t + 4) m) (F (t + 11) m + F (t + 3) m)) := by
  funext a i
  by_cases hi : i = m
  · subst hi
    by_cases c1 : a = t + 11
    · subst c1
      rw [up_s, rfP_11 (by omega)]
    · rw [up_k c1]
      by_cases c2 : a = t + 10
      · subst c2
        rw [up_s, rfP_10 (by omega)]
      · rw [up_k c2]
        by_cases c3 : a = t + 9
        · subst c3
          rw [up_s, rfP_9 (by omega)]
        · rw [up_k c3, rfP_k c3 c2 c1, rfP_k c3 c2 c1]
  · rw [up_i hi, up_i hi, up_i hi]
    unfold rfP
    by_cases c : 0 ≤ i ∧ i < m
    · rw [if_pos c, if_pos (by omega)]
    · rw [if_neg c, if_neg (by omega)]
theorem stF_s {par : Int → Int} {m i : Int} {k : Nat} (h : m ≠ i) : stF par (k + 1) m i = 1 + stF par k (par m) i := if_neg h
theorem stF_e {par : Int → Int} {m : Int} {k : Nat} : stF par k m m = 0 := by
  cases k with
  | zero => rfl
  | succ k => exact if_pos rfl
theorem stF_fuel {N : Int} {par : Int → Int} (hT : Tr N par) : ∀ (k j : Nat) (m i : Int), m < N → m < k → m < j → 0 ≤ i → onP par k m i = true → stF par k m i = stF par j m i
  | 0, j, m, i, _, h1, _, _, ho => by cases ho
  | k + 1, 0, m, i, _, h1, h2, h3, ho => by
    unfold onP at ho
    rw [if_pos (by omega)] at ho
    cases ho
  | k + 1, j + 1, m, i, h0, h1, h2, h3, ho => by
    unfold stF
    unfold onP at ho
    by_cases q : m < 0
    · rw [if_pos q] at ho; cases ho
    · rw [if_neg q] at ho
      by_cases e : m = i
      · rw [if_pos e, if_pos e]
      · rw [if_neg (fun z => e z.symm)] at ho
        rw [if_neg e, if_neg e]
        have := hT m (by omega) h0
        rw [stF_fuel hT k j (par m) i (by omega) (by omega) (by omega) h3 ho]
theorem onP_fuel {N : Int} {par : Int → Int} (hT : Tr N par) : ∀ (k j : Nat) (m i : Int), m < N → m < k → m < j → onP par k m i = onP par j m i
  | 0, 0, m, i, _, h1, _ => rfl
  | 0, j + 1, m, i, _, h1, _ => by
    unfold onP
    rw [if_pos (by omega)]
  | k + 1, 0, m, i, _, h1, h2 => by
    unfold onP
    rw [if_pos (by omega)]
  | k + 1, j + 1, m, i, h0, h1, h2 => by
    unfold onP
    by_cases q : m < 0
    · rw [if_pos q, if_pos q]
    · rw [if_neg q, if_neg q]
      have := hT m (by omega) h0
      rw [onP_fuel hT k j (par m) i (by omega) (by omega) (by omega)]
theorem onP_neg {N : Int} {par : Int → Int} (hT : Tr N par) : ∀ (k : Nat) (m : Int) {i : Int}, m < N → i < 0 → onP par k m i = true → False
  | 0, m, i, _, _, h => by cases h
  | k + 1, m, i, h0, hi, h => by
    unfold onP at h
    by_cases q : m < 0
    · rw [if_pos q] at h; cases h
    · rw [if_neg q] at h
      by_cases e : i = m
      · omega
      · rw [if_neg e] at h
        have := hT m (by omega) h0
        exact onP_neg hT k (par m) (by omega) hi h
theorem stP {F : Hp} {t m i : Int} (hV : TrV F t) (hm : 0 ≤ m ∧ m < F t 0) (ho : onP (F (t + 1)) 13 m i = true) (hne : m ≠ i) : 0 ≤ F (t + 1) m ∧ F (t + 1) m < m ∧ onP (F (t + 1)) 13 (F (t + 1) m) i = true ∧ stF (F (t + 1)) 13 m i = 1 + stF (F (t + 1)) 13 (F (t + 1) m) i := by
  have hn := hV.n
  have hq := hV.par m hm.1 hm.2
  have h1 := ho
  unfold onP at h1
  rw [if_neg (by omega), if_neg (fun z => hne z.symm)] at h1
  have hle := onP_le hV.tr 12 _ i (by have := hV.tr m hm.1 hm.2; omega) h1
  have h0i : 0 ≤ F (t + 1) m := by
    by_cases q : F (t + 1) m < 0
    · exfalso
      unfold onP at h1
      rw [if_pos q] at h1
      cases h1
    · omega
  have hm1 : 1 ≤ m := by
    rcases Int.lt_or_le m 1 with q | q
    · have := hq.1 (by omega); omega
    · exact q
  have hq2 := hq.2 hm1
  have h2 : onP (F (t + 1)) 13 (F (t + 1) m) i = true := by rw [onP_fuel hV.tr 13 12 _ i (by omega) (by omega) (by omega)]; exact h1
  refine ⟨h0i, hq2.2, h2, ?_⟩
  rw [stF_s hne, stF_fuel hV.tr 12 13 (F (t + 1) m) i (by omega) (by omega) (by omega) (by
    rcases Int.lt_or_le i 0 with q | q
    · exfalso
      exact onP_neg hV.tr 13 m (by omega) q ho
    · exact q) h1]
set_option maxRecDepth 100000 in
set_option maxHeartbeats 4000000 in
theorem c_tLeaf {V : VX} {T : Shp} {F : Hp} {t : Int} (hS : TrS T t) (hV : TrV F t) {k : Int} (hk : 0 ≤ k ∧ k < F t 0) : Ct V yX12_isLeaf cX12_isLeaf 3 (some .boolean) 0 0 0 0 (SH T) [vr V t, vi k] F (SH T) 1 (fun r F' => ((r = 1 ∧ ∀ j : Int, 0 ≤ j → j < F t 0 → F (t + 1) j ≠ k) ∨ (r = 0 ∧ ∃ j : Int, 0 ≤ j ∧ j < F t 0 ∧ F (t + 1) j = k)) ∧ F' = F) := by
  refine Ct.of [some (vr V t), some (vi k), none] (by decide) (by simp [lg_sl, vi_cat, vl_cat, vr_cat]) rfl (by simp [asc, lv_args, vi_cat, vl_cat, vr_cat]) (fun X hV hX => ?_)
  subst hV
  have hp := hS.p
  have hn := hV.n
  refine R_iconst hX dX12_isLeaf_0 ?_
  refine R_istore_2 hX c1_i dX12_isLeaf_1 ?_
  have lp_2 : ∀ (n : Nat) (j : Int), (0 ≤ j ∧ j ≤ F t 0) → (∀ i : Int, 0 ≤ i → i < j → F (t + 1) i ≠ k) → (7 - j).toNat < n → R X (SH T) 0 0 2 [some (vr (xV X) t), some (vi k), some (vi j)] [] F (Zq X (SH T) 1 (fun r F' => ((r = 1 ∧ ∀ j : Int, 0 ≤ j → j < F t 0 → F (t + 1) j ≠ k) ∨ (r = 0 ∧ ∃ j : Int, 0 ≤ j ∧ j < F t 0 ∧ F (t + 1) j = k)) ∧ F' = F) 0 0) := by
    intro n
    induction n with
    | zero => intro j iv2_0 iv2_1 hm; exact absurd hm (Nat.not_lt_zero _)
    | succ n ih_2 =>
      intro j iv2_0 iv2_1 hm_2
      refine R_iload_2 hX dX12_isLeaf_2 ?_
      refine R_aload_0 hX dX12_isLeaf_3 ?_
      refine R_geti hX dX12_isLeaf_4 fl_X12_72 hS.o rfl ?_
      refine R_icmpge (tgt := 28) hX dX12_isLeaf_7 (by decide) ⟨by omega, by omega⟩ ⟨by omega, by omega⟩ (fun c_7 => ?_) (fun c_7 => ?_)
      · skip
        refine R_iconst hX dX12_isLeaf_28 ?_
        exact R_zret hX (by omega) dX12_isLeaf_29 ⟨Or.inl ⟨rfl, fun i h0 h1 => iv2_1 i h0 (by omega)⟩, rfl⟩
      · skip
        have hq := hV.par j (by omega) (by omega)
        refine R_aload_0 hX dX12_isLeaf_10 ?_
        refine R_getq (v := t + 1) hX dX12_isLeaf_11 fl_X12_7 hS.o rfl (by omega) ?_
        refine R_iload_2 hX dX12_isLeaf_14 ?_
        refine R_iald hX dX12_isLeaf_15 hS.a1 ⟨by omega, by omega⟩ ?_
        refine R_iload_1 hX dX12_isLeaf_16 ?_
        refine R_icmpne (tgt := 22) hX dX12_isLeaf_17 (by decide) ⟨by omega, by omega⟩ ⟨by omega, by omega⟩ (fun c_17 => ?_) (fun c_17 => ?_)
        · skip
          refine R_iinc_2 hX c1_i dX12_isLeaf_22 ?_
          refine R_goto (tgt := 2) hX dX12_isLeaf_25 (by decide) ?_
          exact ih_2 _ (by omega) (by intro i h0 h1; by_cases q : i = j; (subst q; exact c_17); exact iv2_1 i h0 (by omega)) (by omega)
        · skip
          refine R_iconst hX dX12_isLeaf_20 ?_
          exact R_zret hX (by omega) dX12_isLeaf_21 ⟨Or.inr ⟨rfl, j, by omega, by omega, by omega⟩, rfl⟩
  exact lp_2 8 _ (by omega) (by intro i h0 h1; omega) (by omega)
set_option maxRecDepth 100000 in
set_option maxHeartbeats 4000000 in
theorem c_steps0 {V : VX} {T : Shp} {F : Hp} {t : Int} (hS : TrS T t) (hV : TrV F t) {m i : Int} (hm : 0 ≤ m ∧ m < F t 0) (hi : 0 ≤ i ∧ i < F t 0) (ho : onP (F (t + 1)) 13 m i = true) (h0 : m = 0) : Ct V yX12_steps cX12_steps 3 (some .int) 0 0 0 0 (SH T) [vr V t, vi m, vi i] F (SH T) 1 (fun r F' => r = stF (F (t + 1)) 13 m i ∧ F' = F) := by
  refine Ct.of [some (vr V t), some (vi m), some (vi i)] (by decide) (by simp [lg_sl, vi_cat, vl_cat, vr_cat]) rfl (by simp [asc, lv_args, vi_cat, vl_cat, vr_cat]) (fun X hV hX => ?_)
  subst hV
  have hp := hS.p
  have hn := hV.n
  have hle := onP_le hV.tr 13 m i (by omega) ho
  obtain rfl : m = i := by omega
  refine R_iload_1 hX dX12_steps_0 ?_
  refine R_iload_2 hX dX12_steps_1 ?_
  refine R_icmpne (tgt := 9) hX dX12_steps_2 (by decide) ⟨by omega, by omega⟩ ⟨by omega, by omega⟩ (fun c_2 => ?_) (fun c_2 => ?_)
  · exact absurd rfl c_2
  · skip
    refine R_iconst hX dX12_steps_5 ?_
    refine R_goto (tgt := 22) hX dX12_steps_6 (by decide) ?_
    exact R_iret hX dX12_steps_22 ⟨stF_e.symm, rfl⟩
set_option maxRecDepth 100000 in
set_option maxHeartbeats 4000000 in
theorem c_stepsS {V : VX} {T : Shp} {F : Hp} {t : Int} (hS : TrS T t) (hV : TrV F t) {m i : Int} (hm : 0 ≤ m ∧ m < F t 0) (hi : 0 ≤ i ∧ i < F t 0) (ho : onP (F (t + 1)) 13 m i = true) {d : Nat} (ih : ∀ m' : Int, 0 ≤ m' → m' < m → onP (F (t + 1)) 13 m' i = true → Ct V yX12_steps cX12_steps 3 (some .int) d (22 * d) 0 0 (SH T) [vr V t, vi m', vi i] F (SH T) 1 (fun r F' => r = stF (F (t + 1)) 13 m' i ∧ F' = F)) : Ct V yX12_steps cX12_steps 3 (some .int) (d + 1) (22 * (d + 1)) 0 0 (SH T) [vr V t, vi m, vi i] F (SH T) 1 (fun r F' => r = stF (F (t + 1)) 13 m i ∧ F' = F) := by
  refine Ct.of [some (vr V t), some (vi m), some (vi i)] (by decide) (by simp [lg_sl, vi_cat, vl_cat, vr_cat]) rfl (by simp [asc, lv_args, vi_cat, vl_cat, vr_cat]) (fun X hV hX => ?_)
  subst hV
  have hp := hS.p
  have hn := hV.n
  refine R_iload_1 hX dX12_steps_0 ?_
  refine R_iload_2 hX dX12_steps_1 ?_
  refine R_icmpne (tgt := 9) hX dX12_steps_2 (by decide) ⟨by omega, by omega⟩ ⟨by omega, by omega⟩ (fun c_2 => ?_) (fun c_2 => ?_)
  · skip
    have hstep := stP hV hm ho (fun e => c_2 e)
    refine R_iconst hX dX12_steps_9 ?_
    refine R_aload_0 hX dX12_steps_10 ?_
    refine R_aload_0 hX dX12_steps_11 ?_
    refine R_getq (v := t + 1) hX dX12_steps_12 fl_X12_7 hS.o rfl (by omega) ?_
    refine R_iload_1 hX dX12_steps_15 ?_
    refine R_iald hX dX12_steps_16 hS.a1 ⟨by omega, by omega⟩ ?_
    refine R_iload_2 hX dX12_steps_17 ?_
    refine R_v2i hX dX12_steps_18 li_X12_95 mk_X12_steps mi_X12_steps rfl hS.o (ih _ hstep.1 hstep.2.1 hstep.2.2.1) ⟨⟨by omega, by omega⟩, by omega, by omega, rfl, Nat.le_of_ble_eq_true rfl, rfl⟩ (fun x_18 F_18 h_18 => ?_)
    obtain ⟨h_18, e_18⟩ := h_18; replace e_18 := e_18.symm; subst e_18
    refine R_iadd hX dX12_steps_21 ?_
    exact R_iret hX dX12_steps_22 (by first | exact ⟨by rw [hstep.2.2.2, h_18], rfl⟩ | exact ⟨by rw [show m = i from c_2]; exact stF_e.symm, rfl⟩)
  · skip
    refine R_iconst hX dX12_steps_5 ?_
    refine R_goto (tgt := 22) hX dX12_steps_6 (by decide) ?_
    exact R_iret hX dX12_steps_22 (by first | exact ⟨by rw [hstep.2.2.2, h_18], rfl⟩ | exact ⟨by rw [show m = i from c_2]; exact stF_e.symm, rfl⟩)
theorem c_steps {V : VX} {T : Shp} {F : Hp} {t i : Int} (hS : TrS T t) (hV : TrV F t) (hi : 0 ≤ i ∧ i < F t 0) : ∀ (d : Nat) (m : Int), 0 ≤ m → m < F t 0 → m ≤ d → onP (F (t + 1)) 13 m i = true → Ct V yX12_steps cX12_steps 3 (some .int) d (22 * d) 0 0 (SH T) [vr V t, vi m, vi i] F (SH T) 1 (fun r F' => r = stF (F (t + 1)) 13 m i ∧ F' = F)
  | 0, m, h0, h1, h2, ho => c_steps0 hS hV ⟨h0, h1⟩ hi ho (by omega)
  | d + 1, m, h0, h1, h2, ho => c_stepsS hS hV ⟨h0, h1⟩ hi ho (fun m' q0 q1 qo => c_steps hS hV hi d m' q0 (by omega) (by omega) qo)
set_option maxRecDepth 100000 in
set_option maxHeartbeats 4000000 in
theorem c_tLender {V : VX} {T : Shp} {F : Hp} {t : Int} (hS : TrS T t) (hV : TrV F t) {leaf cost : Int} (hl : 0 ≤ leaf ∧ leaf < F t 0) (hc : 1 ≤ cost ∧ cost ≤ 100) : Ct V yX12_lender cX12_lender 4 (some .int) 0 0 0 0 (SH T) [vr V t, vi leaf, vi cost] F (SH T) 1 (fun r F' => r = lnT t F leaf cost ∧ F' = F) := by
  refine Ct.of [some (vr V t), some (vi leaf), some (vi cost), none] (by decide) (by simp [lg_sl, vi_cat, vl_cat, vr_cat]) rfl (by simp [asc, lv_args, vi_cat, vl_cat, vr_cat]) (fun X hV hX => ?_)
  subst hV
  have hp := hS.p
  have hn := hV.n
  refine R_iload_1 hX dX12_lender_0 ?_
  refine R_istore_3 hX c1_i dX12_lender_1 ?_
  have lp_2 : ∀ (n : Nat) (k : Nat) (node : Int), (-2 ≤ node ∧ node < F t 0 ∧ node < k) → (blkS (F (t + 11)) (F (t + 1)) cost k node = blkS (F (t + 11)) (F (t + 1)) cost 13 leaf) → (node + 3).toNat < n → R X (SH T) 0 0 2 [some (vr (xV X) t), some (vi leaf), some (vi cost), some (vi node)] [] F (Zq X (SH T) 1 (fun r F' => r = lnT t F leaf cost ∧ F' = F) 0 0) := by
    intro n
    induction n with
    | zero => intro k node iv2_0 iv2_1 hm; exact absurd hm (Nat.not_lt_zero _)
    | succ n ih_2 =>
      intro k node iv2_0 iv2_1 hm_2
      refine R_iload_3 hX dX12_lender_2 ?_
      refine R_iflt (tgt := 29) hX dX12_lender_3 (by decide) ⟨by omega, by omega⟩ (fun c_3 => ?_) (fun c_3 => ?_)
      · skip
        have hb0 : blkS (F (t + 11)) (F (t + 1)) cost 13 leaf = -2 := by rw [← iv2_1, blkS_neg (by omega)]
        refine R_iload_1 hX dX12_lender_29 ?_
        refine R_istore_3 hX c1_i dX12_lender_30 ?_
        have lp_31 : ∀ (n : Nat) (k : Nat) (node : Int), (-2 ≤ node ∧ node < F t 0 ∧ node < k) → (askS (fun n => F (t + 9) n + F (t + 10) n) (F (t + 1)) (F (t + 8)) cost k node = askS (fun n => F (t + 9) n + F (t + 10) n) (F (t + 1)) (F (t + 8)) cost 13 leaf) → (node + 3).toNat < n → R X (SH T) 0 0 31 [some (vr (xV X) t), some (vi leaf), some (vi cost), some (vi node)] [] F (Zq X (SH T) 1 (fun r F' => r = lnT t F leaf cost ∧ F' = F) 0 0) := by
          intro n
          induction n with
          | zero => intro k node iv31_0 iv31_1 hm; exact absurd hm (Nat.not_lt_zero _)
          | succ n ih_31 =>
            intro k node iv31_0 iv31_1 hm_31
            refine R_iload_3 hX dX12_lender_31 ?_
            refine R_iflt (tgt := 76) hX dX12_lender_32 (by decide) ⟨by omega, by omega⟩ (fun c_32 => ?_) (fun c_32 => ?_)
            · skip
              refine R_bipush hX dX12_lender_76 (by decide) ?_
              exact R_iret hX dX12_lender_78 ⟨by unfold lnT lendS; rw [if_pos hb0, ← iv31_1, askS_neg (by omega)], rfl⟩
            · skip
              have ht := hV.tr node (by omega) (by omega)
              have hac := hV.ac node (by omega) (by omega)
              have hst := hV.st node (by omega) (by omega)
              refine R_aload_0 hX dX12_lender_35 ?_
              refine R_getq (v := t + 9) hX dX12_lender_36 fl_X12_35 hS.o rfl (by omega) ?_
              refine R_iload_3 hX dX12_lender_39 ?_
              refine R_iald hX dX12_lender_40 hS.a9 ⟨by omega, by omega⟩ ?_
              refine R_aload_0 hX dX12_lender_41 ?_
              refine R_getq (v := t + 10) hX dX12_lender_42 fl_X12_38 hS.o rfl (by omega) ?_
              refine R_iload_3 hX dX12_lender_45 ?_
              refine R_iald hX dX12_lender_46 hS.a10 ⟨by omega, by omega⟩ ?_
              refine R_iadd hX dX12_lender_47 ?_
              refine R_iload_2 hX dX12_lender_48 ?_
              refine R_icmplt (tgt := 54) hX dX12_lender_49 (by decide) ⟨by omega, by omega⟩ ⟨by omega, by omega⟩ (fun c_49 => ?_) (fun c_49 => ?_)
              · skip
                refine R_aload_0 hX dX12_lender_54 ?_
                refine R_getq (v := t + 8) hX dX12_lender_55 fl_X12_31 hS.o rfl (by omega) ?_
                refine R_iload_3 hX dX12_lender_58 ?_
                refine R_zald hX dX12_lender_59 hS.a8 ⟨by omega, by omega⟩ ?_
                refine R_ifeq (tgt := 66) hX dX12_lender_60 (by decide) ⟨by omega, by omega⟩ (fun c_60 => ?_) (fun c_60 => ?_)
                · skip
                  refine R_aload_0 hX dX12_lender_66 ?_
                  refine R_getq (v := t + 1) hX dX12_lender_67 fl_X12_7 hS.o rfl (by omega) ?_
                  refine R_iload_3 hX dX12_lender_70 ?_
                  refine R_iald hX dX12_lender_71 hS.a1 ⟨by omega, by omega⟩ ?_
                  refine R_istore_3 hX c1_i dX12_lender_72 ?_
                  refine R_goto (tgt := 31) hX dX12_lender_73 (by decide) ?_
                  exact ih_31 (k - 1) _ (by omega) (by rw [← iv31_1, askS_up (k := k) (by omega) (by omega) (by omega) c_60]) (by omega)
                · skip
                  refine R_bipush hX dX12_lender_63 (by decide) ?_
                  exact R_iret hX dX12_lender_65 ⟨by unfold lnT lendS; rw [if_pos hb0, ← iv31_1, askS_stop (by omega) (by omega) (by omega) c_60], rfl⟩
              · skip
                refine R_iload_3 hX dX12_lender_52 ?_
                exact R_iret hX dX12_lender_53 ⟨by unfold lnT lendS; rw [if_pos hb0, ← iv31_1, askS_hit (by omega) (by omega) (by omega)], rfl⟩
        exact lp_31 10 13 _ (by omega) rfl (by omega)
      · skip
        have ht := hV.tr node (by omega) (by omega)
        have hac := hV.ac node (by omega) (by omega)
        refine R_aload_0 hX dX12_lender_6 ?_
        refine R_getq (v := t + 11) hX dX12_lender_7 fl_X12_41 hS.o rfl (by omega) ?_
        refine R_iload_3 hX dX12_lender_10 ?_
        refine R_iald hX dX12_lender_11 hS.a11 ⟨by omega, by omega⟩ ?_
        refine R_iload_2 hX dX12_lender_12 ?_
        refine R_icmpge (tgt := 19) hX dX12_lender_13 (by decide) ⟨by omega, by omega⟩ ⟨by omega, by omega⟩ (fun c_13 => ?_) (fun c_13 => ?_)
        · skip
          refine R_aload_0 hX dX12_lender_19 ?_
          refine R_getq (v := t + 1) hX dX12_lender_20 fl_X12_7 hS.o rfl (by omega) ?_
          refine R_iload_3 hX dX12_lender_23 ?_
          refine R_iald hX dX12_lender_24 hS.a1 ⟨by omega, by omega⟩ ?_
          refine R_istore_3 hX c1_i dX12_lender_25 ?_
          refine R_goto (tgt := 2) hX dX12_lender_26 (by decide) ?_
          exact ih_2 (k - 1) _ (by omega) (by rw [← iv2_1, blkS_up (k := k) (by omega) (by omega) (by omega)]) (by omega)
        · skip
          refine R_bipush hX dX12_lender_16 (by decide) ?_
          exact R_iret hX dX12_lender_18 ⟨by unfold lnT lendS; rw [← iv2_1, blkS_hit (by omega) (by omega) (by omega), if_neg (by omega)], rfl⟩
  exact lp_2 10 13 _ (by omega) rfl (by omega)
set_option maxRecDepth 100000 in
set_option maxHeartbeats 4000000 in
theorem c_tRefill {V : VX} {T : Shp} {F : Hp} {t : Int} (hS : TrS T t) (hV : TrV F t)  : Ct V yX12_refill cX12_refill 3 none 1 21 0 0 (SH T) [vr V t] F (SH T) 0 (fun r F' => F' = rfP t F (F t 0)) := by
  refine Ct.of [some (vr V t), none, none] (by decide) (by simp [lg_sl, vi_cat, vl_cat, vr_cat]) rfl (by simp [asc, lv_args, vi_cat, vl_cat, vr_cat]) (fun X hV hX => ?_)
  subst hV
  have hp := hS.p
  have hn := hV.n
  refine R_iconst hX dX12_refill_0 ?_
  refine R_istore_1 hX c1_r dX12_refill_1 ?_
  have lp_2 : ∀ (n : Nat) (k : Int), (0 ≤ k ∧ k ≤ F t 0) → (7 - k).toNat < n → R X (SH T) 0 0 2 [some (vr (xV X) t), some (vi k), none] [] (rfP t F k) (Zq X (SH T) 0 (fun r F' => F' = rfP t F (F t 0)) 0 0) := by
    intro n
    induction n with
    | zero => intro k iv2_0 hm; exact absurd hm (Nat.not_lt_zero _)
    | succ n ih_2 =>
      intro k iv2_0 hm_2
      refine R_iload_1 hX dX12_refill_2 ?_
      refine R_aload_0 hX dX12_refill_3 ?_
      refine R_geti hX dX12_refill_4 fl_X12_72 hS.o rfl ?_
      try simp (disch := omega) only [rfP_k, rfP_out, up_k, up_i, up_s]
      refine R_icmpge (tgt := 104) hX dX12_refill_7 (by decide) (by constructor <;> first | omega | (simp (disch := omega) only [rfP_k, rfP_out, up_k, up_i, up_s]; omega)) (by constructor <;> first | omega | (simp (disch := omega) only [rfP_k, rfP_out, up_k, up_i, up_s]; omega)) (fun c_7 => ?_) (fun c_7 => ?_)
      · skip
        exact R_vret hX dX12_refill_104 (by show rfP t F k = _; rw [show k = F t 0 by omega])
      · skip
        have hst := hV.st k (by omega) (by omega)
        have hac := hV.ac k (by omega) (by omega)
        refine R_aload_0 hX dX12_refill_10 ?_
        refine R_getq (v := t + 9) hX dX12_refill_11 fl_X12_35 hS.o rfl (by omega) ?_
        refine R_iload_1 hX dX12_refill_14 ?_
        refine R_iald hX dX12_refill_15 hS.a9 ⟨by omega, by omega⟩ ?_
        try simp (disch := omega) only [rfP_k, rfP_out, up_k, up_i, up_s]
        refine R_aload_0 hX dX12_refill_16 ?_
        refine R_getq (v := t + 2) hX dX12_refill_17 fl_X12_13 hS.o rfl (by omega) ?_
        refine R_iload_1 hX dX12_refill_20 ?_
        refine R_iald hX dX12_refill_21 hS.a2 ⟨by omega, by omega⟩ ?_
        try simp (disch := omega) only [rfP_k, rfP_out, up_k, up_i, up_s]
        refine R_iadd hX dX12_refill_22 ?_
        refine R_istore_2 hX c1_i dX12_refill_23 ?_
        refine R_aload_0 hX dX12_refill_24 ?_
        refine R_getq (v := t + 9) hX dX12_refill_25 fl_X12_35 hS.o rfl (by omega) ?_
        refine R_iload_1 hX dX12_refill_28 ?_
        refine R_aload_0 hX dX12_refill_29 ?_
        refine R_getq (v := t + 4) hX dX12_refill_30 fl_X12_19 hS.o rfl (by omega) ?_
        refine R_iload_1 hX dX12_refill_33 ?_
        refine R_iald hX dX12_refill_34 hS.a4 ⟨by omega, by omega⟩ ?_
        try simp (disch := omega) only [rfP_k, rfP_out, up_k, up_i, up_s]
        refine R_iload_2 hX dX12_refill_35 ?_
        refine R_mmin hX dX12_refill_36 mm_X12_102 mm_s_min in_java_lang_Math mm_c_min (by constructor <;> first | omega | (simp (disch := omega) only [rfP_k, rfP_out, up_k, up_i, up_s]; omega)) (by constructor <;> first | omega | (simp (disch := omega) only [rfP_k, rfP_out, up_k, up_i, up_s]; omega)) ⟨by decide, by decide, by decide, by decide⟩ rfl (Nat.le_of_ble_eq_true rfl) ?_
        refine R_iast hX dX12_refill_39 hS.a9 ⟨by omega, by omega⟩ ?_
        refine R_aload_0 hX dX12_refill_40 ?_
        refine R_getq (v := t + 10) hX dX12_refill_41 fl_X12_38 hS.o rfl (by omega) ?_
        refine R_iload_1 hX dX12_refill_44 ?_
        refine R_aload_0 hX dX12_refill_45 ?_
        refine R_getq (v := t + 5) hX dX12_refill_46 fl_X12_22 hS.o rfl (by omega) ?_
        refine R_iload_1 hX dX12_refill_49 ?_
        refine R_iald hX dX12_refill_50 hS.a5 ⟨by omega, by omega⟩ ?_
        try simp (disch := omega) only [rfP_k, rfP_out, up_k, up_i, up_s]
        refine R_aload_0 hX dX12_refill_51 ?_
        refine R_getq (v := t + 10) hX dX12_refill_52 fl_X12_38 hS.o rfl (by omega) ?_
        refine R_iload_1 hX dX12_refill_55 ?_
        refine R_iald hX dX12_refill_56 hS.a10 ⟨by omega, by omega⟩ ?_
        try simp (disch := omega) only [rfP_k, rfP_out, up_k, up_i, up_s]
        refine R_iload_2 hX dX12_refill_57 ?_
        refine R_iadd hX dX12_refill_58 ?_
        refine R_aload_0 hX dX12_refill_59 ?_
        refine R_getq (v := t + 9) hX dX12_refill_60 fl_X12_35 hS.o rfl (by omega) ?_
        refine R_iload_1 hX dX12_refill_63 ?_
        refine R_iald hX dX12_refill_64 hS.a9 ⟨by omega, by omega⟩ ?_
        try simp (disch := omega) only [rfP_k, rfP_out, up_k, up_i, up_s]
        refine R_isub hX dX12_refill_65 ?_
        refine R_mmin hX dX12_refill_66 mm_X12_102 mm_s_min in_java_lang_Math mm_c_min (by constructor <;> first | omega | (simp (disch := omega) only [rfP_k, rfP_out, up_k, up_i, up_s]; omega)) (by constructor <;> first | omega | (simp (disch := omega) only [rfP_k, rfP_out, up_k, up_i, up_s]; omega)) ⟨by decide, by decide, by decide, by decide⟩ rfl (Nat.le_of_ble_eq_true rfl) ?_
        refine R_iast hX dX12_refill_69 hS.a10 ⟨by omega, by omega⟩ ?_
        refine R_aload_0 hX dX12_refill_70 ?_
        refine R_getq (v := t + 11) hX dX12_refill_71 fl_X12_41 hS.o rfl (by omega) ?_
        refine R_iload_1 hX dX12_refill_74 ?_
        refine R_aload_0 hX dX12_refill_75 ?_
        refine R_getq (v := t + 4) hX dX12_refill_76 fl_X12_19 hS.o rfl (by omega) ?_
        refine R_iload_1 hX dX12_refill_79 ?_
        refine R_iald hX dX12_refill_80 hS.a4 ⟨by omega, by omega⟩ ?_
        try simp (disch := omega) only [rfP_k, rfP_out, up_k, up_i, up_s]
        refine R_aload_0 hX dX12_refill_81 ?_
        refine R_getq (v := t + 11) hX dX12_refill_82 fl_X12_41 hS.o rfl (by omega) ?_
        refine R_iload_1 hX dX12_refill_85 ?_
        refine R_iald hX dX12_refill_86 hS.a11 ⟨by omega, by omega⟩ ?_
        try simp (disch := omega) only [rfP_k, rfP_out, up_k, up_i, up_s]
        refine R_aload_0 hX dX12_refill_87 ?_
        refine R_getq (v := t + 3) hX dX12_refill_88 fl_X12_16 hS.o rfl (by omega) ?_
        refine R_iload_1 hX dX12_refill_91 ?_
        refine R_iald hX dX12_refill_92 hS.a3 ⟨by omega, by omega⟩ ?_
        try simp (disch := omega) only [rfP_k, rfP_out, up_k, up_i, up_s]
        refine R_iadd hX dX12_refill_93 ?_
        refine R_mmin hX dX12_refill_94 mm_X12_102 mm_s_min in_java_lang_Math mm_c_min (by constructor <;> first | omega | (simp (disch := omega) only [rfP_k, rfP_out, up_k, up_i, up_s]; omega)) (by constructor <;> first | omega | (simp (disch := omega) only [rfP_k, rfP_out, up_k, up_i, up_s]; omega)) ⟨by decide, by decide, by decide, by decide⟩ rfl (Nat.le_of_ble_eq_true rfl) ?_
        refine R_iast hX dX12_refill_97 hS.a11 ⟨by omega, by omega⟩ ?_
        refine R_iinc_1 hX c1_r dX12_refill_98 ?_
        refine R.eq rfl rfl (rfP_s (by omega)).symm ?_
        refine R_goto (tgt := 2) hX dX12_refill_101 (by decide) ?_
        refine R_drop_2 ?_
        exact ih_2 _ (by omega) (by omega)
  refine R.eq rfl rfl (rfP_0 (t := t)).symm ?_
  exact lp_2 8 _ (by omega) (by omega)
