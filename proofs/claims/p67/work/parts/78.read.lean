theorem tk1 {v : Int} {k : Nat} {F G X : Hp} {rest : List Int} (hv : isSu v) (hk : 0 < k) (e : scnS F = G) (hK : tokK F ≠ 0) (hR : RT G rest) (hX : takS v G = (0, X)) : rdS v k F = rdS v (k - 1) (up X 3 0 0) ∧ RT (up X 3 0 0) rest := by
  have e2 : (takS v G).2 = X := by rw [hX]
  have h1 := rd_step (v := v) (k := k) hk e hK (by rw [hX])
  have hv' : v = 4 ∨ v = 23 := hv
  rw [e2] at h1
  refine ⟨h1, hR.keep ?_ ?_ ?_⟩
  · rw [up_r (by decide), ← e2]
    funext i
    exact tak_k hv (Or.inl ⟨by decide, by omega⟩)
  · rw [up_r (by decide), ← e2]
    funext i
    exact tak_k hv (Or.inl ⟨by decide, by omega⟩)
  · rw [up_k (by decide), ← e2]
    exact tak_k hv (Or.inl ⟨by decide, by omega⟩)
/-! names, numbers, words -/
def nmW (i : Int) : Int := wL [112 + i]
theorem six {k : Int} (h : 0 ≤ k ∧ k < 6) : k = 0 ∨ k = 1 ∨ k = 2 ∨ k = 3 ∨ k = 4 ∨ k = 5 := by omega
theorem nmW_kw {k : Int} (h : 0 ≤ k ∧ k < 6) : kwS (nmW k) = -1 := by
  rcases six h with rfl | rfl | rfl | rfl | rfl | rfl <;> decide +kernel
theorem nmW_v : ∀ k : Nat, k < 6 → nmW k = (16 + (k : Int)) * 34359738368 := by decide +kernel
theorem nmW_ne {i k : Int} (h : 0 ≤ i ∧ i < 6) (h2 : 0 ≤ k ∧ k < 6) (hn : i ≠ k) : nmW i ≠ nmW k := by
  obtain ⟨a, ha⟩ := Int.eq_ofNat_of_zero_le h.1
  obtain ⟨b, hb⟩ := Int.eq_ofNat_of_zero_le h2.1
  subst ha hb
  rw [nmW_v a (by omega), nmW_v b (by omega)]
  omega
theorem dec_nL : ∀ n : Nat, n < 100 → nL (decS n) = n := by decide +kernel
theorem dec_dg : ∀ n : Nat, n < 100 → ∀ i : Nat, i < (decS n).length → dgtB ((decS n).getD i 0) = true := by decide +kernel
theorem dec_ln : ∀ n : Nat, n < 100 → 0 < (decS n).length ∧ (decS n).length ≤ 2 := by decide +kernel
theorem sp1 : ∀ i : Nat, i < ([32] : List Int).length → spcB (([32] : List Int).getD i 0) = true := by
  intro i hi
  obtain rfl : i = 0 := by simpa using hi
  decide
theorem ltr1 {c : Int} (h : 97 ≤ c ∧ c ≤ 122) : ∀ i : Nat, i < ([c] : List Int).length → ltrB (([c] : List Int).getD i 0) = true := by
  intro i hi
  obtain rfl : i = 0 := by simpa using hi
  exact ltrB_t.mpr h
/-- a number's token, behind a space -/
theorem sc_D {F : Hp} {x : Int} (hx : 0 ≤ x ∧ x < 100) (rest : List Int) (h : RT F ([32] ++ (decS x ++ rest))) (hr : ¬ (0 < rest.length ∧ dgtB (rest.getD 0 0) = true)) :
    ∃ G, scnS F = G ∧ tokK F ≠ 0 ∧ G 21 1 = 2 ∧ G 21 5 = x ∧ G 21 4 = -1 ∧ (∀ a : Int, a ≠ 21 → G a = F a) ∧ RT G rest := by
  obtain ⟨n, hn⟩ := Int.eq_ofNat_of_zero_le hx.1
  subst hn
  have q := dec_ln n (by omega)
  have := sc_N [32] (decS n) rest h sp1 (dec_dg n (by omega)) q.1 (by omega) hr
  rw [dec_nL n (by omega)] at this
  exact this
/-- a name's token, behind a space -/
theorem sc_L {F : Hp} {k : Int} (hx : 0 ≤ k ∧ k < 6) (rest : List Int) (h : RT F ([32] ++ ([112 + k] ++ rest))) (hr : ¬ (0 < rest.length ∧ ltrB (rest.getD 0 0) = true)) :
    ∃ G, scnS F = G ∧ tokK F ≠ 0 ∧ G 21 1 = 1 ∧ G 21 3 = nmW k ∧ G 21 4 = -1 ∧ (∀ a : Int, a ≠ 21 → G a = F a) ∧ RT G rest := by
  have := sc_W [32] [112 + k] rest h sp1 (ltr1 (by omega)) (by simp) (by simp) hr
  rw [show wL [112 + k] = nmW k from rfl, nmW_kw hx] at this
  exact this
/-- a setting's word -/
def nmS (s : Nat) : List Int := ((stl (15 + s)).drop 1).dropLast
theorem nmS_ok : ∀ s : Nat, s < 6 → stl (15 + s) = [32] ++ (nmS s ++ [32]) ∧ (∀ i : Nat, i < (nmS s).length → ltrB ((nmS s).getD i 0) = true) ∧ 0 < (nmS s).length ∧ (nmS s).length ≤ 8 ∧ kwS (wL (nmS s)) = s := by decide +kernel
theorem sc_s {F : Hp} {s : Nat} (hs : s < 6) (rest : List Int) (h : RT F ([32] ++ (nmS s ++ (32 :: rest)))) :
    ∃ G, scnS F = G ∧ tokK F ≠ 0 ∧ G 21 1 = 1 ∧ G 21 4 = s ∧ (∀ a : Int, a ≠ 21 → G a = F a) ∧ RT G (32 :: rest) := by
  obtain ⟨-, q1, q2, q3, q4⟩ := nmS_ok s hs
  obtain ⟨G, g1, g2, g3, -, g5, g6, g7⟩ := sc_W [32] (nmS s) (32 :: rest) h sp1 q1 q2 q3 (fun z => absurd z.2 (show ¬ ltrB 32 = true by decide))
  exact ⟨G, g1, g2, g3, by rw [g5, q4], g6, g7⟩
theorem rwN_s {s : Nat} (h : s < 6) : rwN s = 5 + s := by
  have key : ∀ s : Nat, s < 6 → rwN s = 5 + s := by decide
  exact key s h
/-- a setting -/
theorem rd_set {v : Int} {k : Nat} {F : Hp} {s : Nat} {x g g' : Int} {rest : List Int} (hv : isSu v) (hk : 2 < k) (hs : s < 6) (h : RT F ([32] ++ (nmS s ++ (32 :: (decS x ++ rest))))) (hr : ¬ (0 < rest.length ∧ dgtB (rest.getD 0 0) = true))
    (hm0 : F 3 4 = 4) (hg : F 3 7 = g) (hz : ¬ gvn g s = 1) (hg' : ior g (ishl 1 s) = g') (hx : 0 ≤ x ∧ x < 100) (ht : tabL s ≤ x ∧ x ≤ tabG s) :
    ∃ H, rdS v k F = rdS v (k - 2) H ∧ RT H rest ∧ H 3 4 = 4 ∧ H 3 7 = g' ∧ H (v + (5 + s)) (F v 0 - 1) = x ∧ (∀ a i : Int, a ≠ 3 → a ≠ 21 → ¬ (a = v + (5 + s) ∧ i = F v 0 - 1) → H a i = F a i) ∧ (∀ j : Int, j = 2 ∨ j = 5 ∨ j = 6 ∨ j = 9 ∨ j = 10 → H 3 j = F 3 j) := by
  have hv' : v = 4 ∨ v = 23 := hv
  obtain ⟨G, e, hK, g1, g4, gk, hR⟩ := sc_s hs _ h
  have g3 : G 3 = F 3 := gk 3 (by decide)
  have hX : takS v G = (0, up (up (up G 3 8 (s : Int)) 3 7 g') 3 4 5) := by
    have hm : G 3 4 = 4 := by rw [g3]; exact hm0
    unfold takS; rw [if_neg (show ¬ G 3 4 = 0 by omega), if_neg (show ¬ G 3 4 = 1 by omega), if_neg (show ¬ G 3 4 = 2 by omega), if_neg (show ¬ G 3 4 = 3 by omega), if_pos hm]
    unfold tkSet
    rw [if_neg (by rw [g1]; decide), g4, if_neg (by omega), g3, hg, if_neg hz, if_neg (by omega), hg']
  obtain ⟨s1, r1⟩ := tk1 (k := k) hv (by omega) e hK hR hX
  generalize hF1 : up (up (up (up G 3 8 (s : Int)) 3 7 g') 3 4 5) 3 0 0 = F1 at s1 r1
  have f4 : F1 3 4 = 5 := by rw [← hF1]; simp (disch := omega) only [up_i, up_s]
  have f7 : F1 3 7 = g' := by rw [← hF1]; simp (disch := omega) only [up_i, up_s]
  have f8 : F1 3 8 = s := by rw [← hF1]; simp (disch := omega) only [up_i, up_s]
  have fk : ∀ a : Int, a ≠ 3 → a ≠ 21 → F1 a = F a := fun a h1 h2 => by rw [← hF1, up_r h1, up_r h1, up_r h1, up_r h1]; exact gk a h2
  have fj : ∀ j : Int, j = 2 ∨ j = 5 ∨ j = 6 ∨ j = 9 ∨ j = 10 → F1 3 j = F 3 j := fun j hj => by rw [← hF1, up_i (by omega), up_i (by omega), up_i (by omega), up_i (by omega), g3]
  clear hF1 hX g3 gk hR hK e g1 g4
  obtain ⟨G2, e, hK, g1, g5, -, gk, hR⟩ := sc_D hx rest r1 hr
  have g3 : G2 3 = F1 3 := gk 3 (by decide)
  have gv : G2 v = F v := by rw [gk v (by omega), fk v (by omega) (by omega)]
  have hX : takS v G2 = (0, up (up G2 (v + (5 + s)) (F v 0 - 1) x) 3 4 4) := by
    have hm : G2 3 4 = 5 := by rw [g3]; exact f4
    have hn : nmg (G2 3 8) G2 = 0 := by
      rw [g3, f8]
      unfold nmg nmf
      rw [if_neg (by rw [g1]; decide), g5, Int.toNat_natCast, if_pos ht]
    unfold takS; rw [if_neg (show ¬ G2 3 4 = 0 by omega), if_neg (show ¬ G2 3 4 = 1 by omega), if_neg (show ¬ G2 3 4 = 2 by omega), if_neg (show ¬ G2 3 4 = 3 by omega), if_neg (show ¬ G2 3 4 = 4 by omega), if_pos hm]
    unfold tkVal
    rw [hn, if_pos rfl, g3, f8, rwN_s hs, gv, g5]
  obtain ⟨s2, r2⟩ := tk1 (k := k - 1) hv (by omega) e hK hR hX
  refine ⟨_, by rw [s1, s2, show k - 1 - 1 = k - 2 by omega], r2, ?_, ?_, ?_, fun a i h1 h2 h3 => ?_, fun j hj => ?_⟩
  · simp (disch := omega) only [up_i, up_s]
  · rw [up_i (by omega), up_i (by omega), up_k (by omega), g3]; exact f7
  · rw [up_k (by omega), up_k (by omega), up_s]
  · rw [up_k h1, up_k h1, up_n h3, gk a h2, fk a h1 h2]
  · rw [up_i (by omega), up_i (by omega), up_k (by omega), g3]; exact fj j hj

