theorem dfS_i {u n a i : Int} (h : i ≠ n) : ∀ (k : Nat) (F : Hp), dfS u n k F a i = F a i
  | 0, F => rfl
  | k + 1, F => by
    unfold dfS
    rw [up_i h, dfS_i h k F]
/-- a node's row, made -/
theorem adn_f {v w p n : Int} {F : Hp} (hn : F v 0 = n) (hp : p < n) : adnS v w p F v 0 = n + 1 ∧ adnS v w p F (v + 1) n = w ∧ adnS v w p F (v + 2) n = p ∧ adnS v w p F (v + 3) n = (if 0 ≤ p then F (v + 3) p + 1 else 0) ∧ adnS v w p F (v + 4) n = 0 ∧ adnS v w p F (v + 11) n = 0 ∧ (∀ i : Int, i ≠ n → adnS v w p F (v + 4) i = F (v + 4) i + (if i = p ∧ 0 ≤ p then 1 else 0)) ∧ (∀ a i : Int, a ≠ v → a ≠ v + 4 → i ≠ n → adnS v w p F a i = F a i) ∧ (∀ a i : Int, (a < v ∨ v + 11 < a) → adnS v w p F a i = F a i) ∧ (∀ i : Int, i ≠ 0 → adnS v w p F v i = F v i) := by
  have a0 : ∀ a i : Int, (a < v + 5 ∨ v + 10 < a) → ad0S v w p F a i = (up (up (up (up (up (up F v 0 (n + 1)) (v + 1) n w) (v + 2) n p) (v + 3) n 0) (v + 4) n 0) (v + 11) n 0) a i := by
    intro a i h
    unfold ad0S
    rw [hn, dfS_r h]
  have a1 : ∀ a i : Int, i ≠ n → ad0S v w p F a i = (up F v 0 (n + 1)) a i := by
    intro a i h
    unfold ad0S
    rw [hn, dfS_i h, up_i h, up_i h, up_i h, up_i h, up_i h]
  by_cases c : 0 ≤ p
  · have e : adnS v w p F = up (up (ad0S v w p F) (v + 3) n (F (v + 3) p + 1)) (v + 4) p (F (v + 4) p + 1) := by unfold adnS; rw [if_pos c, hn]
    rw [e, if_pos c]
    refine ⟨?_, ?_, ?_, ?_, ?_, ?_, fun i hi => ?_, fun a i h1 h2 h3 => ?_, fun a i h => ?_, fun i hi => ?_⟩
    · rw [up_k (by omega), up_k (by omega), a0 _ _ (by omega)]; simp (disch := omega) only [up_k, up_s]
    · rw [up_k (by omega), up_k (by omega), a0 _ _ (by omega)]; simp (disch := omega) only [up_k, up_s]
    · rw [up_k (by omega), up_k (by omega), a0 _ _ (by omega)]; simp (disch := omega) only [up_k, up_s]
    · rw [up_k (by omega), up_s]
    · rw [up_i (by omega), up_k (by omega), a0 _ _ (by omega)]; simp (disch := omega) only [up_k, up_s]
    · rw [up_k (by omega), up_k (by omega), a0 _ _ (by omega), up_s]
    · by_cases q : i = p
      · rw [q, up_s, if_pos ⟨rfl, c⟩]
      · rw [up_i q, up_k (by omega), a1 _ _ hi, up_k (by omega), if_neg (fun z => q z.1)]; omega
    · rw [up_k h2, up_i h3, a1 _ _ h3, up_k h1]
    · rw [up_k (by omega), up_k (by omega), a0 _ _ (by omega)]; simp (disch := omega) only [up_k]
    · rw [up_k (by omega), up_k (by omega), a0 _ _ (by omega)]; simp (disch := omega) only [up_k, up_i]
  · have e : adnS v w p F = ad0S v w p F := by unfold adnS; rw [if_neg c]
    rw [e, if_neg c]
    refine ⟨?_, ?_, ?_, ?_, ?_, ?_, fun i hi => ?_, fun a i h1 h2 h3 => ?_, fun a i h => ?_, fun i hi => ?_⟩
    · rw [a0 _ _ (by omega)]; simp (disch := omega) only [up_k, up_s]
    · rw [a0 _ _ (by omega)]; simp (disch := omega) only [up_k, up_s]
    · rw [a0 _ _ (by omega)]; simp (disch := omega) only [up_k, up_s]
    · rw [a0 _ _ (by omega)]; simp (disch := omega) only [up_k, up_s]
    · rw [a0 _ _ (by omega)]; simp (disch := omega) only [up_k, up_s]
    · rw [a0 _ _ (by omega), up_s]
    · rw [a1 _ _ hi, up_k (by omega), if_neg (fun z => c z.2)]; omega
    · rw [a1 _ _ h3, up_k h1]
    · rw [a0 _ _ (by omega)]; simp (disch := omega) only [up_k]
    · rw [a0 _ _ (by omega)]; simp (disch := omega) only [up_k, up_i]
/-- a node's head, read: its row is there -/
def ND (v : Int) (F H : Hp) (n p w : Int) : Prop := H 3 4 = 4 ∧ H 3 7 = 0 ∧ H v 0 = n + 1 ∧ H (v + 1) n = w ∧ H (v + 2) n = p ∧ H (v + 3) n = (if 0 ≤ p then F (v + 3) p + 1 else 0) ∧ H (v + 4) n = 0 ∧ H (v + 11) n = 0 ∧ (∀ i : Int, i ≠ n → H (v + 4) i = F (v + 4) i + (if i = p ∧ 0 ≤ p then 1 else 0)) ∧ (∀ a i : Int, v < a → a ≤ v + 11 → a ≠ v + 4 → i ≠ n → H a i = F a i) ∧ (∀ a : Int, v + 12 ≤ a → a ≤ v + 16 → H a = F a) ∧ (∀ i : Int, i ≠ 0 → H v i = F v i) ∧ H 3 2 = F 3 2 ∧ H 3 5 = F 3 5
theorem ND.of {v n p w : Int} {F G : Hp} (hv : isSu v) (hn : F v 0 = n) (hp : p < n) (h6 : G 3 6 = w) (gk : ∀ a : Int, a ≠ 3 → a ≠ 21 → G a = F a) (g2 : G 3 2 = F 3 2) (g5 : G 3 5 = F 3 5) : ND v F (up (rdAd v p G) 3 0 0) n p w := by
  have hv' : v = 4 ∨ v = 23 := hv
  have gv : ∀ a : Int, v ≤ a → a ≤ v + 16 → G a = F a := fun a h1 h2 => gk a (by omega) (by omega)
  obtain ⟨b0, b1, b2, b3, b4, b5, b6, b7, b8, b9⟩ := adn_f (v := v) (w := w) (p := p) (n := n) (F := G) (by rw [gv v (by omega) (by omega)]; exact hn) hp
  have ex : up (rdAd v p G) 3 0 0 = up (up (up (adnS v w p G) 3 7 0) 3 4 4) 3 0 0 := by unfold rdAd; rw [h6]
  rw [ex]
  have k3 : ∀ a i : Int, a ≠ 3 → (up (up (up (adnS v w p G) 3 7 0) 3 4 4) 3 0 0) a i = adnS v w p G a i := fun a i h => by rw [up_k h, up_k h, up_k h]
  refine ⟨by simp (disch := omega) only [up_i, up_s], by simp (disch := omega) only [up_i, up_s], ?_, ?_, ?_, ?_, ?_, ?_, fun i hi => ?_, fun a i h1 h2 h3 h4 => ?_, fun a h1 h2 => ?_, fun i hi => ?_, ?_, ?_⟩
  · rw [k3 _ _ (by omega)]; exact b0
  · rw [k3 _ _ (by omega)]; exact b1
  · rw [k3 _ _ (by omega)]; exact b2
  · rw [k3 _ _ (by omega), b3, gv _ (by omega) (by omega)]
  · rw [k3 _ _ (by omega)]; exact b4
  · rw [k3 _ _ (by omega)]; exact b5
  · rw [k3 _ _ (by omega), b6 i hi, gv _ (by omega) (by omega)]
  · rw [k3 _ _ (by omega), b7 a i (by omega) h3 h4, gv _ (by omega) (by omega)]
  · funext i; rw [k3 _ _ (by omega), b8 a i (by omega), gv _ (by omega) (by omega)]
  · rw [k3 _ _ (by omega), b9 i hi, gv _ (by omega) (by omega)]
  · simp (disch := omega) only [up_i]
    rw [b8 3 2 (by omega)]; exact g2
  · simp (disch := omega) only [up_i]
    rw [b8 3 5 (by omega)]; exact g5
theorem kw_7 : kwS (wL [110, 111, 100, 101]) = 7 := by decide +kernel
theorem kw_8 : kwS (wL [105, 110]) = 8 := by decide +kernel
theorem kw_6 : kwS (wL [97, 108, 111, 110, 101]) = 6 := by decide +kernel
theorem kw_9 : kwS (wL [108, 105, 109, 105, 116]) = 9 := by decide +kernel
theorem kw_10 : kwS (wL [97, 103, 101]) = 10 := by decide +kernel
theorem kw_11 : kwS (wL [97, 116]) = 11 := by decide +kernel
theorem ltrs {l : List Int} (h : (List.range l.length).all (fun i => ltrB (l.getD i 0)) = true) : ∀ i : Nat, i < l.length → ltrB (l.getD i 0) = true := fun i hi => List.all_eq_true.mp h i (List.mem_range.mpr hi)
theorem sc_k {F : Hp} (sp tok rest : List Int) (h : RT F (sp ++ (tok ++ rest))) (hs : ∀ i : Nat, i < sp.length → spcB (sp.getD i 0) = true) (ht : (List.range tok.length).all (fun i => ltrB (tok.getD i 0)) = true ∧ 0 < tok.length ∧ tok.length ≤ 8) (hr : ¬ (0 < rest.length ∧ ltrB (rest.getD 0 0) = true)) {w : Int} (hw : kwS (wL tok) = w) :
    ∃ G, scnS F = G ∧ tokK F ≠ 0 ∧ G 21 1 = 1 ∧ G 21 4 = w ∧ (∀ a : Int, a ≠ 21 → G a = F a) ∧ RT G rest := by
  obtain ⟨G, g1, g2, g3, -, g5, g6, g7⟩ := sc_W sp tok rest h hs (ltrs ht.1) ht.2.1 ht.2.2 hr
  exact ⟨G, g1, g2, g3, by rw [g5, hw], g6, g7⟩
theorem sp0 : ∀ i : Nat, i < ([] : List Int).length → spcB (([] : List Int).getD i 0) = true := fun i hi => absurd hi (Nat.not_lt_zero i)
theorem nl32 {l : List Int} : ¬ (0 < ((32 : Int) :: l).length ∧ ltrB (((32 : Int) :: l).getD 0 0) = true) := fun z => absurd z.2 (show ¬ ltrB 32 = true by decide)
theorem nd32 {l : List Int} : ¬ (0 < ((32 : Int) :: l).length ∧ dgtB (((32 : Int) :: l).getD 0 0) = true) := fun z => absurd z.2 (show ¬ dgtB 32 = true by decide)
theorem nl59 {l : List Int} : ¬ (0 < ((59 : Int) :: l).length ∧ ltrB (((59 : Int) :: l).getD 0 0) = true) := fun z => absurd z.2 (show ¬ ltrB 59 = true by decide)
theorem nd59 {l : List Int} : ¬ (0 < ((59 : Int) :: l).length ∧ dgtB (((59 : Int) :: l).getD 0 0) = true) := fun z => absurd z.2 (show ¬ dgtB 59 = true by decide)
/-- "node" -/
theorem rd_k7 {v : Int} {k : Nat} {F : Hp} {rest : List Int} (hv : isSu v) (hk : 0 < k) (h : RT F ([110, 111, 100, 101] ++ (32 :: rest))) (hm0 : F 3 4 = 0) (hn : F v 0 < 12) : ∃ H, rdS v k F = rdS v (k - 1) H ∧ RT H (32 :: rest) ∧ H 3 4 = 1 ∧ (∀ a : Int, a ≠ 3 → a ≠ 21 → H a = F a) ∧ H 3 2 = F 3 2 ∧ H 3 5 = F 3 5 := by
  have hv' : v = 4 ∨ v = 23 := hv
  obtain ⟨G, e, hK, g1, g4, gk, hR⟩ := sc_k [] [110, 111, 100, 101] (32 :: rest) h sp0 (by decide) nl32 kw_7
  have g3 : G 3 = F 3 := gk 3 (by decide)
  have hX : takS v G = (0, up G 3 4 1) := by
    have hm : G 3 4 = 0 := by rw [g3]; exact hm0
    unfold takS; rw [if_pos hm]
    unfold tkStm
    rw [if_pos g4, if_neg (by rw [gk v (by omega)]; omega)]
  obtain ⟨s1, r1⟩ := tk1 (k := k) hv hk e hK hR hX
  exact ⟨_, s1, r1, by simp (disch := omega) only [up_i, up_s], fun a h1 h2 => by rw [up_r h1, up_r h1]; exact gk a h2, by simp (disch := omega) only [up_i]; rw [g3], by simp (disch := omega) only [up_i]; rw [g3]⟩
/-- the first node's name -/
theorem rd_nm0 {v : Int} {k : Nat} {F : Hp} {rest : List Int} (hv : isSu v) (hk : 0 < k) (h : RT F ([32] ++ ([112 + 0] ++ rest))) (hr : ¬ (0 < rest.length ∧ ltrB (rest.getD 0 0) = true)) (hm0 : F 3 4 = 1) (hn : F v 0 = 0) : ∃ H, rdS v k F = rdS v (k - 1) H ∧ RT H rest ∧ ND v F H 0 (-2) (nmW 0) := by
  have hv' : v = 4 ∨ v = 23 := hv
  obtain ⟨G, e, hK, g1, g2, g4, gk, hR⟩ := sc_L (by omega) rest h hr
  have g3 : G 3 = F 3 := gk 3 (by decide)
  have gv : G v 0 = 0 := by rw [gk v (by omega)]; exact hn
  have hX : takS v G = (0, rdAd v (-2) (up G 3 6 (nmW 0))) := by
    have hm : G 3 4 = 1 := by rw [g3]; exact hm0
    unfold takS; rw [if_neg (show ¬ G 3 4 = 0 by omega), if_pos hm]
    unfold tkNam
    rw [if_neg (fun z => z ⟨g1, g4⟩), if_neg (fun z => z (fndS_of (by omega) (Or.inl ⟨rfl, fun n h1 h2 => by omega⟩)).symm), if_pos gv, g2]
  obtain ⟨s1, r1⟩ := tk1 (k := k) hv hk e hK hR hX
  exact ⟨_, s1, r1, ND.of hv hn (by omega) up_s (fun a h1 h2 => by rw [up_r h1]; exact gk a h2) (by rw [up_i (by omega), g3]) (by rw [up_i (by omega), g3])⟩
/-- a later node's name, and its parent -/
theorem rd_nm1 {v n p : Int} {k : Nat} {F : Hp} {rest : List Int} (hv : isSu v) (hk : 2 < k) (h : RT F ([32] ++ ([112 + n] ++ ([32] ++ ([105, 110] ++ ([32] ++ ([112 + p] ++ rest))))))) (hr : ¬ (0 < rest.length ∧ ltrB (rest.getD 0 0) = true)) (hm0 : F 3 4 = 1) (hn : F v 0 = n) (hn6 : 1 ≤ n ∧ n < 6) (hp : 0 ≤ p ∧ p < n) (hnm : ∀ i : Int, 0 ≤ i → i < n → F (v + 1) i = nmW i) : ∃ H, rdS v k F = rdS v (k - 3) H ∧ RT H rest ∧ ND v F H n p (nmW n) := by
  have hv' : v = 4 ∨ v = 23 := hv
  obtain ⟨G, e, hK, g1, g2, g4, gk, hR⟩ := sc_L (by omega) _ h nl32
  have g3 : G 3 = F 3 := gk 3 (by decide)
  have gv : G v 0 = n := by rw [gk v (by omega)]; exact hn
  have hX : takS v G = (0, up (up G 3 6 (nmW n)) 3 4 2) := by
    have hm : G 3 4 = 1 := by rw [g3]; exact hm0
    unfold takS; rw [if_neg (show ¬ G 3 4 = 0 by omega), if_pos hm]
    unfold tkNam
    rw [if_neg (fun z => z ⟨g1, g4⟩), if_neg (fun z => z (fndS_of (by omega) (Or.inl ⟨rfl, fun i h1 h2 => by rw [gk (v + 1) (by omega), hnm i h1 (by omega), g2]; exact nmW_ne (by omega) (by omega) (by omega)⟩)).symm), if_neg (by omega), g2]
  obtain ⟨s1, r1⟩ := tk1 (k := k) hv (by omega) e hK hR hX
  generalize hF1 : up (up (up G 3 6 (nmW n)) 3 4 2) 3 0 0 = F1 at s1 r1
  have f4 : F1 3 4 = 2 := by rw [← hF1]; simp (disch := omega) only [up_i, up_s]
  have f6 : F1 3 6 = nmW n := by rw [← hF1]; simp (disch := omega) only [up_i, up_s]
  have fk : ∀ a : Int, a ≠ 3 → a ≠ 21 → F1 a = F a := fun a h1 h2 => by rw [← hF1, up_r h1, up_r h1, up_r h1]; exact gk a h2
  have fj : ∀ j : Int, j = 2 ∨ j = 5 → F1 3 j = F 3 j := fun j hj => by rw [← hF1, up_i (by omega), up_i (by omega), up_i (by omega), g3]
  clear hF1 hX g3 gk hR hK e g1 g4 g2 gv
  obtain ⟨G, e, hK, g1, g4, gk, hR⟩ := sc_k [32] [105, 110] _ r1 sp1 (by decide) nl32 kw_8
  have g3 : G 3 = F1 3 := gk 3 (by decide)
  have hX : takS v G = (0, up G 3 4 3) := by
    have hm : G 3 4 = 2 := by rw [g3]; exact f4
    unfold takS; rw [if_neg (show ¬ G 3 4 = 0 by omega), if_neg (show ¬ G 3 4 = 1 by omega), if_pos hm]
    unfold tkInn
    rw [if_pos g4]
  obtain ⟨s2, r2⟩ := tk1 (k := k - 1) hv (by omega) e hK hR hX
  generalize hF2 : up (up G 3 4 3) 3 0 0 = F2 at s2 r2
  have f4' : F2 3 4 = 3 := by rw [← hF2]; simp (disch := omega) only [up_i, up_s]
  have f6' : F2 3 6 = nmW n := by rw [← hF2, up_i (by omega), up_i (by omega), g3]; exact f6
  have fk' : ∀ a : Int, a ≠ 3 → a ≠ 21 → F2 a = F a := fun a h1 h2 => by rw [← hF2, up_r h1, up_r h1, gk a h2]; exact fk a h1 h2
  have fj' : ∀ j : Int, j = 2 ∨ j = 5 → F2 3 j = F 3 j := fun j hj => by rw [← hF2, up_i (by omega), up_i (by omega), g3]; exact fj j hj
  clear hF2 hX g3 gk hR hK e g1 g4
  obtain ⟨G, e, hK, g1, g2, g4, gk, hR⟩ := sc_L (by omega) rest r2 hr
  have g3 : G 3 = F2 3 := gk 3 (by decide)
  have gv : G v 0 = n := by rw [gk v (by omega), fk' v (by omega) (by omega)]; exact hn
  have hf : fndS v (nmW p) G = p := (fndS_of (by omega) (Or.inr ⟨hp.1, by omega, by rw [gk (v + 1) (by omega), fk' _ (by omega) (by omega)]; exact hnm p hp.1 hp.2, fun i h1 h2 => by rw [gk (v + 1) (by omega), fk' _ (by omega) (by omega), hnm i h1 (by omega)]; exact nmW_ne (by omega) (by omega) (by omega)⟩)).symm
  have hX : takS v G = (0, rdAd v p G) := by
    have hm : G 3 4 = 3 := by rw [g3]; exact f4'
    unfold takS; rw [if_neg (show ¬ G 3 4 = 0 by omega), if_neg (show ¬ G 3 4 = 1 by omega), if_neg (show ¬ G 3 4 = 2 by omega), if_pos hm]
    unfold tkPar
    rw [if_neg (fun z => z ⟨g1, g4⟩), g2, hf, if_neg (by omega)]
  obtain ⟨s3, r3⟩ := tk1 (k := k - 1 - 1) hv (by omega) e hK hR hX
  exact ⟨_, by rw [s1, s2, s3, show k - 1 - 1 - 1 = k - 3 by omega], r3, ND.of hv hn (by omega) (by rw [g3]; exact f6') (fun a h1 h2 => by rw [gk a h2]; exact fk' a h1 h2) (by rw [g3]; exact fj' 2 (by omega)) (by rw [g3]; exact fj' 5 (by omega))⟩
/-- a node's end -/
theorem rd_end {v g : Int} {k : Nat} {F : Hp} {rest : List Int} (hv : isSu v) (hk : 0 < k) (h : RT F (59 :: rest)) (hm0 : F 3 4 = 4) (hg : F 3 7 = g) (hz : gvn g 1 = 1) : ∃ H, rdS v k F = rdS v (k - 1) H ∧ RT H rest ∧ H 3 4 = 0 ∧ H 3 0 = 0 ∧ (∀ a : Int, a ≠ 3 → a ≠ 21 → H a = F a) ∧ H 3 2 = F 3 2 ∧ H 3 5 = F 3 5 := by
  obtain ⟨G, e, hK, g1, g4, gk, hR⟩ := sc_S rest h
  have g3 : G 3 = F 3 := gk 3 (by decide)
  have hX : takS v G = (0, up G 3 4 0) := by
    have hm : G 3 4 = 4 := by rw [g3]; exact hm0
    unfold takS; rw [if_neg (show ¬ G 3 4 = 0 by omega), if_neg (show ¬ G 3 4 = 1 by omega), if_neg (show ¬ G 3 4 = 2 by omega), if_neg (show ¬ G 3 4 = 3 by omega), if_pos hm]
    unfold tkSet finS
    rw [if_pos g1, g3, hg, hz, if_neg (by decide)]
  obtain ⟨s1, r1⟩ := tk1 (k := k) hv hk e hK hR hX
  exact ⟨_, s1, r1, by simp (disch := omega) only [up_i, up_s], up_s, fun a h1 h2 => by rw [up_r h1, up_r h1]; exact gk a h2, by simp (disch := omega) only [up_i]; rw [g3], by simp (disch := omega) only [up_i]; rw [g3]⟩
/-- "alone" -/
theorem rd_aln {v : Int} {k : Nat} {F : Hp} {rest : List Int} (hv : isSu v) (hk : 0 < k) (h : RT F ([32] ++ ([97, 108, 111, 110, 101] ++ (59 :: rest)))) (hm0 : F 3 4 = 4) (hg : F 3 7 = 63) : ∃ H, rdS v k F = rdS v (k - 1) H ∧ RT H (59 :: rest) ∧ H 3 4 = 4 ∧ H 3 7 = 127 ∧ H (v + 11) (F v 0 - 1) = 1 ∧ (∀ a i : Int, a ≠ 3 → a ≠ 21 → ¬ (a = v + 11 ∧ i = F v 0 - 1) → H a i = F a i) ∧ H 3 2 = F 3 2 ∧ H 3 5 = F 3 5 := by
  have hv' : v = 4 ∨ v = 23 := hv
  obtain ⟨G, e, hK, g1, g4, gk, hR⟩ := sc_k [32] [97, 108, 111, 110, 101] (59 :: rest) h sp1 (by decide) nl59 kw_6
  have g3 : G 3 = F 3 := gk 3 (by decide)
  have gv : G v = F v := gk v (by omega)
  have hX : takS v G = (0, up (up (up G 3 8 6) 3 7 127) (v + 11) (F v 0 - 1) 1) := by
    have hm : G 3 4 = 4 := by rw [g3]; exact hm0
    unfold takS; rw [if_neg (show ¬ G 3 4 = 0 by omega), if_neg (show ¬ G 3 4 = 1 by omega), if_neg (show ¬ G 3 4 = 2 by omega), if_neg (show ¬ G 3 4 = 3 by omega), if_pos hm]
    unfold tkSet
    rw [if_neg (by rw [g1]; decide), g4, if_neg (by omega), g3, hg, if_neg (show ¬ gvn 63 6 = 1 by decide +kernel), if_pos rfl, gv, show ior 63 (ishl 1 6) = 127 by decide +kernel]
  obtain ⟨s1, r1⟩ := tk1 (k := k) hv hk e hK hR hX
  refine ⟨_, s1, r1, ?_, ?_, ?_, fun a i h1 h2 h3 => ?_, ?_, ?_⟩
  · rw [up_i (by omega), up_k (by omega), up_i (by omega), up_i (by omega), g3]; exact hm0
  · rw [up_i (by omega), up_k (by omega), up_s]
  · rw [up_k (by omega), up_s]
  · rw [up_k h1, up_n h3, up_k h1, up_k h1, gk a h2]
  · rw [up_i (by omega), up_k (by omega), up_i (by omega), up_i (by omega), g3]
  · rw [up_i (by omega), up_k (by omega), up_i (by omega), up_i (by omega), g3]

