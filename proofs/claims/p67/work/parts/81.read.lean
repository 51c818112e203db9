theorem tw {v w : Int} {k : Nat} {F : Hp} {X : Hp → Hp} (sp tok rest : List Int) (hv : isSu v) (hk : 0 < k) (h : RT F (sp ++ (tok ++ rest))) (hs : ∀ i : Nat, i < sp.length → spcB (sp.getD i 0) = true) (ht : (List.range tok.length).all (fun i => ltrB (tok.getD i 0)) = true ∧ 0 < tok.length ∧ tok.length ≤ 8) (hr : ¬ (0 < rest.length ∧ ltrB (rest.getD 0 0) = true)) (hw : kwS (wL tok) = w)
    (hX : ∀ G : Hp, G 21 1 = 1 → G 21 4 = w → (∀ a : Int, a ≠ 21 → G a = F a) → takS v G = (0, X G)) : ∃ G : Hp, (∀ a : Int, a ≠ 21 → G a = F a) ∧ rdS v k F = rdS v (k - 1) (up (X G) 3 0 0) ∧ RT (up (X G) 3 0 0) rest := by
  obtain ⟨G, e, hK, g1, g4, gk, hR⟩ := sc_k sp tok rest h hs ht hr hw
  obtain ⟨s1, r1⟩ := tk1 (k := k) hv hk e hK hR (hX G g1 g4 gk)
  exact ⟨G, gk, s1, r1⟩
theorem tn {v x : Int} {k : Nat} {F : Hp} {X : Hp → Hp} (rest : List Int) (hv : isSu v) (hk : 0 < k) (hx : 0 ≤ x ∧ x < 100) (h : RT F ([32] ++ (decS x ++ rest))) (hr : ¬ (0 < rest.length ∧ dgtB (rest.getD 0 0) = true))
    (hX : ∀ G : Hp, G 21 1 = 2 → G 21 5 = x → (∀ a : Int, a ≠ 21 → G a = F a) → takS v G = (0, X G)) : ∃ G : Hp, (∀ a : Int, a ≠ 21 → G a = F a) ∧ rdS v k F = rdS v (k - 1) (up (X G) 3 0 0) ∧ RT (up (X G) 3 0 0) rest := by
  obtain ⟨G, e, hK, g1, g5, -, gk, hR⟩ := sc_D hx rest h hr
  obtain ⟨s1, r1⟩ := tk1 (k := k) hv hk e hK hR (hX G g1 g5 gk)
  exact ⟨G, gk, s1, r1⟩
theorem tl {v i : Int} {k : Nat} {F : Hp} {X : Hp → Hp} (rest : List Int) (hv : isSu v) (hk : 0 < k) (hx : 0 ≤ i ∧ i < 6) (h : RT F ([32] ++ ([112 + i] ++ rest))) (hr : ¬ (0 < rest.length ∧ ltrB (rest.getD 0 0) = true))
    (hX : ∀ G : Hp, G 21 1 = 1 → G 21 3 = nmW i → G 21 4 = -1 → (∀ a : Int, a ≠ 21 → G a = F a) → takS v G = (0, X G)) : ∃ G : Hp, (∀ a : Int, a ≠ 21 → G a = F a) ∧ rdS v k F = rdS v (k - 1) (up (X G) 3 0 0) ∧ RT (up (X G) 3 0 0) rest := by
  obtain ⟨G, e, hK, g1, g3, g4, gk, hR⟩ := sc_L hx rest h hr
  obtain ⟨s1, r1⟩ := tk1 (k := k) hv hk e hK hR (hX G g1 g3 g4 gk)
  exact ⟨G, gk, s1, r1⟩
/-- a statement's end, behind a number -/
theorem te {v : Int} {k : Nat} {F : Hp} (rest : List Int) (hv : isSu v) (hk : 0 < k) (h : RT F (59 :: rest)) (hm0 : F 3 4 = 12) : ∃ H : Hp, rdS v k F = rdS v (k - 1) H ∧ RT H rest ∧ H 3 4 = 0 ∧ H 3 0 = 0 ∧ (∀ a : Int, a ≠ 3 → a ≠ 21 → H a = F a) ∧ H 3 5 = F 3 5 := by
  obtain ⟨G, e, hK, g1, -, gk, hR⟩ := sc_S rest h
  have g3 : G 3 = F 3 := gk 3 (by decide)
  have hX : takS v G = (0, up G 3 4 0) := by
    have hm : G 3 4 = 12 := by rw [g3]; exact hm0
    unfold takS; rw [if_neg (show ¬ G 3 4 = 0 by omega), if_neg (show ¬ G 3 4 = 1 by omega), if_neg (show ¬ G 3 4 = 2 by omega), if_neg (show ¬ G 3 4 = 3 by omega), if_neg (show ¬ G 3 4 = 4 by omega), if_neg (show ¬ G 3 4 = 5 by omega), if_neg (show ¬ G 3 4 = 6 by omega), if_neg (show ¬ G 3 4 = 7 by omega), if_neg (show ¬ G 3 4 = 8 by omega), if_neg (show ¬ G 3 4 = 9 by omega), if_neg (show ¬ G 3 4 = 10 by omega), if_neg (show ¬ G 3 4 = 11 by omega)]
    unfold tkEnd
    rw [if_pos g1]
  obtain ⟨s1, r1⟩ := tk1 (k := k) hv hk e hK hR hX
  exact ⟨_, s1, r1, by simp (disch := omega) only [up_i, up_s], up_s, fun a h1 h2 => by rw [up_r h1, up_r h1]; exact gk a h2, by simp (disch := omega) only [up_i]; rw [g3]⟩
theorem nmfz {lo hi x : Int} {G : Hp} (h1 : G 21 1 = 2) (h5 : G 21 5 = x) (hx : lo ≤ x ∧ x ≤ hi) : nmf lo hi G = 0 := by
  unfold nmf
  rw [if_neg (by rw [h1]; decide), h5, if_pos hx]
theorem rd_lim {v x : Int} {k : Nat} {F : Hp} {rest : List Int} (hv : isSu v) (hk : 3 < k) (h : RT F ([] ++ ([108, 105, 109, 105, 116] ++ ([32] ++ (decS x ++ (59 :: rest)))))) (hm0 : F 3 4 = 0) (h5 : F 3 5 = 0) (hx : 0 ≤ x ∧ x < 100) :
    ∃ H, rdS v k F = rdS v (k - 3) H ∧ RT H rest ∧ H 3 4 = 0 ∧ H 3 0 = 0 ∧ H v 13 = x ∧ (∀ a i : Int, a ≠ 3 → a ≠ 21 → ¬ (a = v ∧ i = 13) → H a i = F a i) := by
  have hv' : v = 4 ∨ v = 23 := hv
  obtain ⟨G, gk, s1, r1⟩ := tw (k := k) (X := fun G => up G 3 4 6) [] [108, 105, 109, 105, 116] _ hv (by omega) h sp0 (by decide) nl32 kw_9 (fun G _ g4 gk => by
    have g3 : G 3 = F 3 := gk 3 (by decide)
    unfold takS
    rw [if_pos (by rw [g3]; exact hm0)]
    unfold tkStm
    rw [if_neg (by omega), if_pos g4, g3, if_pos h5])
  have g3 : G 3 = F 3 := gk 3 (by decide)
  generalize hF1 : up (up G 3 4 6) 3 0 0 = F1 at s1 r1
  have f4 : F1 3 4 = 6 := by rw [← hF1]; simp (disch := omega) only [up_i, up_s]
  have fk : ∀ a : Int, a ≠ 3 → a ≠ 21 → F1 a = F a := fun a h1 h2 => by rw [← hF1, up_r h1, up_r h1]; exact gk a h2
  clear hF1 g3 gk
  obtain ⟨G, gk, s2, r2⟩ := tn (k := k - 1) (X := fun G => up (up (up G v 13 x) 3 5 1) 3 4 12) (59 :: rest) hv (by omega) hx r1 nd59 (fun G g1 g5 gk => by
    have hm : G 3 4 = 6 := by rw [gk 3 (by decide)]; exact f4
    unfold takS; rw [if_neg (show ¬ G 3 4 = 0 by omega), if_neg (show ¬ G 3 4 = 1 by omega), if_neg (show ¬ G 3 4 = 2 by omega), if_neg (show ¬ G 3 4 = 3 by omega), if_neg (show ¬ G 3 4 = 4 by omega), if_neg (show ¬ G 3 4 = 5 by omega), if_pos hm]
    unfold tkLim
    rw [nmfz g1 g5 (by omega), g5])
  generalize hF2 : up (up (up (up G v 13 x) 3 5 1) 3 4 12) 3 0 0 = F2 at s2 r2
  have p4 : F2 3 4 = 12 := by rw [← hF2]; simp (disch := omega) only [up_i, up_s]
  have p13 : F2 v 13 = x := by rw [← hF2]; simp (disch := omega) only [up_k, up_s]
  have pk : ∀ a i : Int, a ≠ 3 → a ≠ 21 → ¬ (a = v ∧ i = 13) → F2 a i = F a i := fun a i h1 h2 h3 => by rw [← hF2, up_k h1, up_k h1, up_k h1, up_n h3, gk a h2, fk a h1 h2]
  clear hF2 gk
  obtain ⟨H, s3, r3, z4, z0, zk, -⟩ := te (k := k - 1 - 1) rest hv (by omega) r2 p4
  exact ⟨H, by rw [s1, s2, s3]; congr 1, r3, z4, z0, by rw [zk v (by omega) (by omega)]; exact p13, fun a i h1 h2 h3 => by rw [zk a h1 h2]; exact pk a i h1 h2 h3⟩
theorem rd_age {v x : Int} {k : Nat} {F : Hp} {rest : List Int} (hv : isSu v) (hk : 3 < k) (h : RT F ([] ++ ([97, 103, 101] ++ ([32] ++ (decS x ++ (59 :: rest)))))) (hm0 : F 3 4 = 0) (h5 : F v 14 = -1) (hx : 0 ≤ x ∧ x < 100) :
    ∃ H, rdS v k F = rdS v (k - 3) H ∧ RT H rest ∧ H 3 4 = 0 ∧ H 3 0 = 0 ∧ H v 14 = x ∧ (∀ a i : Int, a ≠ 3 → a ≠ 21 → ¬ (a = v ∧ i = 14) → H a i = F a i) := by
  have hv' : v = 4 ∨ v = 23 := hv
  obtain ⟨G, gk, s1, r1⟩ := tw (k := k) (X := fun G => up G 3 4 7) [] [97, 103, 101] _ hv (by omega) h sp0 (by decide) nl32 kw_10 (fun G _ g4 gk => by
    have g3 : G 3 = F 3 := gk 3 (by decide)
    unfold takS
    rw [if_pos (by rw [g3]; exact hm0)]
    unfold tkStm
    rw [if_neg (by omega), if_neg (by omega), if_pos g4, gk v (by omega), if_pos h5])
  have g3 : G 3 = F 3 := gk 3 (by decide)
  generalize hF1 : up (up G 3 4 7) 3 0 0 = F1 at s1 r1
  have f4 : F1 3 4 = 7 := by rw [← hF1]; simp (disch := omega) only [up_i, up_s]
  have fk : ∀ a : Int, a ≠ 3 → a ≠ 21 → F1 a = F a := fun a h1 h2 => by rw [← hF1, up_r h1, up_r h1]; exact gk a h2
  clear hF1 g3 gk
  obtain ⟨G, gk, s2, r2⟩ := tn (k := k - 1) (X := fun G => up (up G v 14 x) 3 4 12) (59 :: rest) hv (by omega) hx r1 nd59 (fun G g1 g5 gk => by
    have hm : G 3 4 = 7 := by rw [gk 3 (by decide)]; exact f4
    unfold takS; rw [if_neg (show ¬ G 3 4 = 0 by omega), if_neg (show ¬ G 3 4 = 1 by omega), if_neg (show ¬ G 3 4 = 2 by omega), if_neg (show ¬ G 3 4 = 3 by omega), if_neg (show ¬ G 3 4 = 4 by omega), if_neg (show ¬ G 3 4 = 5 by omega), if_neg (show ¬ G 3 4 = 6 by omega), if_pos hm]
    unfold tkAge
    rw [nmfz g1 g5 (by omega), g5])
  generalize hF2 : up (up (up G v 14 x) 3 4 12) 3 0 0 = F2 at s2 r2
  have p4 : F2 3 4 = 12 := by rw [← hF2]; simp (disch := omega) only [up_i, up_s]
  have p13 : F2 v 14 = x := by rw [← hF2]; simp (disch := omega) only [up_k, up_s]
  have pk : ∀ a i : Int, a ≠ 3 → a ≠ 21 → ¬ (a = v ∧ i = 14) → F2 a i = F a i := fun a i h1 h2 h3 => by rw [← hF2, up_k h1, up_k h1, up_n h3, gk a h2, fk a h1 h2]
  clear hF2 gk
  obtain ⟨H, s3, r3, z4, z0, zk, -⟩ := te (k := k - 1 - 1) rest hv (by omega) r2 p4
  exact ⟨H, by rw [s1, s2, s3]; congr 1, r3, z4, z0, by rw [zk v (by omega) (by omega)]; exact p13, fun a i h1 h2 h3 => by rw [zk a h1 h2]; exact pk a i h1 h2 h3⟩
theorem kw_0 : kwS (wL (nmS 0)) = 0 := (nmS_ok 0 (by decide)).2.2.2.2
theorem rd_at {v x y w n : Int} {k : Nat} {F : Hp} {rest : List Int} (hv : isSu v) (hk : 6 < k) (h : RT F ([] ++ ([97, 116] ++ ([32] ++ (decS y ++ ([32] ++ ([112 + w] ++ ([32] ++ (nmS 0 ++ ([32] ++ (decS x ++ (59 :: rest))))))))))) ) (hm0 : F 3 4 = 0) (hc : F (v + 12) 0 = 0) (hy : 1 ≤ y ∧ y < 100) (hx : 0 ≤ x ∧ x ≤ 99) (hw : 0 ≤ w ∧ w < n) (hN : F v 0 = n ∧ n ≤ 6) (hnm : ∀ i : Int, 0 ≤ i → i < n → F (v + 1) i = nmW i) :
    ∃ H, rdS v k F = rdS v (k - 6) H ∧ RT H rest ∧ H 3 4 = 0 ∧ H 3 0 = 0 ∧ (H (v + 12) 0 = 1 ∧ H (v + 13) 0 = y ∧ H (v + 14) 0 = w ∧ H (v + 15) 0 = 0 ∧ H (v + 16) 0 = x) ∧ (∀ a : Int, a ≠ 3 → a ≠ 21 → (a < v + 12 ∨ v + 16 < a) → H a = F a) := by
  have hv' : v = 4 ∨ v = 23 := hv
  obtain ⟨G, gk, s1, r1⟩ := tw (k := k) (X := fun G => up G 3 4 8) [] [97, 116] _ hv (by omega) h sp0 (by decide) nl32 kw_11 (fun G _ g4 gk => by
    have g3 : G 3 = F 3 := gk 3 (by decide)
    unfold takS
    rw [if_pos (by rw [g3]; exact hm0)]
    unfold tkStm
    rw [if_neg (by omega), if_neg (by omega), if_neg (by omega), if_pos g4, gk (v + 12) (by omega), if_neg (by omega)])
  generalize hF1 : up (up G 3 4 8) 3 0 0 = F1 at s1 r1
  have f4 : F1 3 4 = 8 := by rw [← hF1]; simp (disch := omega) only [up_i, up_s]
  have fk : ∀ a : Int, a ≠ 3 → a ≠ 21 → F1 a = F a := fun a h1 h2 => by rw [← hF1, up_r h1, up_r h1]; exact gk a h2
  clear hF1 gk
  obtain ⟨G, gk, s2, r2⟩ := tn (k := k - 1) (X := fun G => up (up G 3 9 y) 3 4 9) _ hv (by omega) (by omega) r1 nd32 (fun G g1 g5 gk => by
    have hm : G 3 4 = 8 := by rw [gk 3 (by decide)]; exact f4
    unfold takS; rw [if_neg (show ¬ G 3 4 = 0 by omega), if_neg (show ¬ G 3 4 = 1 by omega), if_neg (show ¬ G 3 4 = 2 by omega), if_neg (show ¬ G 3 4 = 3 by omega), if_neg (show ¬ G 3 4 = 4 by omega), if_neg (show ¬ G 3 4 = 5 by omega), if_neg (show ¬ G 3 4 = 6 by omega), if_neg (show ¬ G 3 4 = 7 by omega), if_pos hm]
    unfold tkTim
    rw [nmfz g1 g5 (by omega), g5])
  generalize hF2 : up (up (up G 3 9 y) 3 4 9) 3 0 0 = F2 at s2 r2
  have p4 : F2 3 4 = 9 := by rw [← hF2]; simp (disch := omega) only [up_i, up_s]
  have p9 : F2 3 9 = y := by rw [← hF2]; simp (disch := omega) only [up_i, up_s]
  have pk : ∀ a : Int, a ≠ 3 → a ≠ 21 → F2 a = F a := fun a h1 h2 => by rw [← hF2, up_r h1, up_r h1, up_r h1, gk a h2, fk a h1 h2]
  clear hF2 gk
  obtain ⟨G, gk, s3, r3⟩ := tl (k := k - 1 - 1) (X := fun G => up (up G 3 10 w) 3 4 10) _ hv (by omega) (by omega) r2 nl32 (fun G g1 g2 g4 gk => by
    have hm : G 3 4 = 9 := by rw [gk 3 (by decide)]; exact p4
    have gv : G v 0 = n := by rw [gk v (by omega), pk v (by omega) (by omega)]; exact hN.1
    have hf : fndS v (nmW w) G = w := (fndS_of (by omega) (Or.inr ⟨hw.1, by omega, by rw [gk (v + 1) (by omega), pk _ (by omega) (by omega)]; exact hnm w hw.1 hw.2, fun i h1 h2 => by rw [gk (v + 1) (by omega), pk _ (by omega) (by omega), hnm i h1 (by omega)]; exact nmW_ne (by omega) (by omega) (by omega)⟩)).symm
    unfold takS; rw [if_neg (show ¬ G 3 4 = 0 by omega), if_neg (show ¬ G 3 4 = 1 by omega), if_neg (show ¬ G 3 4 = 2 by omega), if_neg (show ¬ G 3 4 = 3 by omega), if_neg (show ¬ G 3 4 = 4 by omega), if_neg (show ¬ G 3 4 = 5 by omega), if_neg (show ¬ G 3 4 = 6 by omega), if_neg (show ¬ G 3 4 = 7 by omega), if_neg (show ¬ G 3 4 = 8 by omega), if_pos hm]
    unfold tkChN
    rw [if_neg (fun z => z ⟨g1, g4⟩), g2, hf, if_neg (by omega)])
  generalize hF3 : up (up (up G 3 10 w) 3 4 10) 3 0 0 = F3 at s3 r3
  have q4 : F3 3 4 = 10 := by rw [← hF3]; simp (disch := omega) only [up_i, up_s]
  have q10 : F3 3 10 = w := by rw [← hF3]; simp (disch := omega) only [up_i, up_s]
  have q9 : F3 3 9 = y := by rw [← hF3, up_i (by omega), up_i (by omega), up_i (by omega), gk 3 (by decide)]; exact p9
  have qk : ∀ a : Int, a ≠ 3 → a ≠ 21 → F3 a = F a := fun a h1 h2 => by rw [← hF3, up_r h1, up_r h1, up_r h1, gk a h2, pk a h1 h2]
  clear hF3 gk
  obtain ⟨G, gk, s4, r4⟩ := tw (k := k - 1 - 1 - 1) (X := fun G => up (up G 3 8 0) 3 4 11) [32] (nmS 0) _ hv (by omega) r3 sp1 (by decide +kernel) nl32 kw_0 (fun G _ g4 gk => by
    have hm : G 3 4 = 10 := by rw [gk 3 (by decide)]; exact q4
    unfold takS; rw [if_neg (show ¬ G 3 4 = 0 by omega), if_neg (show ¬ G 3 4 = 1 by omega), if_neg (show ¬ G 3 4 = 2 by omega), if_neg (show ¬ G 3 4 = 3 by omega), if_neg (show ¬ G 3 4 = 4 by omega), if_neg (show ¬ G 3 4 = 5 by omega), if_neg (show ¬ G 3 4 = 6 by omega), if_neg (show ¬ G 3 4 = 7 by omega), if_neg (show ¬ G 3 4 = 8 by omega), if_neg (show ¬ G 3 4 = 9 by omega), if_pos hm]
    unfold tkChS
    rw [g4, if_pos (Or.inl rfl)])
  generalize hF4 : up (up (up G 3 8 0) 3 4 11) 3 0 0 = F4 at s4 r4
  have t4 : F4 3 4 = 11 := by rw [← hF4]; simp (disch := omega) only [up_i, up_s]
  have t8 : F4 3 8 = 0 := by rw [← hF4]; simp (disch := omega) only [up_i, up_s]
  have t9 : F4 3 9 = y := by rw [← hF4, up_i (by omega), up_i (by omega), up_i (by omega), gk 3 (by decide)]; exact q9
  have t10 : F4 3 10 = w := by rw [← hF4, up_i (by omega), up_i (by omega), up_i (by omega), gk 3 (by decide)]; exact q10
  have tkk : ∀ a : Int, a ≠ 3 → a ≠ 21 → F4 a = F a := fun a h1 h2 => by rw [← hF4, up_r h1, up_r h1, up_r h1, gk a h2, qk a h1 h2]
  clear hF4 gk
  obtain ⟨G, gk, s5, r5⟩ := tn (k := k - 1 - 1 - 1 - 1) (X := fun G => up (chaS v y w 0 x G) 3 4 12) (59 :: rest) hv (by omega) (by omega) r4 nd59 (fun G g1 g5 gk => by
    have g3 : G 3 = F4 3 := gk 3 (by decide)
    have hm : G 3 4 = 11 := by rw [g3]; exact t4
    have hn0 : nmg 0 G = 0 := nmfz g1 g5 ⟨(show (0 : Int) ≤ _ by omega), (show _ ≤ (99 : Int) by omega)⟩
    unfold takS; rw [if_neg (show ¬ G 3 4 = 0 by omega), if_neg (show ¬ G 3 4 = 1 by omega), if_neg (show ¬ G 3 4 = 2 by omega), if_neg (show ¬ G 3 4 = 3 by omega), if_neg (show ¬ G 3 4 = 4 by omega), if_neg (show ¬ G 3 4 = 5 by omega), if_neg (show ¬ G 3 4 = 6 by omega), if_neg (show ¬ G 3 4 = 7 by omega), if_neg (show ¬ G 3 4 = 8 by omega), if_neg (show ¬ G 3 4 = 9 by omega), if_neg (show ¬ G 3 4 = 10 by omega), if_pos hm]
    unfold tkChV
    rw [g3, t8, t9, t10, hn0, if_pos rfl, g5])
  have gc : G (v + 12) 0 = 0 := by rw [gk (v + 12) (by omega), tkk _ (by omega) (by omega)]; exact hc
  generalize hF5 : up (up (chaS v y w 0 x G) 3 4 12) 3 0 0 = F5 at s5 r5
  have ec : chaS v y w 0 x G = up (up (up (up (up G (v + 13) 0 y) (v + 14) 0 w) (v + 15) 0 0) (v + 16) 0 x) (v + 12) 0 (0 + 1) := by unfold chaS; rw [gc]
  rw [ec] at hF5
  have y4 : F5 3 4 = 12 := by rw [← hF5]; simp (disch := omega) only [up_i, up_s]
  have yv : F5 (v + 12) 0 = 1 ∧ F5 (v + 13) 0 = y ∧ F5 (v + 14) 0 = w ∧ F5 (v + 15) 0 = 0 ∧ F5 (v + 16) 0 = x := by
    rw [← hF5]
    simp (disch := omega) only [up_k, up_s]
    refine ⟨by omega, ?_, ?_, ?_, ?_⟩ <;> trivial
  have yk : ∀ a : Int, a ≠ 3 → a ≠ 21 → (a < v + 12 ∨ v + 16 < a) → F5 a = F a := fun a h1 h2 h3 => by rw [← hF5, up_r h1, up_r h1, up_r (by omega), up_r (by omega), up_r (by omega), up_r (by omega), up_r (by omega), gk a h2, tkk a h1 h2]
  clear hF5 gk ec gc
  obtain ⟨H, s6, r6, z4, z0, zk, -⟩ := te (k := k - 1 - 1 - 1 - 1 - 1) rest hv (by omega) r5 y4
  exact ⟨H, by rw [s1, s2, s3, s4, s5, s6]; congr 1, r6, z4, z0, by rw [zk _ (by omega) (by omega), zk _ (by omega) (by omega), zk _ (by omega) (by omega), zk _ (by omega) (by omega), zk _ (by omega) (by omega)]; exact yv, fun a h1 h2 h3 => by rw [zk a h1 h2]; exact yk a h1 h2 h3⟩
/-- all the nodes -/
theorem rd_nodes {v t : Int} {F K : Hp} (hv : isSu v) (hV : TrV K t) (hS : SN v F K t 0) (hm0 : F 3 4 = 0) (h0 : F 3 0 = 0) : ∀ (n k : Nat) (rest : List Int), (n : Int) ≤ K t 0 → 20 * n + 20 < k → RT F (nodesL K t n ++ rest) →
    ∃ (H : Hp) (c : Nat), c ≤ 20 * n ∧ rdS v k F = rdS v (k - c) H ∧ RT H rest ∧ H 3 4 = 0 ∧ H 3 0 = 0 ∧ SN v H K t n ∧ KE v F H
  | 0, k, rest, _, _, h => ⟨F, 0, by omega, rfl, h, hm0, h0, hS, fun _ _ _ => rfl, fun _ _ => rfl, rfl, rfl⟩
  | n + 1, k, rest, hn, hk, h => by
    have e : nodesL K t (n + 1) ++ rest = nodesL K t n ++ (ndL K t n ++ rest) := by
      show (nodesL K t n ++ ndL K t n) ++ rest = _
      rw [List.append_assoc]
    rw [e] at h
    obtain ⟨H, c, a1, a2, a3, a4, a5, a6, a7⟩ := rd_nodes hv hV hS hm0 h0 n k _ (by omega) (by omega) h
    obtain ⟨H2, c2, b1, b2, b3, b4, b5, b6, b7⟩ := rd_node (k := k - c) hv (by omega) hV ⟨by omega, by omega⟩ a6 a4 a3
    refine ⟨H2, c + c2, by omega, by rw [a2, b2]; congr 1; omega, b3, b4, b5, by rw [show ((n + 1 : Nat) : Int) = (n : Int) + 1 by omega]; exact b6, fun a h1 h2 => ?_, fun i hi => ?_, ?_, ?_⟩
    · rw [b7.1 a h1 h2, a7.1 a h1 h2]
    · rw [b7.2.1 i hi, a7.2.1 i hi]
    · rw [b7.2.2.1, a7.2.2.1]
    · rw [b7.2.2.2, a7.2.2.2]

