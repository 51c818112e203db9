theorem spT_w {l : List Int} {F : Hp} : spT (wrN l 1 F) = [32] := by unfold spT; rw [(wrN_f l 1 F).2.2.1, if_neg (by decide)]
theorem spT_z {l : List Int} {F : Hp} : spT (wrN l 0 F) = [] := by unfold spT; rw [(wrN_f l 0 F).2.2.1, if_pos rfl]
theorem wr_b {l : List Int} {s : Int} {F : Hp} {c : Nat} (h : l.length ≤ c) : F 22 0 ≤ wrN l s F 22 0 ∧ wrN l s F 22 0 ≤ F 22 0 + c := by rw [(wrN_f l s F).1]; omega
theorem kw_b (k : Int) (F : Hp) : F 22 0 ≤ wrN (spT F ++ kwT k) 1 F 22 0 ∧ wrN (spT F ++ kwT k) 1 F 22 0 ≤ F 22 0 + (9 : Nat) := wr_b (by have h1 := spT_len F; have h2 := kwT_len k; rw [List.length_append]; omega)
theorem nm_b (k : Int) (F : Hp) : F 22 0 ≤ wrN (spT F ++ nmT k) 1 F 22 0 ∧ wrN (spT F ++ nmT k) 1 F 22 0 ≤ F 22 0 + (9 : Nat) := wr_b (by have h1 := spT_len F; have h2 := nmT_len k; rw [List.length_append]; omega)
theorem nu_b (k : Int) (F : Hp) : F 22 0 ≤ wrN (spT F ++ nuT k) 1 F 22 0 ∧ wrN (spT F ++ nuT k) 1 F 22 0 ≤ F 22 0 + (5 : Nat) := wr_b (by have h1 := spT_len F; have h2 : (nuT k).length ≤ 4 := nuL_len k 4; rw [List.length_append]; omega)
theorem plc_rng (s : Int) : 1 ≤ plc s ∧ plc s ≤ 3 := by
  unfold plc
  split
  · omega
  · split <;> omega
/-- a setting's value now -/
def stV (b u : Int) (F : Hp) (n s : Int) : Int := if s = 0 ∨ s = 1 ∨ s = 4 then F (b + plc s) n else F (u + rwN s) n
def setT (b u : Int) (F : Hp) (n : Int) : Nat → List Int
  | 0 => []
  | s + 1 => setT b u F n s ++ (([32] ++ kwT s) ++ ([32] ++ nuT (stV b u F n s)))
def inT (u : Int) (F : Hp) (n : Int) : List Int := if 0 ≤ F (u + 2) n then ([32] ++ kwT 8) ++ ([32] ++ nmT (F (u + 1) (F (u + 2) n))) else []
def nodT (b u : Int) (F : Hp) (n : Int) : List Int := kwT 7 ++ ([32] ++ nmT (F (u + 1) n)) ++ inT u F n ++ setT b u F n 6 ++ (if F (u + 11) n = 0 then [] else [32] ++ kwT 6) ++ [59]
def chgT (u : Int) (F : Hp) (i : Int) : List Int := kwT 11 ++ ([32] ++ nuT (F (u + 13) i)) ++ ([32] ++ nmT (F (u + 1) (F (u + 14) i))) ++ ([32] ++ kwT (F (u + 15) i)) ++ ([32] ++ nuT (F (u + 16) i)) ++ [59]
def nodsT (b u : Int) (F : Hp) : Nat → List Int
  | 0 => []
  | k + 1 => nodsT b u F k ++ nodT b u F k
def chgsT (b u : Int) (F : Hp) : Nat → List Int
  | 0 => []
  | k + 1 => chgsT b u F k ++ (if F b 1 < F (u + 13) k then chgT u F k else [])
def limT (u : Int) (F : Hp) : List Int := kwT 9 ++ ([32] ++ nuT (F u 13)) ++ [59]
def ageT (u : Int) (F : Hp) : List Int := if F u 14 = -1 then [] else kwT 10 ++ ([32] ++ nuT (F u 14)) ++ [59]
def txtT (b u : Int) (F : Hp) : List Int := nodsT b u F (F u 0).toNat ++ limT u F ++ ageT u F ++ chgsT b u F (F (u + 12) 0).toNat
theorem setT_s {b u n i : Int} {F : Hp} (h : 0 ≤ i) : setT b u F n (i + 1).toNat = setT b u F n i.toNat ++ (([32] ++ kwT i) ++ ([32] ++ nuT (stV b u F n i))) := by
  obtain ⟨k, rfl⟩ : ∃ k : Nat, i = k := ⟨i.toNat, by omega⟩
  rfl
theorem nodsT_s {b u i : Int} {F : Hp} (h : 0 ≤ i) : nodsT b u F (i + 1).toNat = nodsT b u F i.toNat ++ nodT b u F i := by
  obtain ⟨k, rfl⟩ : ∃ k : Nat, i = k := ⟨i.toNat, by omega⟩
  rfl
theorem chgsT_s {b u i : Int} {F : Hp} (h : 0 ≤ i) : chgsT b u F (i + 1).toNat = chgsT b u F i.toNat ++ (if F b 1 < F (u + 13) i then chgT u F i else []) := by
  obtain ⟨k, rfl⟩ : ∃ k : Nat, i = k := ⟨i.toNat, by omega⟩
  rfl
theorem setT_len (b u n : Int) (F : Hp) : ∀ k, (setT b u F n k).length ≤ 14 * k
  | 0 => by simp [setT]
  | k + 1 => by
    unfold setT
    have h1 := setT_len b u n F k
    have h2 := kwT_len k
    have h3 : (nuT (stV b u F n k)).length ≤ 4 := nuL_len _ 4
    simp only [List.length_append, List.length_cons, List.length_nil]
    omega
theorem nodT_len (b u n : Int) (F : Hp) : (nodT b u F n).length ≤ 130 := by
  unfold nodT inT
  have h1 := setT_len b u n F 6
  have h2 := kwT_len 7
  have h3 := kwT_len 8
  have h4 := kwT_len 6
  have h5 := nmT_len (F (u + 1) n)
  have h6 := nmT_len (F (u + 1) (F (u + 2) n))
  split <;> split <;> simp only [List.length_append, List.length_cons, List.length_nil] <;> omega
theorem chgT_len (u n : Int) (F : Hp) : (chgT u F n).length ≤ 40 := by
  unfold chgT
  have h2 := kwT_len 11
  have h3 := kwT_len (F (u + 15) n)
  have h5 := nmT_len (F (u + 1) (F (u + 14) n))
  have h6 : (nuT (F (u + 13) n)).length ≤ 4 := nuL_len _ 4
  have h7 : (nuT (F (u + 16) n)).length ≤ 4 := nuL_len _ 4
  simp only [List.length_append, List.length_cons, List.length_nil]
  omega
theorem nodsT_len (b u : Int) (F : Hp) : ∀ k, (nodsT b u F k).length ≤ 130 * k
  | 0 => by simp [nodsT]
  | k + 1 => by
    unfold nodsT
    have h1 := nodsT_len b u F k
    have h2 := nodT_len b u k F
    rw [List.length_append]
    omega
theorem chgsT_len (b u : Int) (F : Hp) : ∀ k, (chgsT b u F k).length ≤ 40 * k
  | 0 => by simp [chgsT]
  | k + 1 => by
    unfold chgsT
    have h1 := chgsT_len b u F k
    have h2 := chgT_len u k F
    rw [List.length_append]
    split
    · omega
    · rw [List.length_nil]; omega
theorem txt_cong {b u : Int} {F G : Hp} (hb : ∀ a : Int, (b ≤ a ∧ a < b + 24) ∨ (u ≤ a ∧ a < u + 17) → G a = F a) : (∀ n, nodT b u G n = nodT b u F n) ∧ (∀ i, chgT u G i = chgT u F i) ∧ (∀ k, nodsT b u G k = nodsT b u F k) ∧ (∀ k, chgsT b u G k = chgsT b u F k) ∧ limT u G = limT u F ∧ ageT u G = ageT u F ∧ txtT b u G = txtT b u F := by
  have hu : ∀ j : Int, 0 ≤ j → j < 17 → G (u + j) = F (u + j) := fun j h0 h1 => hb _ (by omega)
  have hu0 : G u = F u := hb _ (by omega)
  have hb0 : G b = F b := hb _ (by omega)
  have k1 : ∀ n s, stV b u G n s = stV b u F n s := fun n s => by
    unfold stV
    have q1 := plc_rng s
    have q2 := rwN_rng s
    rw [hb (b + plc s) (by omega), hu _ (by omega) (by omega)]
  have k2 : ∀ n k, setT b u G n k = setT b u F n k := fun n k => by
    induction k with
    | zero => rfl
    | succ k ih => unfold setT; rw [ih, k1]
  have k3 : ∀ n, nodT b u G n = nodT b u F n := fun n => by
    unfold nodT inT
    rw [k2, hu 1 (by omega) (by omega), hu 2 (by omega) (by omega), hu 11 (by omega) (by omega)]
  have k4 : ∀ i, chgT u G i = chgT u F i := fun i => by
    unfold chgT
    rw [hu 1 (by omega) (by omega), hu 13 (by omega) (by omega), hu 14 (by omega) (by omega), hu 15 (by omega) (by omega), hu 16 (by omega) (by omega)]
  have k5 : ∀ k, nodsT b u G k = nodsT b u F k := fun k => by
    induction k with
    | zero => rfl
    | succ k ih => unfold nodsT; rw [ih, k3]
  have k6 : ∀ k, chgsT b u G k = chgsT b u F k := fun k => by
    induction k with
    | zero => rfl
    | succ k ih => unfold chgsT; rw [ih, k4, hb0, hu 13 (by omega) (by omega)]
  have k7 : limT u G = limT u F := by unfold limT; rw [hu0]
  have k8 : ageT u G = ageT u F := by unfold ageT; rw [hu0]
  refine ⟨k3, k4, k5, k6, k7, k8, ?_⟩
  unfold txtT
  rw [k5, k6, k7, k8, hu0, hu 12 (by omega) (by omega)]
theorem stV_rng {b u n s : Int} {F : Hp} (hU : SuI u F) (hA : AcI b u F) (hn : 0 ≤ n ∧ n < F u 0) (hs : 0 ≤ s ∧ s < 6) : 0 ≤ stV b u F n s ∧ stV b u F n s ≤ 999 := by
  have h1 := hU.2.2.2.2.2.2.1 n hn.1 hn.2
  have h2 := hA n hn.1 hn.2
  unfold stV
  have hc : s = 0 ∨ s = 1 ∨ s = 2 ∨ s = 3 ∨ s = 4 ∨ s = 5 := by omega
  rcases hc with rfl | rfl | rfl | rfl | rfl | rfl
  · rw [if_pos (by decide), show plc 0 = 1 from rfl]; omega
  · rw [if_pos (by decide), show plc 1 = 2 from rfl]; omega
  · rw [if_neg (by decide), show rwN 2 = 7 from rfl]; omega
  · rw [if_neg (by decide), show rwN 3 = 8 from rfl]; omega
  · rw [if_pos (by decide), show plc 4 = 3 from rfl]; omega
  · rw [if_neg (by decide), show rwN 5 = 10 from rfl]; omega
def W0 (w : Int) (F : Hp) : Hp := (up (up (up (up F 22 2 w) 22 1 (-2)) 22 0 0) 22 3 0)
theorem W0_f (w : Int) (F : Hp) : W0 w F 22 0 = 0 ∧ W0 w F 22 1 = -2 ∧ W0 w F 22 2 = w ∧ W0 w F 22 3 = 0 := by
  unfold W0
  simp (disch := omega) only [up_i, up_s, and_self]
theorem W0_r {w a : Int} {F : Hp} (h : a ≠ 22) : W0 w F a = F a := by unfold W0; rw [up_r h, up_r h, up_r h, up_r h]
theorem wW_r {l : List Int} {s w a : Int} {F : Hp} (h : a ≠ 22) : wrN l s (W0 w F) a = F a := by rw [wrN_r h, W0_r h]
set_option maxRecDepth 100000 in
set_option maxHeartbeats 4000000 in
theorem c_canChange {V : VX} {F : Hp} {s : Int} (hs : I32 s) : Ct V yX10_canChange cX10_canChange 1 (some .boolean) 0 0 0 0 SH [vi s] F SH 1 (fun r F' => ((r = 1 ∧ (s = 0 ∨ s = 1 ∨ s = 4)) ∨ (r = 0 ∧ ¬ (s = 0 ∨ s = 1 ∨ s = 4))) ∧ F' = F) := by
  refine Ct.of [some (vi s)] (by decide) (by simp [lg_sl, vi_cat, vl_cat, vr_cat]) rfl (by simp [asc, lv_args, vi_cat, vl_cat, vr_cat]) (fun X hV hX => ?_)
  subst hV
  refine R_iload_0 hX dX10_canChange_0 ?_
  refine R_ifeq (tgt := 14) hX dX10_canChange_1 (by decide) ⟨by omega, by omega⟩ (fun c_1 => ?_) (fun c_1 => ?_)
  · skip
    refine R_iconst hX dX10_canChange_14 ?_
    refine R_goto (tgt := 19) hX dX10_canChange_15 (by decide) ?_
    exact R_zret hX (by omega) dX10_canChange_19 ⟨by omega, rfl⟩
  · skip
    refine R_iload_0 hX dX10_canChange_4 ?_
    refine R_iconst hX dX10_canChange_5 ?_
    refine R_icmpeq (tgt := 14) hX dX10_canChange_6 (by decide) ⟨by omega, by omega⟩ ⟨by omega, by omega⟩ (fun c_6 => ?_) (fun c_6 => ?_)
    · skip
      refine R_iconst hX dX10_canChange_14 ?_
      refine R_goto (tgt := 19) hX dX10_canChange_15 (by decide) ?_
      exact R_zret hX (by omega) dX10_canChange_19 ⟨by omega, rfl⟩
    · skip
      refine R_iload_0 hX dX10_canChange_9 ?_
      refine R_iconst hX dX10_canChange_10 ?_
      refine R_icmpne (tgt := 18) hX dX10_canChange_11 (by decide) ⟨by omega, by omega⟩ ⟨by omega, by omega⟩ (fun c_11 => ?_) (fun c_11 => ?_)
      · skip
        refine R_iconst hX dX10_canChange_18 ?_
        exact R_zret hX (by omega) dX10_canChange_19 ⟨by omega, rfl⟩
      · skip
        refine R_iconst hX dX10_canChange_14 ?_
        refine R_goto (tgt := 19) hX dX10_canChange_15 (by decide) ?_
        exact R_zret hX (by omega) dX10_canChange_19 ⟨by omega, rfl⟩
set_option maxRecDepth 100000 in
set_option maxHeartbeats 4000000 in
theorem c_wNode {V : VX} {F : Hp} {u b : Int} (hu : isSu u) (hb : isSt b) (hU : SuI u F) (hA : AcI b u F) (h0 : 0 ≤ F 22 0 ∧ F 22 0 ≤ 80000) (hw : I32 (F 22 2)) (hs : F 22 3 = 0) {m : Int} (hm : 0 ≤ m ∧ m < F u 0) : Ct V yX10_writeNode cX10_writeNode 5 none 5 108 0 0 SH [vr V 22, vr V u, vr V b, vi m] F SH 0 (fun r F' => F' = wrN (nodT b u F m) 0 F) := by
  refine Ct.of [some (vr V 22), some (vr V u), some (vr V b), some (vi m), none] (by decide) (by simp [lg_sl, vi_cat, vl_cat, vr_cat]) rfl (by simp [asc, lv_args, vi_cat, vl_cat, vr_cat]) (fun X hV hX => ?_)
  subst hV
  have hsp0 : spT F = [] := by unfold spT; rw [if_pos hs]
  have hN := hU.1
  have ht := hU.2.1 m hm.1 hm.2
  have hal := hU.2.2.2.2.2.2.2.1 m hm.1 hm.2
  refine R_aload_0 hX dX10_writeNode_0 ?_
  refine R_bipush hX dX10_writeNode_1 (by decide) ?_
  refine R_v1v hX dX10_writeNode_3 li_X10_34 mk_X10_putKeyword mi_X10_putKeyword rfl o_22 (c_wKw (by omega) hw (by rw [hs]; constructor <;> omega) (by constructor <;> omega)) ⟨⟨by decide, by decide⟩, by decide, by decide, rfl, Nat.le_of_ble_eq_true rfl, rfl⟩ (fun x_3 F_3 h_3 => ?_)
  subst h_3
  have b_3 := kw_b 7 F
  rw [hsp0, List.nil_append] at b_3 ⊢
  refine R_aload_0 hX dX10_writeNode_6 ?_
  refine R_aload_1 hX dX10_writeNode_7 ?_
  refine R_getq (v := u + 1) hX dX10_writeNode_8 fl_X10_71 (to_0 hu) rfl (by omega) ?_
  refine R_iload_3 hX dX10_writeNode_11 ?_
  refine R_lald hX dX10_writeNode_12 (ta_1 hu) ⟨by omega, by omega⟩ ?_
  try simp (disch := omega) only [wrN_r]
  refine R_v1v hX dX10_writeNode_13 li_X10_75 mk_X10_putName mi_X10_putName rfl o_22 (c_wName (by omega) (by rw [(wrN_f _ _ _).2.1]; exact hw) (by rw [(wrN_f _ _ _).2.2.1]; constructor <;> omega)) ⟨⟨by decide, by decide⟩, by decide, by decide, rfl, Nat.le_of_ble_eq_true rfl, rfl⟩ (fun x_13 F_13 h_13 => ?_)
  subst h_13
  have b_13 := nm_b (F (u + 1) m) (wrN (kwT 7) 1 F)
  rw [spT_w, wrN_wrN] at b_13 ⊢
  refine R_aload_1 hX dX10_writeNode_16 ?_
  refine R_aload_1 hX dX10_writeNode_17 ?_
  refine R_getq (v := u + 2) hX dX10_writeNode_18 fl_X10_79 (to_0 hu) rfl (by omega) ?_
  refine R_iload_3 hX dX10_writeNode_21 ?_
  refine R_iald hX dX10_writeNode_22 (ta_2 hu) ⟨by omega, by omega⟩ ?_
  try simp (disch := omega) only [wrN_r]
  refine R_v1i hX dX10_writeNode_23 li_X10_82 mk_X7_hasNode mi_X7_hasNode rfl (to_0 hu) (c_hasNode hu (by rw [wrN_r (by omega)]; exact hN) (by constructor <;> omega)) ⟨⟨by decide, by decide⟩, by decide, by decide, rfl, Nat.le_of_ble_eq_true rfl, rfl⟩ (fun x_23 F_23 h_23 => ?_)
  obtain ⟨h_23, e_23⟩ := h_23; replace e_23 := e_23.symm; subst e_23
  rw [wrN_r (by omega)] at h_23
  refine R_ifeq (tgt := 50) hX dX10_writeNode_26 (by decide) ⟨by omega, by omega⟩ (fun c_26 => ?_) (fun c_26 => ?_)
  · skip
    refine R_iconst hX dX10_writeNode_50 ?_
    refine R_istore_4 hX c1_i dX10_writeNode_51 ?_
    have lp_53 : ∀ (n : Nat) (i : Int), (0 ≤ i ∧ i ≤ 6) → (7 - i).toNat < n → R X SH 0 0 53 [some (vr (xV X) 22), some (vr (xV X) u), some (vr (xV X) b), some (vi m), some (vi i)] [] (wrN ((kwT 7 ++ ([32] ++ nmT (F (u + 1) m)) ++ inT u F m) ++ setT b u F m i.toNat) 1 F) (Zq X SH 0 (fun r F' => F' = wrN (nodT b u F m) 0 F) 0 0) := by
      intro n
      induction n with
      | zero => intro i iv53_0 hm; exact absurd hm (Nat.not_lt_zero _)
      | succ n ih_53 =>
        intro i iv53_0 hm_53
        have hbd : F 22 0 ≤ wrN ((kwT 7 ++ ([32] ++ nmT (F (u + 1) m)) ++ inT u F m) ++ setT b u F m i.toNat) 1 F 22 0 ∧ wrN ((kwT 7 ++ ([32] ++ nmT (F (u + 1) m)) ++ inT u F m) ++ setT b u F m i.toNat) 1 F 22 0 ≤ F 22 0 + (120 : Nat) := wr_b (by have h1 := setT_len b u m F i.toNat; have h2 := kwT_len 7; have h3 := kwT_len 8; have h5 := nmT_len (F (u + 1) m); have h6 := nmT_len (F (u + 1) (F (u + 2) m)); unfold inT; split <;> simp only [List.length_append, List.length_cons, List.length_nil] <;> omega)
        refine R_iload_4 hX dX10_writeNode_53 ?_
        refine R_bipush hX dX10_writeNode_55 (by decide) ?_
        refine R_icmpge (tgt := 103) hX dX10_writeNode_57 (by decide) ⟨by omega, by omega⟩ ⟨by omega, by omega⟩ (fun c_57 => ?_) (fun c_57 => ?_)
        · skip
          have hi : i = 6 := by omega
          subst hi
          refine R.eq rfl rfl (show _ = wrN ((kwT 7 ++ ([32] ++ nmT (F (u + 1) m)) ++ inT u F m) ++ setT b u F m 6) 1 F from rfl) ?_
          replace hbd : F 22 0 ≤ wrN ((kwT 7 ++ ([32] ++ nmT (F (u + 1) m)) ++ inT u F m) ++ setT b u F m 6) 1 F 22 0 ∧ wrN ((kwT 7 ++ ([32] ++ nmT (F (u + 1) m)) ++ inT u F m) ++ setT b u F m 6) 1 F 22 0 ≤ F 22 0 + (120 : Nat) := hbd
          refine R_aload_1 hX dX10_writeNode_103 ?_
          refine R_getq (v := u + 11) hX dX10_writeNode_104 fl_X10_94 (to_0 hu) rfl (by omega) ?_
          refine R_iload_3 hX dX10_writeNode_107 ?_
          refine R_zald hX dX10_writeNode_108 (ta_11 hu) ⟨by omega, by omega⟩ ?_
          try simp (disch := omega) only [wrN_r]
          refine R_ifeq (tgt := 118) hX dX10_writeNode_109 (by decide) ⟨by omega, by omega⟩ (fun c_109 => ?_) (fun c_109 => ?_)
          · skip
            refine R_aload_0 hX dX10_writeNode_118 ?_
            refine R_v0v hX dX10_writeNode_119 li_X10_44 mk_X10_putSemicolon mi_X10_putSemicolon rfl o_22 (c_wSemi (by omega) (by rw [(wrN_f _ _ _).2.1]; exact hw)) ⟨⟨by decide, by decide⟩, by decide, by decide, rfl, Nat.le_of_ble_eq_true rfl, rfl⟩ (fun x_119 F_119 h_119 => ?_)
            subst h_119
            rw [wrN_wrN]
            exact R_vret hX dX10_writeNode_122 (by unfold nodT; first | (rw [if_pos (by omega), List.append_nil]; done) | (rw [if_neg (by omega)]; done))
          · skip
            refine R_aload_0 hX dX10_writeNode_112 ?_
            refine R_bipush hX dX10_writeNode_113 (by decide) ?_
            refine R_v1v hX dX10_writeNode_115 li_X10_34 mk_X10_putKeyword mi_X10_putKeyword rfl o_22 (c_wKw (by omega) (by rw [(wrN_f _ _ _).2.1]; exact hw) (by rw [(wrN_f _ _ _).2.2.1]; constructor <;> omega) (by constructor <;> omega)) ⟨⟨by decide, by decide⟩, by decide, by decide, rfl, Nat.le_of_ble_eq_true rfl, rfl⟩ (fun x_115 F_115 h_115 => ?_)
            subst h_115
            have b_115 := kw_b 6 (wrN ((kwT 7 ++ ([32] ++ nmT (F (u + 1) m)) ++ inT u F m) ++ setT b u F m 6) 1 F)
            rw [spT_w, wrN_wrN] at b_115 ⊢
            refine R_aload_0 hX dX10_writeNode_118 ?_
            refine R_v0v hX dX10_writeNode_119 li_X10_44 mk_X10_putSemicolon mi_X10_putSemicolon rfl o_22 (c_wSemi (by omega) (by rw [(wrN_f _ _ _).2.1]; exact hw)) ⟨⟨by decide, by decide⟩, by decide, by decide, rfl, Nat.le_of_ble_eq_true rfl, rfl⟩ (fun x_119 F_119 h_119 => ?_)
            subst h_119
            rw [wrN_wrN]
            exact R_vret hX dX10_writeNode_122 (by unfold nodT; first | (rw [if_pos (by omega), List.append_nil]; done) | (rw [if_neg (by omega)]; done))
        · skip
          have hsv := stV_rng (s := i) hU hA hm (by omega)
          refine R_aload_0 hX dX10_writeNode_60 ?_
          refine R_iload_4 hX dX10_writeNode_61 ?_
          refine R_v1v hX dX10_writeNode_63 li_X10_34 mk_X10_putKeyword mi_X10_putKeyword rfl o_22 (c_wKw (by omega) (by rw [(wrN_f _ _ _).2.1]; exact hw) (by rw [(wrN_f _ _ _).2.2.1]; constructor <;> omega) (by constructor <;> omega)) ⟨⟨by decide, by decide⟩, by decide, by decide, rfl, Nat.le_of_ble_eq_true rfl, rfl⟩ (fun x_63 F_63 h_63 => ?_)
          subst h_63
          have b_63 := kw_b i (wrN ((kwT 7 ++ ([32] ++ nmT (F (u + 1) m)) ++ inT u F m) ++ setT b u F m i.toNat) 1 F)
          rw [spT_w, wrN_wrN] at b_63 ⊢
          refine R_aload_0 hX dX10_writeNode_66 ?_
          refine R_iload_4 hX dX10_writeNode_67 ?_
          refine R_s1i hX dX10_writeNode_69 li_X10_86 mk_X10_canChange ms_X10_canChange (c_canChange (by constructor <;> omega)) ⟨⟨by decide, by decide⟩, by decide, by decide, rfl, Nat.le_of_ble_eq_true rfl, rfl⟩ (fun x_69 F_69 h_69 => ?_)
          obtain ⟨h_69, e_69⟩ := h_69; replace e_69 := e_69.symm; subst e_69
          refine R_ifeq (tgt := 86) hX dX10_writeNode_72 (by decide) ⟨by omega, by omega⟩ (fun c_72 => ?_) (fun c_72 => ?_)
          · skip
            skip
            refine R_aload_1 hX dX10_writeNode_86 ?_
            refine R_iload_4 hX dX10_writeNode_87 ?_
            refine R_v1r hX dX10_writeNode_89 li_X10_93 mk_X7_row mi_X7_row rfl (to_0 hu) (c_suRow hu (by constructor <;> omega)) ⟨⟨by decide, by decide⟩, by decide, by decide, rfl, Nat.le_of_ble_eq_true rfl, rfl⟩ (fun x_89 F_89 h_89 => ?_)
            obtain ⟨h_89, e_89⟩ := h_89; replace e_89 := e_89.symm; subst e_89
            have hrwn := rwN_rng i
            have hrow : isA SH x_89 .int 12 := by rw [h_89]; exact ta_row hu
            subst h_89
            refine R_iload_3 hX dX10_writeNode_92 ?_
            refine R_iald hX dX10_writeNode_93 hrow ⟨by omega, by omega⟩ ?_
            try simp (disch := omega) only [wrN_r]
            first | (rw [show F (b + plc i) m = stV b u F m i by unfold stV; rw [if_pos (by omega)]]) | (rw [show F (u + rwN i) m = stV b u F m i by unfold stV; rw [if_neg (by omega)]])
            refine R_v1v hX dX10_writeNode_94 li_X10_41 mk_X10_putNumber mi_X10_putNumber rfl o_22 (c_wNum (by omega) (by rw [(wrN_f _ _ _).2.1]; exact hw) (by rw [(wrN_f _ _ _).2.2.1]; constructor <;> omega) (by omega)) ⟨⟨by decide, by decide⟩, by decide, by decide, rfl, Nat.le_of_ble_eq_true rfl, rfl⟩ (fun x_94 F_94 h_94 => ?_)
            subst h_94
            rw [spT_w, wrN_wrN]
            refine R.eq rfl rfl (show _ = wrN ((kwT 7 ++ ([32] ++ nmT (F (u + 1) m)) ++ inT u F m) ++ setT b u F m (i + 1).toNat) 1 F by rw [setT_s iv53_0.1]; simp only [List.append_assoc]) ?_
            refine R_iinc_4 hX c1_i dX10_writeNode_97 ?_
            refine R_goto (tgt := 53) hX dX10_writeNode_100 (by decide) ?_
            exact ih_53 _ (by omega) (by omega)
          · skip
            refine R_aload_2 hX dX10_writeNode_75 ?_
            refine R_iload_4 hX dX10_writeNode_76 ?_
            refine R_v1r hX dX10_writeNode_78 li_X10_89 mk_X8_row mi_X8_row rfl (so_0 hb) (c_stRow hb (by constructor <;> omega)) ⟨⟨by decide, by decide⟩, by decide, by decide, rfl, Nat.le_of_ble_eq_true rfl, rfl⟩ (fun x_78 F_78 h_78 => ?_)
            obtain ⟨h_78, e_78⟩ := h_78; replace e_78 := e_78.symm; subst e_78
            have hplc := plc_rng i
            have hrow : isA SH x_78 .int 12 := by rw [h_78]; exact sa_plc hb
            subst h_78
            refine R_iload_3 hX dX10_writeNode_81 ?_
            refine R_iald hX dX10_writeNode_82 hrow ⟨by omega, by omega⟩ ?_
            try simp (disch := omega) only [wrN_r]
            refine R_goto (tgt := 94) hX dX10_writeNode_83 (by decide) ?_
            first | (rw [show F (b + plc i) m = stV b u F m i by unfold stV; rw [if_pos (by omega)]]) | (rw [show F (u + rwN i) m = stV b u F m i by unfold stV; rw [if_neg (by omega)]])
            refine R_v1v hX dX10_writeNode_94 li_X10_41 mk_X10_putNumber mi_X10_putNumber rfl o_22 (c_wNum (by omega) (by rw [(wrN_f _ _ _).2.1]; exact hw) (by rw [(wrN_f _ _ _).2.2.1]; constructor <;> omega) (by omega)) ⟨⟨by decide, by decide⟩, by decide, by decide, rfl, Nat.le_of_ble_eq_true rfl, rfl⟩ (fun x_94 F_94 h_94 => ?_)
            subst h_94
            rw [spT_w, wrN_wrN]
            refine R.eq rfl rfl (show _ = wrN ((kwT 7 ++ ([32] ++ nmT (F (u + 1) m)) ++ inT u F m) ++ setT b u F m (i + 1).toNat) 1 F by rw [setT_s iv53_0.1]; simp only [List.append_assoc]) ?_
            refine R_iinc_4 hX c1_i dX10_writeNode_97 ?_
            refine R_goto (tgt := 53) hX dX10_writeNode_100 (by decide) ?_
            exact ih_53 _ (by omega) (by omega)
    refine R.eq rfl rfl (show _ = wrN ((kwT 7 ++ ([32] ++ nmT (F (u + 1) m)) ++ inT u F m) ++ setT b u F m (0 : Int).toNat) 1 F by rw [show setT b u F m (0 : Int).toNat = [] from rfl, List.append_nil]; unfold inT; first | (rw [if_pos (by omega)]; simp only [List.append_assoc]; done) | (rw [if_neg (by omega), List.append_nil]; done)) ?_
    exact lp_53 8 0 (by omega) (by omega)
  · skip
    refine R_aload_0 hX dX10_writeNode_29 ?_
    refine R_bipush hX dX10_writeNode_30 (by decide) ?_
    refine R_v1v hX dX10_writeNode_32 li_X10_34 mk_X10_putKeyword mi_X10_putKeyword rfl o_22 (c_wKw (by omega) (by rw [(wrN_f _ _ _).2.1]; exact hw) (by rw [(wrN_f _ _ _).2.2.1]; constructor <;> omega) (by constructor <;> omega)) ⟨⟨by decide, by decide⟩, by decide, by decide, rfl, Nat.le_of_ble_eq_true rfl, rfl⟩ (fun x_32 F_32 h_32 => ?_)
    subst h_32
    have b_32 := kw_b 8 (wrN (kwT 7 ++ ([32] ++ nmT (F (u + 1) m))) 1 F)
    rw [spT_w, wrN_wrN] at b_32 ⊢
    refine R_aload_0 hX dX10_writeNode_35 ?_
    refine R_aload_1 hX dX10_writeNode_36 ?_
    refine R_getq (v := u + 1) hX dX10_writeNode_37 fl_X10_71 (to_0 hu) rfl (by omega) ?_
    refine R_aload_1 hX dX10_writeNode_40 ?_
    refine R_getq (v := u + 2) hX dX10_writeNode_41 fl_X10_79 (to_0 hu) rfl (by omega) ?_
    refine R_iload_3 hX dX10_writeNode_44 ?_
    refine R_iald hX dX10_writeNode_45 (ta_2 hu) ⟨by omega, by omega⟩ ?_
    try simp (disch := omega) only [wrN_r]
    refine R_lald hX dX10_writeNode_46 (ta_1 hu) ⟨by omega, by omega⟩ ?_
    try simp (disch := omega) only [wrN_r]
    refine R_v1v hX dX10_writeNode_47 li_X10_75 mk_X10_putName mi_X10_putName rfl o_22 (c_wName (by omega) (by rw [(wrN_f _ _ _).2.1]; exact hw) (by rw [(wrN_f _ _ _).2.2.1]; constructor <;> omega)) ⟨⟨by decide, by decide⟩, by decide, by decide, rfl, Nat.le_of_ble_eq_true rfl, rfl⟩ (fun x_47 F_47 h_47 => ?_)
    subst h_47
    have b_47 := nm_b (F (u + 1) (F (u + 2) m)) (wrN (kwT 7 ++ ([32] ++ nmT (F (u + 1) m)) ++ ([32] ++ kwT 8)) 1 F)
    rw [spT_w, wrN_wrN] at b_47 ⊢
    refine R_iconst hX dX10_writeNode_50 ?_
    refine R_istore_4 hX c1_i dX10_writeNode_51 ?_
    have lp_53 : ∀ (n : Nat) (i : Int), (0 ≤ i ∧ i ≤ 6) → (7 - i).toNat < n → R X SH 0 0 53 [some (vr (xV X) 22), some (vr (xV X) u), some (vr (xV X) b), some (vi m), some (vi i)] [] (wrN ((kwT 7 ++ ([32] ++ nmT (F (u + 1) m)) ++ inT u F m) ++ setT b u F m i.toNat) 1 F) (Zq X SH 0 (fun r F' => F' = wrN (nodT b u F m) 0 F) 0 0) := by
      intro n
      induction n with
      | zero => intro i iv53_0 hm; exact absurd hm (Nat.not_lt_zero _)
      | succ n ih_53 =>
        intro i iv53_0 hm_53
        have hbd : F 22 0 ≤ wrN ((kwT 7 ++ ([32] ++ nmT (F (u + 1) m)) ++ inT u F m) ++ setT b u F m i.toNat) 1 F 22 0 ∧ wrN ((kwT 7 ++ ([32] ++ nmT (F (u + 1) m)) ++ inT u F m) ++ setT b u F m i.toNat) 1 F 22 0 ≤ F 22 0 + (120 : Nat) := wr_b (by have h1 := setT_len b u m F i.toNat; have h2 := kwT_len 7; have h3 := kwT_len 8; have h5 := nmT_len (F (u + 1) m); have h6 := nmT_len (F (u + 1) (F (u + 2) m)); unfold inT; split <;> simp only [List.length_append, List.length_cons, List.length_nil] <;> omega)
        refine R_iload_4 hX dX10_writeNode_53 ?_
        refine R_bipush hX dX10_writeNode_55 (by decide) ?_
        refine R_icmpge (tgt := 103) hX dX10_writeNode_57 (by decide) ⟨by omega, by omega⟩ ⟨by omega, by omega⟩ (fun c_57 => ?_) (fun c_57 => ?_)
        · skip
          have hi : i = 6 := by omega
          subst hi
          refine R.eq rfl rfl (show _ = wrN ((kwT 7 ++ ([32] ++ nmT (F (u + 1) m)) ++ inT u F m) ++ setT b u F m 6) 1 F from rfl) ?_
          replace hbd : F 22 0 ≤ wrN ((kwT 7 ++ ([32] ++ nmT (F (u + 1) m)) ++ inT u F m) ++ setT b u F m 6) 1 F 22 0 ∧ wrN ((kwT 7 ++ ([32] ++ nmT (F (u + 1) m)) ++ inT u F m) ++ setT b u F m 6) 1 F 22 0 ≤ F 22 0 + (120 : Nat) := hbd
          refine R_aload_1 hX dX10_writeNode_103 ?_
          refine R_getq (v := u + 11) hX dX10_writeNode_104 fl_X10_94 (to_0 hu) rfl (by omega) ?_
          refine R_iload_3 hX dX10_writeNode_107 ?_
          refine R_zald hX dX10_writeNode_108 (ta_11 hu) ⟨by omega, by omega⟩ ?_
          try simp (disch := omega) only [wrN_r]
          refine R_ifeq (tgt := 118) hX dX10_writeNode_109 (by decide) ⟨by omega, by omega⟩ (fun c_109 => ?_) (fun c_109 => ?_)
          · skip
            refine R_aload_0 hX dX10_writeNode_118 ?_
            refine R_v0v hX dX10_writeNode_119 li_X10_44 mk_X10_putSemicolon mi_X10_putSemicolon rfl o_22 (c_wSemi (by omega) (by rw [(wrN_f _ _ _).2.1]; exact hw)) ⟨⟨by decide, by decide⟩, by decide, by decide, rfl, Nat.le_of_ble_eq_true rfl, rfl⟩ (fun x_119 F_119 h_119 => ?_)
            subst h_119
            rw [wrN_wrN]
            exact R_vret hX dX10_writeNode_122 (by unfold nodT; first | (rw [if_pos (by omega), List.append_nil]; done) | (rw [if_neg (by omega)]; done))
          · skip
            refine R_aload_0 hX dX10_writeNode_112 ?_
            refine R_bipush hX dX10_writeNode_113 (by decide) ?_
            refine R_v1v hX dX10_writeNode_115 li_X10_34 mk_X10_putKeyword mi_X10_putKeyword rfl o_22 (c_wKw (by omega) (by rw [(wrN_f _ _ _).2.1]; exact hw) (by rw [(wrN_f _ _ _).2.2.1]; constructor <;> omega) (by constructor <;> omega)) ⟨⟨by decide, by decide⟩, by decide, by decide, rfl, Nat.le_of_ble_eq_true rfl, rfl⟩ (fun x_115 F_115 h_115 => ?_)
            subst h_115
            have b_115 := kw_b 6 (wrN ((kwT 7 ++ ([32] ++ nmT (F (u + 1) m)) ++ inT u F m) ++ setT b u F m 6) 1 F)
            rw [spT_w, wrN_wrN] at b_115 ⊢
            refine R_aload_0 hX dX10_writeNode_118 ?_
            refine R_v0v hX dX10_writeNode_119 li_X10_44 mk_X10_putSemicolon mi_X10_putSemicolon rfl o_22 (c_wSemi (by omega) (by rw [(wrN_f _ _ _).2.1]; exact hw)) ⟨⟨by decide, by decide⟩, by decide, by decide, rfl, Nat.le_of_ble_eq_true rfl, rfl⟩ (fun x_119 F_119 h_119 => ?_)
            subst h_119
            rw [wrN_wrN]
            exact R_vret hX dX10_writeNode_122 (by unfold nodT; first | (rw [if_pos (by omega), List.append_nil]; done) | (rw [if_neg (by omega)]; done))
        · skip
          have hsv := stV_rng (s := i) hU hA hm (by omega)
          refine R_aload_0 hX dX10_writeNode_60 ?_
          refine R_iload_4 hX dX10_writeNode_61 ?_
          refine R_v1v hX dX10_writeNode_63 li_X10_34 mk_X10_putKeyword mi_X10_putKeyword rfl o_22 (c_wKw (by omega) (by rw [(wrN_f _ _ _).2.1]; exact hw) (by rw [(wrN_f _ _ _).2.2.1]; constructor <;> omega) (by constructor <;> omega)) ⟨⟨by decide, by decide⟩, by decide, by decide, rfl, Nat.le_of_ble_eq_true rfl, rfl⟩ (fun x_63 F_63 h_63 => ?_)
          subst h_63
          have b_63 := kw_b i (wrN ((kwT 7 ++ ([32] ++ nmT (F (u + 1) m)) ++ inT u F m) ++ setT b u F m i.toNat) 1 F)
          rw [spT_w, wrN_wrN] at b_63 ⊢
          refine R_aload_0 hX dX10_writeNode_66 ?_
          refine R_iload_4 hX dX10_writeNode_67 ?_
          refine R_s1i hX dX10_writeNode_69 li_X10_86 mk_X10_canChange ms_X10_canChange (c_canChange (by constructor <;> omega)) ⟨⟨by decide, by decide⟩, by decide, by decide, rfl, Nat.le_of_ble_eq_true rfl, rfl⟩ (fun x_69 F_69 h_69 => ?_)
          obtain ⟨h_69, e_69⟩ := h_69; replace e_69 := e_69.symm; subst e_69
          refine R_ifeq (tgt := 86) hX dX10_writeNode_72 (by decide) ⟨by omega, by omega⟩ (fun c_72 => ?_) (fun c_72 => ?_)
          · skip
            skip
            refine R_aload_1 hX dX10_writeNode_86 ?_
            refine R_iload_4 hX dX10_writeNode_87 ?_
            refine R_v1r hX dX10_writeNode_89 li_X10_93 mk_X7_row mi_X7_row rfl (to_0 hu) (c_suRow hu (by constructor <;> omega)) ⟨⟨by decide, by decide⟩, by decide, by decide, rfl, Nat.le_of_ble_eq_true rfl, rfl⟩ (fun x_89 F_89 h_89 => ?_)
            obtain ⟨h_89, e_89⟩ := h_89; replace e_89 := e_89.symm; subst e_89
            have hrwn := rwN_rng i
            have hrow : isA SH x_89 .int 12 := by rw [h_89]; exact ta_row hu
            subst h_89
            refine R_iload_3 hX dX10_writeNode_92 ?_
            refine R_iald hX dX10_writeNode_93 hrow ⟨by omega, by omega⟩ ?_
            try simp (disch := omega) only [wrN_r]
            first | (rw [show F (b + plc i) m = stV b u F m i by unfold stV; rw [if_pos (by omega)]]) | (rw [show F (u + rwN i) m = stV b u F m i by unfold stV; rw [if_neg (by omega)]])
            refine R_v1v hX dX10_writeNode_94 li_X10_41 mk_X10_putNumber mi_X10_putNumber rfl o_22 (c_wNum (by omega) (by rw [(wrN_f _ _ _).2.1]; exact hw) (by rw [(wrN_f _ _ _).2.2.1]; constructor <;> omega) (by omega)) ⟨⟨by decide, by decide⟩, by decide, by decide, rfl, Nat.le_of_ble_eq_true rfl, rfl⟩ (fun x_94 F_94 h_94 => ?_)
            subst h_94
            rw [spT_w, wrN_wrN]
            refine R.eq rfl rfl (show _ = wrN ((kwT 7 ++ ([32] ++ nmT (F (u + 1) m)) ++ inT u F m) ++ setT b u F m (i + 1).toNat) 1 F by rw [setT_s iv53_0.1]; simp only [List.append_assoc]) ?_
            refine R_iinc_4 hX c1_i dX10_writeNode_97 ?_
            refine R_goto (tgt := 53) hX dX10_writeNode_100 (by decide) ?_
            exact ih_53 _ (by omega) (by omega)
          · skip
            refine R_aload_2 hX dX10_writeNode_75 ?_
            refine R_iload_4 hX dX10_writeNode_76 ?_
            refine R_v1r hX dX10_writeNode_78 li_X10_89 mk_X8_row mi_X8_row rfl (so_0 hb) (c_stRow hb (by constructor <;> omega)) ⟨⟨by decide, by decide⟩, by decide, by decide, rfl, Nat.le_of_ble_eq_true rfl, rfl⟩ (fun x_78 F_78 h_78 => ?_)
            obtain ⟨h_78, e_78⟩ := h_78; replace e_78 := e_78.symm; subst e_78
            have hplc := plc_rng i
            have hrow : isA SH x_78 .int 12 := by rw [h_78]; exact sa_plc hb
            subst h_78
            refine R_iload_3 hX dX10_writeNode_81 ?_
            refine R_iald hX dX10_writeNode_82 hrow ⟨by omega, by omega⟩ ?_
            try simp (disch := omega) only [wrN_r]
            refine R_goto (tgt := 94) hX dX10_writeNode_83 (by decide) ?_
            first | (rw [show F (b + plc i) m = stV b u F m i by unfold stV; rw [if_pos (by omega)]]) | (rw [show F (u + rwN i) m = stV b u F m i by unfold stV; rw [if_neg (by omega)]])
            refine R_v1v hX dX10_writeNode_94 li_X10_41 mk_X10_putNumber mi_X10_putNumber rfl o_22 (c_wNum (by omega) (by rw [(wrN_f _ _ _).2.1]; exact hw) (by rw [(wrN_f _ _ _).2.2.1]; constructor <;> omega) (by omega)) ⟨⟨by decide, by decide⟩, by decide, by decide, rfl, Nat.le_of_ble_eq_true rfl, rfl⟩ (fun x_94 F_94 h_94 => ?_)
            subst h_94
            rw [spT_w, wrN_wrN]
            refine R.eq rfl rfl (show _ = wrN ((kwT 7 ++ ([32] ++ nmT (F (u + 1) m)) ++ inT u F m) ++ setT b u F m (i + 1).toNat) 1 F by rw [setT_s iv53_0.1]; simp only [List.append_assoc]) ?_
            refine R_iinc_4 hX c1_i dX10_writeNode_97 ?_
            refine R_goto (tgt := 53) hX dX10_writeNode_100 (by decide) ?_
            exact ih_53 _ (by omega) (by omega)
    refine R.eq rfl rfl (show _ = wrN ((kwT 7 ++ ([32] ++ nmT (F (u + 1) m)) ++ inT u F m) ++ setT b u F m (0 : Int).toNat) 1 F by rw [show setT b u F m (0 : Int).toNat = [] from rfl, List.append_nil]; unfold inT; first | (rw [if_pos (by omega)]; simp only [List.append_assoc]; done) | (rw [if_neg (by omega), List.append_nil]; done)) ?_
    exact lp_53 8 0 (by omega) (by omega)
set_option maxRecDepth 100000 in
set_option maxHeartbeats 4000000 in
theorem c_wChg {V : VX} {F : Hp} {u : Int} (hu : isSu u) (hU : SuI u F) (h0 : 0 ≤ F 22 0 ∧ F 22 0 ≤ 80000) (hw : I32 (F 22 2)) (hs : F 22 3 = 0) {i : Int} (hi : 0 ≤ i ∧ i < F (u + 12) 0) : Ct V yX10_writeChange cX10_writeChange 3 none 5 108 0 0 SH [vr V 22, vr V u, vi i] F SH 0 (fun r F' => F' = wrN (chgT u F i) 0 F) := by
  refine Ct.of [some (vr V 22), some (vr V u), some (vi i)] (by decide) (by simp [lg_sl, vi_cat, vl_cat, vr_cat]) rfl (by simp [asc, lv_args, vi_cat, vl_cat, vr_cat]) (fun X hV hX => ?_)
  subst hV
  have hsp0 : spT F = [] := by unfold spT; rw [if_pos hs]
  have hN := hU.1
  have hcc := hU.2.2.2.2.2.2.2.2.2.2.1
  have hc := hU.2.2.2.2.2.2.2.2.2.2.2 i hi.1 hi.2
  refine R_aload_0 hX dX10_writeChange_0 ?_
  refine R_bipush hX dX10_writeChange_1 (by decide) ?_
  refine R_v1v hX dX10_writeChange_3 li_X10_34 mk_X10_putKeyword mi_X10_putKeyword rfl o_22 (c_wKw (by omega) hw (by rw [hs]; constructor <;> omega) (by constructor <;> omega)) ⟨⟨by decide, by decide⟩, by decide, by decide, rfl, Nat.le_of_ble_eq_true rfl, rfl⟩ (fun x_3 F_3 h_3 => ?_)
  subst h_3
  have b_3 := kw_b 11 F
  rw [hsp0, List.nil_append] at b_3 ⊢
  refine R_aload_0 hX dX10_writeChange_6 ?_
  refine R_aload_1 hX dX10_writeChange_7 ?_
  refine R_getq (v := u + 12) hX dX10_writeChange_8 fl_X10_50 (to_0 hu) rfl (by omega) ?_
  refine R_getq (v := u + 13) hX dX10_writeChange_11 fl_X10_59 (to_12 hu) rfl (by omega) ?_
  refine R_iload_2 hX dX10_writeChange_14 ?_
  refine R_iald hX dX10_writeChange_15 (ta_13 hu) ⟨by omega, by omega⟩ ?_
  try simp (disch := omega) only [wrN_r]
  refine R_v1v hX dX10_writeChange_16 li_X10_41 mk_X10_putNumber mi_X10_putNumber rfl o_22 (c_wNum (by omega) (by rw [(wrN_f _ _ _).2.1]; exact hw) (by rw [(wrN_f _ _ _).2.2.1]; constructor <;> omega) (by omega)) ⟨⟨by decide, by decide⟩, by decide, by decide, rfl, Nat.le_of_ble_eq_true rfl, rfl⟩ (fun x_16 F_16 h_16 => ?_)
  subst h_16
  have b_16 := nu_b (F (u + 13) i) (wrN (kwT 11) 1 F)
  rw [spT_w, wrN_wrN] at b_16 ⊢
  refine R_aload_1 hX dX10_writeChange_19 ?_
  refine R_aload_1 hX dX10_writeChange_20 ?_
  refine R_getq (v := u + 12) hX dX10_writeChange_21 fl_X10_50 (to_0 hu) rfl (by omega) ?_
  refine R_getq (v := u + 14) hX dX10_writeChange_24 fl_X10_98 (to_12 hu) rfl (by omega) ?_
  refine R_iload_2 hX dX10_writeChange_27 ?_
  refine R_iald hX dX10_writeChange_28 (ta_14 hu) ⟨by omega, by omega⟩ ?_
  try simp (disch := omega) only [wrN_r]
  refine R_v1i hX dX10_writeChange_29 li_X10_82 mk_X7_hasNode mi_X7_hasNode rfl (to_0 hu) (c_hasNode hu (by rw [wrN_r (by omega)]; exact hN) (by constructor <;> omega)) ⟨⟨by decide, by decide⟩, by decide, by decide, rfl, Nat.le_of_ble_eq_true rfl, rfl⟩ (fun x_29 F_29 h_29 => ?_)
  obtain ⟨h_29, e_29⟩ := h_29; replace e_29 := e_29.symm; subst e_29
  rw [wrN_r (by omega)] at h_29
  refine R_ifeq (tgt := 53) hX dX10_writeChange_32 (by decide) ⟨by omega, by omega⟩ (fun c_32 => ?_) (fun c_32 => ?_)
  · exact absurd c_32 (by omega)
  · skip
    refine R_aload_0 hX dX10_writeChange_35 ?_
    refine R_aload_1 hX dX10_writeChange_36 ?_
    refine R_getq (v := u + 1) hX dX10_writeChange_37 fl_X10_71 (to_0 hu) rfl (by omega) ?_
    refine R_aload_1 hX dX10_writeChange_40 ?_
    refine R_getq (v := u + 12) hX dX10_writeChange_41 fl_X10_50 (to_0 hu) rfl (by omega) ?_
    refine R_getq (v := u + 14) hX dX10_writeChange_44 fl_X10_98 (to_12 hu) rfl (by omega) ?_
    refine R_iload_2 hX dX10_writeChange_47 ?_
    refine R_iald hX dX10_writeChange_48 (ta_14 hu) ⟨by omega, by omega⟩ ?_
    try simp (disch := omega) only [wrN_r]
    refine R_lald hX dX10_writeChange_49 (ta_1 hu) ⟨by omega, by omega⟩ ?_
    try simp (disch := omega) only [wrN_r]
    refine R_v1v hX dX10_writeChange_50 li_X10_75 mk_X10_putName mi_X10_putName rfl o_22 (c_wName (by omega) (by rw [(wrN_f _ _ _).2.1]; exact hw) (by rw [(wrN_f _ _ _).2.2.1]; constructor <;> omega)) ⟨⟨by decide, by decide⟩, by decide, by decide, rfl, Nat.le_of_ble_eq_true rfl, rfl⟩ (fun x_50 F_50 h_50 => ?_)
    subst h_50
    have b_50 := nm_b (F (u + 1) (F (u + 14) i)) (wrN (kwT 11 ++ ([32] ++ nuT (F (u + 13) i))) 1 F)
    rw [spT_w, wrN_wrN] at b_50 ⊢
    refine R_aload_0 hX dX10_writeChange_53 ?_
    refine R_aload_1 hX dX10_writeChange_54 ?_
    refine R_getq (v := u + 12) hX dX10_writeChange_55 fl_X10_50 (to_0 hu) rfl (by omega) ?_
    refine R_getq (v := u + 15) hX dX10_writeChange_58 fl_X10_101 (to_12 hu) rfl (by omega) ?_
    refine R_iload_2 hX dX10_writeChange_61 ?_
    refine R_iald hX dX10_writeChange_62 (ta_15 hu) ⟨by omega, by omega⟩ ?_
    try simp (disch := omega) only [wrN_r]
    refine R_v1v hX dX10_writeChange_63 li_X10_34 mk_X10_putKeyword mi_X10_putKeyword rfl o_22 (c_wKw (by omega) (by rw [(wrN_f _ _ _).2.1]; exact hw) (by rw [(wrN_f _ _ _).2.2.1]; constructor <;> omega) (by constructor <;> omega)) ⟨⟨by decide, by decide⟩, by decide, by decide, rfl, Nat.le_of_ble_eq_true rfl, rfl⟩ (fun x_63 F_63 h_63 => ?_)
    subst h_63
    have b_63 := kw_b (F (u + 15) i) (wrN (kwT 11 ++ ([32] ++ nuT (F (u + 13) i)) ++ ([32] ++ nmT (F (u + 1) (F (u + 14) i)))) 1 F)
    rw [spT_w, wrN_wrN] at b_63 ⊢
    refine R_aload_0 hX dX10_writeChange_66 ?_
    refine R_aload_1 hX dX10_writeChange_67 ?_
    refine R_getq (v := u + 12) hX dX10_writeChange_68 fl_X10_50 (to_0 hu) rfl (by omega) ?_
    refine R_getq (v := u + 16) hX dX10_writeChange_71 fl_X10_104 (to_12 hu) rfl (by omega) ?_
    refine R_iload_2 hX dX10_writeChange_74 ?_
    refine R_iald hX dX10_writeChange_75 (ta_16 hu) ⟨by omega, by omega⟩ ?_
    try simp (disch := omega) only [wrN_r]
    refine R_v1v hX dX10_writeChange_76 li_X10_41 mk_X10_putNumber mi_X10_putNumber rfl o_22 (c_wNum (by omega) (by rw [(wrN_f _ _ _).2.1]; exact hw) (by rw [(wrN_f _ _ _).2.2.1]; constructor <;> omega) (by omega)) ⟨⟨by decide, by decide⟩, by decide, by decide, rfl, Nat.le_of_ble_eq_true rfl, rfl⟩ (fun x_76 F_76 h_76 => ?_)
    subst h_76
    have b_76 := nu_b (F (u + 16) i) (wrN (kwT 11 ++ ([32] ++ nuT (F (u + 13) i)) ++ ([32] ++ nmT (F (u + 1) (F (u + 14) i))) ++ ([32] ++ kwT (F (u + 15) i))) 1 F)
    rw [spT_w, wrN_wrN] at b_76 ⊢
    refine R_aload_0 hX dX10_writeChange_79 ?_
    refine R_v0v hX dX10_writeChange_80 li_X10_44 mk_X10_putSemicolon mi_X10_putSemicolon rfl o_22 (c_wSemi (by omega) (by rw [(wrN_f _ _ _).2.1]; exact hw)) ⟨⟨by decide, by decide⟩, by decide, by decide, rfl, Nat.le_of_ble_eq_true rfl, rfl⟩ (fun x_80 F_80 h_80 => ?_)
    subst h_80
    rw [wrN_wrN]
    exact R_vret hX dX10_writeChange_83 rfl
set_option maxRecDepth 100000 in
set_option maxHeartbeats 4000000 in
theorem c_write {V : VX} {F : Hp} {u b : Int} (hu : isSu u) (hb : isSt b) (hU : SuI u F) (hA : AcI b u F) (ht : I32 (F b 1)) {w : Int} (hw : I32 w) : Ct V yX10_write cX10_write 5 none 6 132 0 0 SH [vr V 22, vr V u, vr V b, vi w] F SH 0 (fun r F' => F' = wrN (txtT b u F) 0 (W0 w F)) := by
  refine Ct.of [some (vr V 22), some (vr V u), some (vr V b), some (vi w), none] (by decide) (by simp [lg_sl, vi_cat, vl_cat, vr_cat]) rfl (by simp [asc, lv_args, vi_cat, vl_cat, vr_cat]) (fun X hV hX => ?_)
  subst hV
  have hN := hU.1
  have hcc := hU.2.2.2.2.2.2.2.2.2.2.1
  have hlm := hU.2.2.2.2.2.2.2.2.1
  have hag := hU.2.2.2.2.2.2.2.2.2.1
  obtain ⟨w0, w1, w2, w3⟩ := W0_f w F
  have hUw : ∀ (l : List Int), SuI u (wrN l 0 (W0 w F)) := fun l => hU.fr (fun a z1 z2 => wW_r (by omega))
  have hAw : ∀ (l : List Int), AcI b u (wrN l 0 (W0 w F)) := fun l => hA.fr (fun a z1 z2 => wW_r (by omega)) (fun a z => wW_r (by omega))
  have hcg := fun (l : List Int) => txt_cong (b := b) (u := u) (F := F) (G := wrN l 0 (W0 w F)) (fun a z => wW_r (by omega))
  have hz : ∀ (l : List Int), wrN l 0 (W0 w F) 22 3 = 0 := fun l => (wrN_f l 0 _).2.2.1
  have hv2 : ∀ (l : List Int) (s : Int), wrN l s (W0 w F) 22 2 = w := fun l s => by rw [(wrN_f l s _).2.1, w2]
  have hv0 : ∀ (l : List Int) (s : Int), wrN l s (W0 w F) 22 0 = l.length := fun l s => by rw [(wrN_f l s _).1, w0, Int.zero_add]
  refine R_aload_0 hX dX10_write_0 ?_
  refine R_iload_3 hX dX10_write_1 ?_
  refine R_puti hX dX10_write_2 fl_X10_9 o_22 rfl ?_
  refine R_aload_0 hX dX10_write_5 ?_
  refine R_bipush hX dX10_write_6 (by decide) ?_
  refine R_puti hX dX10_write_8 fl_X10_15 o_22 rfl ?_
  refine R_aload_0 hX dX10_write_11 ?_
  refine R_iconst hX dX10_write_12 ?_
  refine R_puti hX dX10_write_13 fl_X10_18 o_22 rfl ?_
  refine R_aload_0 hX dX10_write_16 ?_
  refine R_iconst hX dX10_write_17 ?_
  refine R_putz hX dX10_write_18 fl_X10_21 o_22 rfl (by omega) ?_
  refine R_iconst hX dX10_write_21 ?_
  refine R_istore_4 hX c1_i dX10_write_22 ?_
  have lp_24 : ∀ (n : Nat) (i : Int), (0 ≤ i ∧ i ≤ F u 0) → (13 - i).toNat < n → R X SH 0 0 24 [some (vr (xV X) 22), some (vr (xV X) u), some (vr (xV X) b), some (vi w), some (vi i)] [] (wrN (nodsT b u F i.toNat) 0 (W0 w F)) (Zq X SH 0 (fun r F' => F' = wrN (txtT b u F) 0 (W0 w F)) 0 0) := by
    intro n
    induction n with
    | zero => intro i iv24_0 hm; exact absurd hm (Nat.not_lt_zero _)
    | succ n ih_24 =>
      intro i iv24_0 hm_24
      have hl := nodsT_len b u F i.toNat
      have h0 := hv0 (nodsT b u F i.toNat) 0
      refine R_iload_4 hX dX10_write_24 ?_
      refine R_aload_1 hX dX10_write_26 ?_
      refine R_geti hX dX10_write_27 fl_X10_25 (to_0 hu) rfl ?_
      try simp (disch := omega) only [wW_r]
      refine R_icmpge (tgt := 47) hX dX10_write_30 (by decide) ⟨by omega, by omega⟩ ⟨by omega, by omega⟩ (fun c_30 => ?_) (fun c_30 => ?_)
      · skip
        have hi : i = F u 0 := by omega
        subst hi
        have k9 := kwT_len 9
        have k10 := kwT_len 10
        have n9 : (nuT (F u 13)).length ≤ 4 := nuL_len _ 4
        have n10 : (nuT (F u 14)).length ≤ 4 := nuL_len _ 4
        refine R_aload_0 hX dX10_write_47 ?_
        refine R_bipush hX dX10_write_48 (by decide) ?_
        refine R_v1v hX dX10_write_50 li_X10_34 mk_X10_putKeyword mi_X10_putKeyword rfl o_22 (c_wKw (by rw [hv0]; omega) (by rw [hv2]; exact hw) (by rw [hz]; constructor <;> omega) (by constructor <;> omega)) ⟨⟨by decide, by decide⟩, by decide, by decide, rfl, Nat.le_of_ble_eq_true rfl, rfl⟩ (fun x_50 F_50 h_50 => ?_)
        subst h_50
        rw [spT_z, List.nil_append, wrN_wrN]
        refine R_aload_0 hX dX10_write_53 ?_
        refine R_aload_1 hX dX10_write_54 ?_
        refine R_geti hX dX10_write_55 fl_X10_38 (to_0 hu) rfl ?_
        try simp (disch := omega) only [wW_r]
        refine R_v1v hX dX10_write_58 li_X10_41 mk_X10_putNumber mi_X10_putNumber rfl o_22 (c_wNum (by rw [hv0]; simp only [List.length_append]; omega) (by rw [hv2]; exact hw) (by rw [(wrN_f _ _ _).2.2.1]; constructor <;> omega) (by omega)) ⟨⟨by decide, by decide⟩, by decide, by decide, rfl, Nat.le_of_ble_eq_true rfl, rfl⟩ (fun x_58 F_58 h_58 => ?_)
        subst h_58
        rw [spT_w, wrN_wrN]
        refine R_aload_0 hX dX10_write_61 ?_
        refine R_v0v hX dX10_write_62 li_X10_44 mk_X10_putSemicolon mi_X10_putSemicolon rfl o_22 (c_wSemi (by rw [hv0]; simp only [List.length_append, List.length_cons, List.length_nil]; omega) (by rw [hv2]; exact hw)) ⟨⟨by decide, by decide⟩, by decide, by decide, rfl, Nat.le_of_ble_eq_true rfl, rfl⟩ (fun x_62 F_62 h_62 => ?_)
        subst h_62
        rw [wrN_wrN]
        refine R_aload_1 hX dX10_write_65 ?_
        refine R_geti hX dX10_write_66 fl_X10_47 (to_0 hu) rfl ?_
        try simp (disch := omega) only [wW_r]
        refine R_iconst hX dX10_write_69 ?_
        refine R_icmpeq (tgt := 91) hX dX10_write_70 (by decide) ⟨by omega, by omega⟩ ⟨by omega, by omega⟩ (fun c_70 => ?_) (fun c_70 => ?_)
        · skip
          refine R_iconst hX dX10_write_91 ?_
          refine R_istore_4 hX c1_i dX10_write_92 ?_
          have lp_94 : ∀ (n : Nat) (i : Int), (0 ≤ i ∧ i ≤ F (u + 12) 0) → (13 - i).toNat < n → R X SH 0 0 94 [some (vr (xV X) 22), some (vr (xV X) u), some (vr (xV X) b), some (vi w), some (vi i)] [] (wrN (nodsT b u F (F u 0).toNat ++ limT u F ++ ageT u F ++ chgsT b u F i.toNat) 0 (W0 w F)) (Zq X SH 0 (fun r F' => F' = wrN (txtT b u F) 0 (W0 w F)) 0 0) := by
            intro n
            induction n with
            | zero => intro i iv94_0 hm; exact absurd hm (Nat.not_lt_zero _)
            | succ n ih_94 =>
              intro i iv94_0 hm_94
              have hl1 := nodsT_len b u F (F u 0).toNat
              have hl2 := chgsT_len b u F i.toNat
              have h0 := hv0 (nodsT b u F (F u 0).toNat ++ limT u F ++ ageT u F ++ chgsT b u F i.toNat) 0
              have hl3 : (limT u F).length ≤ 20 := by have h1 := kwT_len 9; have h2 : (nuT (F u 13)).length ≤ 4 := nuL_len _ 4; unfold limT; simp only [List.length_append, List.length_cons, List.length_nil]; omega
              have hl4 : (ageT u F).length ≤ 20 := by have h1 := kwT_len 10; have h2 : (nuT (F u 14)).length ≤ 4 := nuL_len _ 4; unfold ageT; split <;> simp only [List.length_append, List.length_cons, List.length_nil] <;> omega
              simp only [List.length_append] at h0
              refine R_iload_4 hX dX10_write_94 ?_
              refine R_aload_1 hX dX10_write_96 ?_
              refine R_getq (v := u + 12) hX dX10_write_97 fl_X10_50 (to_0 hu) rfl (by omega) ?_
              refine R_geti hX dX10_write_100 fl_X10_54 (to_12 hu) rfl ?_
              try simp (disch := omega) only [wW_r]
              refine R_icmpge (tgt := 136) hX dX10_write_103 (by decide) ⟨by omega, by omega⟩ ⟨by omega, by omega⟩ (fun c_103 => ?_) (fun c_103 => ?_)
              · skip
                exact R_vret hX dX10_write_136 (by rw [show i = F (u + 12) 0 by omega]; rfl)
              · skip
                have hcx := hU.2.2.2.2.2.2.2.2.2.2.2 i (by omega) (by omega)
                refine R_aload_1 hX dX10_write_106 ?_
                refine R_getq (v := u + 12) hX dX10_write_107 fl_X10_50 (to_0 hu) rfl (by omega) ?_
                refine R_getq (v := u + 13) hX dX10_write_110 fl_X10_59 (to_12 hu) rfl (by omega) ?_
                refine R_iload_4 hX dX10_write_113 ?_
                refine R_iald hX dX10_write_115 (ta_13 hu) ⟨by omega, by omega⟩ ?_
                try simp (disch := omega) only [wW_r]
                refine R_aload_2 hX dX10_write_116 ?_
                refine R_geti hX dX10_write_117 fl_X10_63 (so_0 hb) rfl ?_
                try simp (disch := omega) only [wW_r]
                refine R_icmple (tgt := 130) hX dX10_write_120 (by decide) ⟨by omega, by omega⟩ ⟨by omega, by omega⟩ (fun c_120 => ?_) (fun c_120 => ?_)
                · skip
                  refine R.eq rfl rfl (show _ = wrN (nodsT b u F (F u 0).toNat ++ limT u F ++ ageT u F ++ chgsT b u F (i + 1).toNat) 0 (W0 w F) by rw [chgsT_s iv94_0.1]; first | (rw [if_pos (by omega)]; simp only [List.append_assoc]; done) | (rw [if_neg (by omega), List.append_nil]; done)) ?_
                  refine R_iinc_4 hX c1_i dX10_write_130 ?_
                  refine R_goto (tgt := 94) hX dX10_write_133 (by decide) ?_
                  exact ih_94 _ (by omega) (by omega)
                · skip
                  refine R_aload_0 hX dX10_write_123 ?_
                  refine R_aload_1 hX dX10_write_124 ?_
                  refine R_iload_4 hX dX10_write_125 ?_
                  refine R_v2v hX dX10_write_127 li_X10_67 mk_X10_writeChange mi_X10_writeChange rfl o_22 (c_wChg hu (hUw _) (by omega) (by rw [hv2]; exact hw) (hz _) (by simp (disch := omega) only [wW_r]; omega)) ⟨⟨by decide, by decide⟩, by decide, by decide, rfl, Nat.le_of_ble_eq_true rfl, rfl⟩ (fun x_127 F_127 h_127 => ?_)
                  subst h_127
                  rw [(hcg _).2.1, wrN_wrN]
                  refine R.eq rfl rfl (show _ = wrN (nodsT b u F (F u 0).toNat ++ limT u F ++ ageT u F ++ chgsT b u F (i + 1).toNat) 0 (W0 w F) by rw [chgsT_s iv94_0.1]; first | (rw [if_pos (by omega)]; simp only [List.append_assoc]; done) | (rw [if_neg (by omega), List.append_nil]; done)) ?_
                  refine R_iinc_4 hX c1_i dX10_write_130 ?_
                  refine R_goto (tgt := 94) hX dX10_write_133 (by decide) ?_
                  exact ih_94 _ (by omega) (by omega)
          refine R.eq rfl rfl (show _ = wrN (nodsT b u F (F u 0).toNat ++ limT u F ++ ageT u F ++ chgsT b u F (0 : Int).toNat) 0 (W0 w F) by rw [show chgsT b u F (0 : Int).toNat = [] from rfl, List.append_nil]; unfold limT ageT; first | (rw [if_pos (by omega), List.append_nil]; simp only [List.append_assoc]; done) | (rw [if_neg (by omega)]; simp only [List.append_assoc]; done)) ?_
          exact lp_94 14 0 (by omega) (by omega)
        · skip
          refine R_aload_0 hX dX10_write_73 ?_
          refine R_bipush hX dX10_write_74 (by decide) ?_
          refine R_v1v hX dX10_write_76 li_X10_34 mk_X10_putKeyword mi_X10_putKeyword rfl o_22 (c_wKw (by rw [hv0]; simp only [List.length_append, List.length_cons, List.length_nil]; omega) (by rw [hv2]; exact hw) (by rw [hz]; constructor <;> omega) (by constructor <;> omega)) ⟨⟨by decide, by decide⟩, by decide, by decide, rfl, Nat.le_of_ble_eq_true rfl, rfl⟩ (fun x_76 F_76 h_76 => ?_)
          subst h_76
          rw [spT_z, List.nil_append, wrN_wrN]
          refine R_aload_0 hX dX10_write_79 ?_
          refine R_aload_1 hX dX10_write_80 ?_
          refine R_geti hX dX10_write_81 fl_X10_47 (to_0 hu) rfl ?_
          try simp (disch := omega) only [wW_r]
          refine R_v1v hX dX10_write_84 li_X10_41 mk_X10_putNumber mi_X10_putNumber rfl o_22 (c_wNum (by rw [hv0]; simp only [List.length_append, List.length_cons, List.length_nil]; omega) (by rw [hv2]; exact hw) (by rw [(wrN_f _ _ _).2.2.1]; constructor <;> omega) (by omega)) ⟨⟨by decide, by decide⟩, by decide, by decide, rfl, Nat.le_of_ble_eq_true rfl, rfl⟩ (fun x_84 F_84 h_84 => ?_)
          subst h_84
          rw [spT_w, wrN_wrN]
          refine R_aload_0 hX dX10_write_87 ?_
          refine R_v0v hX dX10_write_88 li_X10_44 mk_X10_putSemicolon mi_X10_putSemicolon rfl o_22 (c_wSemi (by rw [hv0]; simp only [List.length_append, List.length_cons, List.length_nil]; omega) (by rw [hv2]; exact hw)) ⟨⟨by decide, by decide⟩, by decide, by decide, rfl, Nat.le_of_ble_eq_true rfl, rfl⟩ (fun x_88 F_88 h_88 => ?_)
          subst h_88
          rw [wrN_wrN]
          refine R_iconst hX dX10_write_91 ?_
          refine R_istore_4 hX c1_i dX10_write_92 ?_
          have lp_94 : ∀ (n : Nat) (i : Int), (0 ≤ i ∧ i ≤ F (u + 12) 0) → (13 - i).toNat < n → R X SH 0 0 94 [some (vr (xV X) 22), some (vr (xV X) u), some (vr (xV X) b), some (vi w), some (vi i)] [] (wrN (nodsT b u F (F u 0).toNat ++ limT u F ++ ageT u F ++ chgsT b u F i.toNat) 0 (W0 w F)) (Zq X SH 0 (fun r F' => F' = wrN (txtT b u F) 0 (W0 w F)) 0 0) := by
            intro n
            induction n with
            | zero => intro i iv94_0 hm; exact absurd hm (Nat.not_lt_zero _)
            | succ n ih_94 =>
              intro i iv94_0 hm_94
              have hl1 := nodsT_len b u F (F u 0).toNat
              have hl2 := chgsT_len b u F i.toNat
              have h0 := hv0 (nodsT b u F (F u 0).toNat ++ limT u F ++ ageT u F ++ chgsT b u F i.toNat) 0
              have hl3 : (limT u F).length ≤ 20 := by have h1 := kwT_len 9; have h2 : (nuT (F u 13)).length ≤ 4 := nuL_len _ 4; unfold limT; simp only [List.length_append, List.length_cons, List.length_nil]; omega
              have hl4 : (ageT u F).length ≤ 20 := by have h1 := kwT_len 10; have h2 : (nuT (F u 14)).length ≤ 4 := nuL_len _ 4; unfold ageT; split <;> simp only [List.length_append, List.length_cons, List.length_nil] <;> omega
              simp only [List.length_append] at h0
              refine R_iload_4 hX dX10_write_94 ?_
              refine R_aload_1 hX dX10_write_96 ?_
              refine R_getq (v := u + 12) hX dX10_write_97 fl_X10_50 (to_0 hu) rfl (by omega) ?_
              refine R_geti hX dX10_write_100 fl_X10_54 (to_12 hu) rfl ?_
              try simp (disch := omega) only [wW_r]
              refine R_icmpge (tgt := 136) hX dX10_write_103 (by decide) ⟨by omega, by omega⟩ ⟨by omega, by omega⟩ (fun c_103 => ?_) (fun c_103 => ?_)
              · skip
                exact R_vret hX dX10_write_136 (by rw [show i = F (u + 12) 0 by omega]; rfl)
              · skip
                have hcx := hU.2.2.2.2.2.2.2.2.2.2.2 i (by omega) (by omega)
                refine R_aload_1 hX dX10_write_106 ?_
                refine R_getq (v := u + 12) hX dX10_write_107 fl_X10_50 (to_0 hu) rfl (by omega) ?_
                refine R_getq (v := u + 13) hX dX10_write_110 fl_X10_59 (to_12 hu) rfl (by omega) ?_
                refine R_iload_4 hX dX10_write_113 ?_
                refine R_iald hX dX10_write_115 (ta_13 hu) ⟨by omega, by omega⟩ ?_
                try simp (disch := omega) only [wW_r]
                refine R_aload_2 hX dX10_write_116 ?_
                refine R_geti hX dX10_write_117 fl_X10_63 (so_0 hb) rfl ?_
                try simp (disch := omega) only [wW_r]
                refine R_icmple (tgt := 130) hX dX10_write_120 (by decide) ⟨by omega, by omega⟩ ⟨by omega, by omega⟩ (fun c_120 => ?_) (fun c_120 => ?_)
                · skip
                  refine R.eq rfl rfl (show _ = wrN (nodsT b u F (F u 0).toNat ++ limT u F ++ ageT u F ++ chgsT b u F (i + 1).toNat) 0 (W0 w F) by rw [chgsT_s iv94_0.1]; first | (rw [if_pos (by omega)]; simp only [List.append_assoc]; done) | (rw [if_neg (by omega), List.append_nil]; done)) ?_
                  refine R_iinc_4 hX c1_i dX10_write_130 ?_
                  refine R_goto (tgt := 94) hX dX10_write_133 (by decide) ?_
                  exact ih_94 _ (by omega) (by omega)
                · skip
                  refine R_aload_0 hX dX10_write_123 ?_
                  refine R_aload_1 hX dX10_write_124 ?_
                  refine R_iload_4 hX dX10_write_125 ?_
                  refine R_v2v hX dX10_write_127 li_X10_67 mk_X10_writeChange mi_X10_writeChange rfl o_22 (c_wChg hu (hUw _) (by omega) (by rw [hv2]; exact hw) (hz _) (by simp (disch := omega) only [wW_r]; omega)) ⟨⟨by decide, by decide⟩, by decide, by decide, rfl, Nat.le_of_ble_eq_true rfl, rfl⟩ (fun x_127 F_127 h_127 => ?_)
                  subst h_127
                  rw [(hcg _).2.1, wrN_wrN]
                  refine R.eq rfl rfl (show _ = wrN (nodsT b u F (F u 0).toNat ++ limT u F ++ ageT u F ++ chgsT b u F (i + 1).toNat) 0 (W0 w F) by rw [chgsT_s iv94_0.1]; first | (rw [if_pos (by omega)]; simp only [List.append_assoc]; done) | (rw [if_neg (by omega), List.append_nil]; done)) ?_
                  refine R_iinc_4 hX c1_i dX10_write_130 ?_
                  refine R_goto (tgt := 94) hX dX10_write_133 (by decide) ?_
                  exact ih_94 _ (by omega) (by omega)
          refine R.eq rfl rfl (show _ = wrN (nodsT b u F (F u 0).toNat ++ limT u F ++ ageT u F ++ chgsT b u F (0 : Int).toNat) 0 (W0 w F) by rw [show chgsT b u F (0 : Int).toNat = [] from rfl, List.append_nil]; unfold limT ageT; first | (rw [if_pos (by omega), List.append_nil]; simp only [List.append_assoc]; done) | (rw [if_neg (by omega)]; simp only [List.append_assoc]; done)) ?_
          exact lp_94 14 0 (by omega) (by omega)
      · skip
        refine R_aload_0 hX dX10_write_33 ?_
        refine R_aload_1 hX dX10_write_34 ?_
        refine R_aload_2 hX dX10_write_35 ?_
        refine R_iload_4 hX dX10_write_36 ?_
        refine R_v3v hX dX10_write_38 li_X10_30 mk_X10_writeNode mi_X10_writeNode rfl o_22 (c_wNode hu hb (hUw _) (hAw _) (by omega) (by rw [hv2]; exact hw) (hz _) (by simp (disch := omega) only [wW_r]; omega)) ⟨⟨by decide, by decide⟩, by decide, by decide, rfl, Nat.le_of_ble_eq_true rfl, rfl⟩ (fun x_38 F_38 h_38 => ?_)
        subst h_38
        rw [(hcg _).1, wrN_wrN]
        refine R.eq rfl rfl (show _ = wrN (nodsT b u F (i + 1).toNat) 0 (W0 w F) by rw [nodsT_s iv24_0.1]) ?_
        refine R_iinc_4 hX c1_i dX10_write_41 ?_
        refine R_goto (tgt := 24) hX dX10_write_44 (by decide) ?_
        exact ih_24 _ (by omega) (by omega)
  refine R.eq rfl rfl (show _ = wrN (nodsT b u F (0 : Int).toNat) 0 (W0 w F) from (wrN_0 w3).symm) ?_
  exact lp_24 14 0 (by omega) (by omega)
