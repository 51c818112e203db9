/-! the writer: what it puts, as a row of signs -/
def wrS (l : List Int) (F : Hp) : Hp := up (if 0 ≤ F 22 2 - F 22 0 ∧ F 22 2 - F 22 0 < l.length then up F 22 1 (l.getD (F 22 2 - F 22 0).toNat 0) else F) 22 0 (F 22 0 + l.length)
def wrN (l : List Int) (s : Int) (F : Hp) : Hp := up (wrS l F) 22 3 s
theorem wrS_r {l : List Int} {F : Hp} {a : Int} (h : a ≠ 22) : wrS l F a = F a := by
  unfold wrS
  rw [up_r h]
  split
  · rw [up_r h]
  · rfl
theorem wrN_r {l : List Int} {s a : Int} {F : Hp} (h : a ≠ 22) : wrN l s F a = F a := by unfold wrN; rw [up_r h, wrS_r h]
theorem wrS_f (l : List Int) (F : Hp) : wrS l F 22 0 = F 22 0 + l.length ∧ wrS l F 22 2 = F 22 2 ∧ wrS l F 22 3 = F 22 3 ∧ wrS l F 22 1 = (if 0 ≤ F 22 2 - F 22 0 ∧ F 22 2 - F 22 0 < l.length then l.getD (F 22 2 - F 22 0).toNat 0 else F 22 1) := by
  unfold wrS
  split <;> simp (disch := omega) only [up_i, up_s, and_self]
theorem wrN_f (l : List Int) (s : Int) (F : Hp) : wrN l s F 22 0 = F 22 0 + l.length ∧ wrN l s F 22 2 = F 22 2 ∧ wrN l s F 22 3 = s ∧ wrN l s F 22 1 = (if 0 ≤ F 22 2 - F 22 0 ∧ F 22 2 - F 22 0 < l.length then l.getD (F 22 2 - F 22 0).toNat 0 else F 22 1) := by
  obtain ⟨h0, h2, h3, h1⟩ := wrS_f l F
  unfold wrN
  simp (disch := omega) only [up_i, up_s]
  exact ⟨h0, h2, trivial, h1⟩
theorem hp22 {F G : Hp} (h : ∀ a : Int, a ≠ 22 → F a = G a) (h0 : F 22 0 = G 22 0) (h1 : F 22 1 = G 22 1) (h2 : F 22 2 = G 22 2) (h3 : F 22 3 = G 22 3) (h4 : ∀ i : Int, i < 0 ∨ 3 < i → F 22 i = G 22 i) : F = G := by
  funext a i
  by_cases q : a = 22
  · subst q
    by_cases q0 : i = 0
    · rw [q0]; exact h0
    · by_cases q1 : i = 1
      · rw [q1]; exact h1
      · by_cases q2 : i = 2
        · rw [q2]; exact h2
        · by_cases q3 : i = 3
          · rw [q3]; exact h3
          · exact h4 i (by omega)
  · rw [h a q]
theorem wrN_4 {l : List Int} {s i : Int} {F : Hp} (h : i < 0 ∨ 3 < i) : wrN l s F 22 i = F 22 i := by
  unfold wrN wrS
  rw [up_i (by omega), up_i (by omega)]
  split
  · rw [up_i (by omega)]
  · rfl
theorem wrN_wrN {l m : List Int} {s t : Int} {F : Hp} : wrN m t (wrN l s F) = wrN (l ++ m) t F := by
  obtain ⟨a0, a2, a3, a1⟩ := wrN_f m t (wrN l s F)
  obtain ⟨b0, b2, b3, b1⟩ := wrN_f l s F
  obtain ⟨c0, c2, c3, c1⟩ := wrN_f (l ++ m) t F
  refine hp22 (fun a h => by rw [wrN_r h, wrN_r h, wrN_r h]) ?_ ?_ ?_ ?_ (fun i h => by rw [wrN_4 h, wrN_4 h, wrN_4 h])
  · rw [a0, b0, c0, List.length_append]; omega
  · rw [a1, b0, b1, b2, c1, List.length_append]
    by_cases q1 : 0 ≤ F 22 2 - F 22 0 ∧ F 22 2 - F 22 0 < l.length
    · rw [if_neg (by omega), if_pos q1, if_pos (by omega)]
      rw [List.getD_eq_getElem?_getD, List.getD_eq_getElem?_getD, List.getElem?_append_left (by omega)]
    · rw [if_neg q1]
      by_cases q2 : 0 ≤ F 22 2 - (F 22 0 + l.length) ∧ F 22 2 - (F 22 0 + l.length) < m.length
      · rw [if_pos q2, if_pos (by omega)]
        rw [List.getD_eq_getElem?_getD, List.getD_eq_getElem?_getD, List.getElem?_append_right (by omega)]
        congr 2
        omega
      · rw [if_neg q2, if_neg (by omega)]
  · rw [a2, b2, c2]
  · rw [a3, c3]
theorem wrN_0 {F : Hp} {s : Int} (h : F 22 3 = s) : wrN [] s F = F := by
  obtain ⟨b0, b2, b3, b1⟩ := wrN_f [] s F
  refine hp22 (fun a h => by rw [wrN_r h]) ?_ ?_ b2 (by rw [b3, h]) (fun i h => by rw [wrN_4 h])
  · rw [b0]; simp
  · rw [b1, if_neg (by rw [List.length_nil]; omega)]
def spT (F : Hp) : List Int := if F 22 3 = 0 then [] else [32]
theorem spT_len (F : Hp) : (spT F).length ≤ 1 := by unfold spT; split <;> simp
/-- a keyword's signs; a name's; a number's -/
def kwT (k : Int) : List Int := (List.range (slen.getD (kwi k).toNat 0)).map (fun j => sch (kwi k).toNat j)
def uN (k : Nat) : Int := [0, 1, 10, 100, 1000].getD k 0
def nuL (x : Int) : Nat → List Int
  | 0 => []
  | i + 1 => nuL x i ++ (if uN (4 - i) ≤ x ∨ uN (4 - i) = 1 then [48 + (x.tdiv (uN (4 - i))).tmod 10] else [])
def nuT (x : Int) : List Int := nuL x 4
theorem uN_ok : ∀ i, i < 4 → (1 ≤ uN (4 - i) ∧ uN (4 - i) ≤ 1000) ∧ (uN (4 - i)).tdiv 10 = uN (4 - (i + 1)) := by decide
theorem nuL_len (x : Int) : ∀ i, (nuL x i).length ≤ i
  | 0 => by simp [nuL]
  | i + 1 => by
    unfold nuL
    have := nuL_len x i
    rw [List.length_append]
    split <;> simp <;> omega
theorem kwT_len (k : Int) : (kwT k).length ≤ 8 := by
  unfold kwT
  rw [List.length_map, List.length_range]
  have h : (kwi k).toNat < 13 := by unfold kwi; split <;> omega
  have := (sln_ok (kwi k).toNat h).1
  unfold sln at this
  omega
theorem kwT_take {i j : Nat} : (List.range (j + 1)).map (fun j => sch i j) = (List.range j).map (fun j => sch i j) ++ [sch i j] := by
  rw [List.range_succ, List.map_append]
  rfl
theorem nuL_s {x i : Int} (h : 0 ≤ i) : nuL x (i + 1).toNat = nuL x i.toNat ++ (if uN (4 - i.toNat) ≤ x ∨ uN (4 - i.toNat) = 1 then [48 + (x.tdiv (uN (4 - i.toNat))).tmod 10] else []) := by
  obtain ⟨k, rfl⟩ : ∃ k : Nat, i = k := ⟨i.toNat, by omega⟩
  rfl
theorem iand_r (x : Int) : 0 ≤ iand x 31 ∧ iand x 31 ≤ 31 := by rw [iand_31]; omega
theorem ltS_rng (w i : Int) : 0 ≤ ltS w i ∧ ltS w i ≤ 31 := by
  unfold ltS
  split
  · exact iand_r _
  · omega
theorem wr_31 {l : List Int} {F : Hp} {s : Int} : up (wrS l (up F 22 3 s)) 22 3 s = wrS l (up F 22 3 s) := by
  have h : wrS l (up F 22 3 s) 22 3 = s := by rw [(wrS_f l (up F 22 3 s)).2.2.1, up_s]
  have h2 := up_id (F := wrS l (up F 22 3 s)) (k := 22) (i := 3)
  rw [h] at h2
  exact h2
theorem wrS_wrN {l m : List Int} {s : Int} {F : Hp} : wrS m (wrN l s F) = wrN (l ++ m) s F := by
  rw [← wrN_wrN (s := s)]
  show _ = up (wrS m (up (wrS l F) 22 3 s)) 22 3 s
  rw [wr_31]
  rfl
/-- the first letters of a name -/
def nmP (w : Int) (i : Nat) : List Int := (List.range i).map (fun (j : Nat) => 97 + ltS w j - 1)
theorem nmP_s {w i : Int} (h : 0 ≤ i) : nmP w (i + 1).toNat = nmP w i.toNat ++ [97 + ltS w i - 1] := by
  obtain ⟨k, rfl⟩ : ∃ k : Nat, i = k := ⟨i.toNat, by omega⟩
  rw [show ((k : Int) + 1).toNat = k + 1 by omega, Int.toNat_natCast]
  unfold nmP
  rw [List.range_succ, List.map_append]
  rfl
theorem nmP_len (w : Int) (i : Nat) : (nmP w i).length = i := by unfold nmP; rw [List.length_map, List.length_range]
/-- letters up to the first that is none -/
def cnF (w : Int) : Nat → Nat → Nat
  | 0, i => i
  | k + 1, i => if 0 < ltS w i then cnF w k (i + 1) else i
theorem cnF_of {w : Int} {r : Nat} : ∀ (k i : Nat), i ≤ r → r ≤ i + k → (∀ j : Nat, i ≤ j → j < r → 0 < ltS w j) → (r = i + k ∨ ltS w r ≤ 0) → cnF w k i = r
  | 0, i, h1, h2, _, _ => by unfold cnF; omega
  | k + 1, i, h1, h2, h3, h4 => by
    unfold cnF
    by_cases q : i = r
    · subst q
      rw [if_neg (by omega)]
    · rw [if_pos (h3 i (Nat.le_refl _) (by omega)), cnF_of k (i + 1) (by omega) (by omega) (fun j z1 z2 => h3 j (by omega) z2) (by omega)]
theorem cnF_le {w : Int} : ∀ (k i : Nat), cnF w k i ≤ i + k
  | 0, i => by unfold cnF; omega
  | k + 1, i => by
    unfold cnF
    have := cnF_le (w := w) k (i + 1)
    split <;> omega
/-- letters up to the first that is none -/
def nmT (w : Int) : List Int := nmP w (cnF w 8 0)
theorem nmT_of {w i : Int} (h0 : 0 ≤ i ∧ i ≤ 8) (h1 : ∀ j : Int, 0 ≤ j → j < i → 0 < ltS w j) (h2 : i = 8 ∨ ltS w i ≤ 0) : nmT w = nmP w i.toNat := by
  unfold nmT
  rw [cnF_of (r := i.toNat) 8 0 (by omega) (by omega) (fun j _ hj => h1 j (by omega) (by omega)) (by rw [show ((i.toNat : Nat) : Int) = i by omega]; omega)]
theorem nmT_len (w : Int) : (nmT w).length ≤ 8 := by
  unfold nmT
  rw [nmP_len]
  exact cnF_le 8 0
set_option maxRecDepth 100000 in
set_option maxHeartbeats 4000000 in
theorem c_wPut {V : VX} {F : Hp} (hn : 0 ≤ F 22 0 ∧ F 22 0 ≤ 100000) (hw : I32 (F 22 2)) {c : Int} : Ct V yX10_put cX10_put 2 none 0 0 0 0 SH [vr V 22, vi c] F SH 0 (fun r F' => F' = wrS [c] F) := by
  refine Ct.of [some (vr V 22), some (vi c)] (by decide) (by simp [lg_sl, vi_cat, vl_cat, vr_cat]) rfl (by simp [asc, lv_args, vi_cat, vl_cat, vr_cat]) (fun X hV hX => ?_)
  subst hV
  refine R_aload_0 hX dX10_put_0 ?_
  refine R_geti hX dX10_put_1 fl_X10_18 o_22 rfl ?_
  refine R_aload_0 hX dX10_put_4 ?_
  refine R_geti hX dX10_put_5 fl_X10_9 o_22 rfl ?_
  refine R_icmpne (tgt := 16) hX dX10_put_8 (by decide) ⟨by omega, by omega⟩ ⟨by omega, by omega⟩ (fun c_8 => ?_) (fun c_8 => ?_)
  · skip
    refine R_aload_0 hX dX10_put_16 ?_
    refine R_dup hX c1_r dX10_put_17 ?_
    refine R_geti hX dX10_put_18 fl_X10_18 o_22 rfl ?_
    refine R_iconst hX dX10_put_21 ?_
    refine R_iadd hX dX10_put_22 ?_
    refine R_puti hX dX10_put_23 fl_X10_18 o_22 rfl ?_
    exact R_vret hX dX10_put_26 (by unfold wrS; rw [show ([c] : List Int).length = 1 from rfl]; first | (rw [if_pos (by omega), show F 22 2 - F 22 0 = 0 by omega]; simp (disch := omega) only [up_i]; rfl) | (rw [if_neg (by omega)]; rfl))
  · skip
    refine R_aload_0 hX dX10_put_11 ?_
    refine R_iload_1 hX dX10_put_12 ?_
    refine R_puti hX dX10_put_13 fl_X10_15 o_22 rfl ?_
    refine R_aload_0 hX dX10_put_16 ?_
    refine R_dup hX c1_r dX10_put_17 ?_
    refine R_geti hX dX10_put_18 fl_X10_18 o_22 rfl ?_
    refine R_iconst hX dX10_put_21 ?_
    refine R_iadd hX dX10_put_22 ?_
    refine R_puti hX dX10_put_23 fl_X10_18 o_22 rfl ?_
    exact R_vret hX dX10_put_26 (by unfold wrS; rw [show ([c] : List Int).length = 1 from rfl]; first | (rw [if_pos (by omega), show F 22 2 - F 22 0 = 0 by omega]; simp (disch := omega) only [up_i]; rfl) | (rw [if_neg (by omega)]; rfl))
set_option maxRecDepth 100000 in
set_option maxHeartbeats 4000000 in
theorem c_wSpace {V : VX} {F : Hp} (hn : 0 ≤ F 22 0 ∧ F 22 0 ≤ 100000) (hw : I32 (F 22 2)) (hs : I32 (F 22 3))  : Ct V yX10_putSpace cX10_putSpace 1 none 1 21 0 0 SH [vr V 22] F SH 0 (fun r F' => F' = wrN (spT F) 1 F) := by
  refine Ct.of [some (vr V 22)] (by decide) (by simp [lg_sl, vi_cat, vl_cat, vr_cat]) rfl (by simp [asc, lv_args, vi_cat, vl_cat, vr_cat]) (fun X hV hX => ?_)
  subst hV
  refine R_aload_0 hX dX10_putSpace_0 ?_
  refine R_getz hX dX10_putSpace_1 fl_X10_21 o_22 rfl ?_
  refine R_ifeq (tgt := 13) hX dX10_putSpace_4 (by decide) hs (fun c_4 => ?_) (fun c_4 => ?_)
  · skip
    refine R_aload_0 hX dX10_putSpace_13 ?_
    refine R_iconst hX dX10_putSpace_14 ?_
    refine R_putz hX dX10_putSpace_15 fl_X10_21 o_22 rfl (Or.inr rfl) ?_
    exact R_vret hX dX10_putSpace_18 (by unfold wrN spT; first | (rw [if_neg c_4]; done) | (rw [if_pos c_4]; unfold wrS; rw [if_neg (by rw [List.length_nil]; omega), show ((([] : List Int).length : Nat) : Int) = 0 from rfl, Int.add_zero, up_id]))
  · skip
    refine R_aload_0 hX dX10_putSpace_7 ?_
    refine R_bipush hX dX10_putSpace_8 (by decide) ?_
    refine R_v1v hX dX10_putSpace_10 li_X10_123 mk_X10_put mi_X10_put rfl o_22 (c_wPut hn hw) ⟨⟨by decide, by decide⟩, by decide, by decide, rfl, Nat.le_of_ble_eq_true rfl, rfl⟩ (fun x_10 F_10 h_10 => ?_)
    subst h_10
    refine R_aload_0 hX dX10_putSpace_13 ?_
    refine R_iconst hX dX10_putSpace_14 ?_
    refine R_putz hX dX10_putSpace_15 fl_X10_21 o_22 rfl (Or.inr rfl) ?_
    exact R_vret hX dX10_putSpace_18 (by unfold wrN spT; first | (rw [if_neg c_4]; done) | (rw [if_pos c_4]; unfold wrS; rw [if_neg (by rw [List.length_nil]; omega), show ((([] : List Int).length : Nat) : Int) = 0 from rfl, Int.add_zero, up_id]))
set_option maxRecDepth 100000 in
set_option maxHeartbeats 4000000 in
theorem c_wSemi {V : VX} {F : Hp} (hn : 0 ≤ F 22 0 ∧ F 22 0 ≤ 100000) (hw : I32 (F 22 2))  : Ct V yX10_putSemicolon cX10_putSemicolon 1 none 1 21 0 0 SH [vr V 22] F SH 0 (fun r F' => F' = wrN [59] 0 F) := by
  refine Ct.of [some (vr V 22)] (by decide) (by simp [lg_sl, vi_cat, vl_cat, vr_cat]) rfl (by simp [asc, lv_args, vi_cat, vl_cat, vr_cat]) (fun X hV hX => ?_)
  subst hV
  refine R_aload_0 hX dX10_putSemicolon_0 ?_
  refine R_bipush hX dX10_putSemicolon_1 (by decide) ?_
  refine R_v1v hX dX10_putSemicolon_3 li_X10_123 mk_X10_put mi_X10_put rfl o_22 (c_wPut hn hw) ⟨⟨by decide, by decide⟩, by decide, by decide, rfl, Nat.le_of_ble_eq_true rfl, rfl⟩ (fun x_3 F_3 h_3 => ?_)
  subst h_3
  refine R_aload_0 hX dX10_putSemicolon_6 ?_
  refine R_iconst hX dX10_putSemicolon_7 ?_
  refine R_putz hX dX10_putSemicolon_8 fl_X10_21 o_22 rfl (Or.inl rfl) ?_
  exact R_vret hX dX10_putSemicolon_11 rfl
set_option maxRecDepth 100000 in
set_option maxHeartbeats 4000000 in
theorem c_wKw {V : VX} {F : Hp} (hn : 0 ≤ F 22 0 ∧ F 22 0 ≤ 90000) (hw : I32 (F 22 2)) (hs : I32 (F 22 3)) {k : Int} (hk : I32 k) : Ct V yX10_putKeyword cX10_putKeyword 4 none 4 85 0 0 SH [vr V 22, vi k] F SH 0 (fun r F' => F' = wrN (spT F ++ kwT k) 1 F) := by
  refine Ct.of [some (vr V 22), some (vi k), none, none] (by decide) (by simp [lg_sl, vi_cat, vl_cat, vr_cat]) rfl (by simp [asc, lv_args, vi_cat, vl_cat, vr_cat]) (fun X hV hX => ?_)
  subst hV
  have hkr : 0 ≤ kwi k ∧ kwi k ≤ 12 := by unfold kwi; split <;> omega
  have hk13 : (kwi k).toNat < 13 := by omega
  have hln := sln_ok (kwi k).toNat hk13
  have hsp := spT_len F
  refine R_aload_0 hX dX10_putKeyword_0 ?_
  refine R_v0v hX dX10_putKeyword_1 li_X10_107 mk_X10_putSpace mi_X10_putSpace rfl o_22 (c_wSpace (by omega) hw hs) ⟨⟨by decide, by decide⟩, by decide, by decide, rfl, Nat.le_of_ble_eq_true rfl, rfl⟩ (fun x_1 F_1 h_1 => ?_)
  subst h_1
  refine R_iload_1 hX dX10_putKeyword_4 ?_
  refine R_callSN0 (kd := 4) (As := [vi k]) hX dX10_putKeyword_5 li_X10_110 mk_X11_keywordText ms_X11_keywordText (c_keywordText hk) ⟨⟨by decide, by decide⟩, by decide, by decide, rfl, rfl, Nat.le_of_ble_eq_true rfl, rfl⟩ (fun x_5 F_5 h_5 => ?_)
  obtain ⟨h_5, e_5⟩ := h_5; replace e_5 := e_5.symm; subst e_5; subst h_5
  refine R.eq rfl rfl (show _ = wrN (spT F ++ (List.range (0 : Int).toNat).map (fun j => sch (kwi k).toNat j)) 1 F by rw [show (List.range (0 : Int).toNat).map (fun j => sch (kwi k).toNat j) = [] from rfl, List.append_nil]) ?_
  refine R_astore_2_raw hX c1_i dX10_putKeyword_8 ?_
  refine R_iconst hX dX10_putKeyword_9 ?_
  refine R_istore_3 hX c1_raw dX10_putKeyword_10 ?_
  have lp_11 : ∀ (n : Nat) (j : Int), (0 ≤ j ∧ j ≤ sln (kwi k).toNat) → (9 - j).toNat < n → R X SH 0 0 11 [some (vr (xV X) 22), some (vi k), some (.ref ((vG (xV X)).2.1 (kwi k).toNat)), some (vi j)] [] (wrN (spT F ++ (List.range j.toNat).map (fun j => sch (kwi k).toNat j)) 1 F) (Zq X SH 0 (fun r F' => F' = wrN (spT F ++ kwT k) 1 F) 0 0) := by
    intro n
    induction n with
    | zero => intro j iv11_0 hm; exact absurd hm (Nat.not_lt_zero _)
    | succ n ih_11 =>
      intro j iv11_0 hm_11
      obtain ⟨g0, g2, g3, -⟩ := wrN_f (spT F ++ (List.range j.toNat).map (fun j => sch (kwi k).toNat j)) 1 F
      rw [List.length_append, List.length_map, List.length_range] at g0
      refine R_iload_3 hX dX10_putKeyword_11 ?_
      refine R_aload_2_raw hX dX10_putKeyword_12 ?_
      refine R_callVS (As := []) hX dX10_putKeyword_13 li_X10_114 mk_J0_length_8abf5 mi_J0_length_8abf5 rfl hk13 (c_strLen hk13) ⟨⟨by decide, by decide⟩, by decide, by decide, rfl, rfl, Nat.le_of_ble_eq_true rfl⟩ (fun x_13 F_13 h_13 => ?_)
      obtain ⟨h_13, e_13⟩ := h_13; replace e_13 := e_13.symm; subst e_13
      subst h_13
      refine R_icmpge (tgt := 34) hX dX10_putKeyword_16 (by decide) ⟨by omega, by omega⟩ ⟨by omega, by omega⟩ (fun c_16 => ?_) (fun c_16 => ?_)
      · skip
        exact R_vret hX dX10_putKeyword_34 (by rw [show j.toNat = slen.getD (kwi k).toNat 0 by unfold sln at *; omega]; rfl)
      · skip
        refine R_aload_0 hX dX10_putKeyword_19 ?_
        refine R_aload_2_raw hX dX10_putKeyword_20 ?_
        refine R_iload_3 hX dX10_putKeyword_21 ?_
        refine R_callVS (As := [vi j]) hX dX10_putKeyword_22 li_X10_119 mk_J0_charAt_5068e mi_J0_charAt_5068e rfl hk13 (c_charAt hk13 (by omega)) ⟨⟨by decide, by decide⟩, by decide, by decide, rfl, rfl, Nat.le_of_ble_eq_true rfl⟩ (fun x_22 F_22 h_22 => ?_)
        obtain ⟨h_22, e_22⟩ := h_22; replace e_22 := e_22.symm; subst e_22
        subst h_22
        have hch := sch_ok (kwi k).toNat hk13 j.toNat (by unfold sln at *; omega)
        refine R_v1v hX dX10_putKeyword_25 li_X10_123 mk_X10_put mi_X10_put rfl o_22 (c_wPut (by omega) (by rw [g2]; exact hw)) ⟨⟨by decide, by decide⟩, by decide, by decide, rfl, Nat.le_of_ble_eq_true rfl, rfl⟩ (fun x_25 F_25 h_25 => ?_)
        subst h_25
        refine R.eq rfl rfl (show _ = wrN (spT F ++ (List.range (j + 1).toNat).map (fun j => sch (kwi k).toNat j)) 1 F by rw [show (j + 1).toNat = j.toNat + 1 by omega, kwT_take, ← List.append_assoc]; exact wrS_wrN) ?_
        refine R_iinc_3 hX c1_raw dX10_putKeyword_28 ?_
        refine R_goto (tgt := 11) hX dX10_putKeyword_31 (by decide) ?_
        exact ih_11 _ (by omega) (by omega)
  exact lp_11 10 0 (by omega) (by omega)
set_option maxRecDepth 100000 in
set_option maxHeartbeats 4000000 in
theorem c_wName {V : VX} {F : Hp} (hn : 0 ≤ F 22 0 ∧ F 22 0 ≤ 90000) (hw : I32 (F 22 2)) (hs : I32 (F 22 3)) {w : Int} : Ct V yX10_putName cX10_putName 4 none 2 41 0 0 SH [vr V 22, vl w] F SH 0 (fun r F' => F' = wrN (spT F ++ nmT w) 1 F) := by
  refine Ct.of [some (vr V 22), some (vl w), none, none] (by decide) (by simp [lg_sl, vi_cat, vl_cat, vr_cat]) rfl (by simp [asc, lv_args, vi_cat, vl_cat, vr_cat]) (fun X hV hX => ?_)
  subst hV
  have hsp := spT_len F
  refine R_aload_0 hX dX10_putName_0 ?_
  refine R_v0v hX dX10_putName_1 li_X10_107 mk_X10_putSpace mi_X10_putSpace rfl o_22 (c_wSpace (by omega) hw hs) ⟨⟨by decide, by decide⟩, by decide, by decide, rfl, Nat.le_of_ble_eq_true rfl, rfl⟩ (fun x_1 F_1 h_1 => ?_)
  subst h_1
  refine R.eq rfl rfl (show _ = wrN (spT F ++ nmP w (0 : Int).toNat) 1 F by rw [show nmP w (0 : Int).toNat = [] from rfl, List.append_nil]) ?_
  refine R_iconst hX dX10_putName_4 ?_
  refine R_istore_3 hX c1_n dX10_putName_5 ?_
  have lp_6 : ∀ (n : Nat) (i : Int), (0 ≤ i ∧ i ≤ 8) → (∀ j : Int, 0 ≤ j → j < i → 0 < ltS w j) → (9 - i).toNat < n → R X SH 0 0 6 [some (vr (xV X) 22), some (vl w), none, some (vi i)] [] (wrN (spT F ++ nmP w i.toNat) 1 F) (Zq X SH 0 (fun r F' => F' = wrN (spT F ++ nmT w) 1 F) 0 0) := by
    intro n
    induction n with
    | zero => intro i iv6_0 iv6_1 hm; exact absurd hm (Nat.not_lt_zero _)
    | succ n ih_6 =>
      intro i iv6_0 iv6_1 hm_6
      obtain ⟨g0, g2, g3, -⟩ := wrN_f (spT F ++ nmP w i.toNat) 1 F
      rw [List.length_append, nmP_len] at g0
      have hlt := ltS_rng w i
      refine R_iload_3 hX dX10_putName_6 ?_
      refine R_bipush hX dX10_putName_7 (by decide) ?_
      refine R_icmpge (tgt := 40) hX dX10_putName_9 (by decide) ⟨by omega, by omega⟩ ⟨by omega, by omega⟩ (fun c_9 => ?_) (fun c_9 => ?_)
      · skip
        exact R_vret hX dX10_putName_40 (by rw [nmT_of iv6_0 iv6_1 (by omega)])
      · skip
        refine R_lload_1 hX dX10_putName_12 ?_
        refine R_iload_3 hX dX10_putName_13 ?_
        refine R_sN2i hX dX10_putName_14 li_X10_126 mk_X11_letterOf ms_X11_letterOf (c_letterOf (by constructor <;> omega)) ⟨⟨by decide, by decide⟩, by decide, by decide, rfl, Nat.le_of_ble_eq_true rfl, rfl⟩ (fun x_14 F_14 h_14 => ?_)
        obtain ⟨h_14, e_14⟩ := h_14; replace e_14 := e_14.symm; subst e_14
        subst h_14
        refine R_ifle (tgt := 40) hX dX10_putName_17 (by decide) ⟨by omega, by omega⟩ (fun c_17 => ?_) (fun c_17 => ?_)
        · skip
          exact R_vret hX dX10_putName_40 (by rw [nmT_of iv6_0 iv6_1 (by omega)])
        · skip
          refine R_aload_0 hX dX10_putName_20 ?_
          refine R_bipush hX dX10_putName_21 (by decide) ?_
          refine R_lload_1 hX dX10_putName_23 ?_
          refine R_iload_3 hX dX10_putName_24 ?_
          refine R_sN2i hX dX10_putName_25 li_X10_126 mk_X11_letterOf ms_X11_letterOf (c_letterOf (by constructor <;> omega)) ⟨⟨by decide, by decide⟩, by decide, by decide, rfl, Nat.le_of_ble_eq_true rfl, rfl⟩ (fun x_25 F_25 h_25 => ?_)
          obtain ⟨h_25, e_25⟩ := h_25; replace e_25 := e_25.symm; subst e_25
          subst h_25
          refine R_iadd hX dX10_putName_28 ?_
          refine R_iconst hX dX10_putName_29 ?_
          refine R_isub hX dX10_putName_30 ?_
          refine R_v1v hX dX10_putName_31 li_X10_123 mk_X10_put mi_X10_put rfl o_22 (c_wPut (by omega) (by rw [g2]; exact hw)) ⟨⟨by decide, by decide⟩, by decide, by decide, rfl, Nat.le_of_ble_eq_true rfl, rfl⟩ (fun x_31 F_31 h_31 => ?_)
          subst h_31
          refine R.eq rfl rfl (show _ = wrN (spT F ++ nmP w (i + 1).toNat) 1 F by rw [nmP_s iv6_0.1, ← List.append_assoc]; exact wrS_wrN) ?_
          refine R_iinc_3 hX c1_n dX10_putName_34 ?_
          refine R_goto (tgt := 6) hX dX10_putName_37 (by decide) ?_
          exact ih_6 _ (by omega) (fun j h0 h1 => by by_cases z : j = i; (rw [z]; omega); exact iv6_1 j h0 (by omega)) (by omega)
  exact lp_6 10 0 (by omega) (fun j h0 h1 => by omega) (by omega)
set_option maxRecDepth 100000 in
set_option maxHeartbeats 4000000 in
theorem c_wNum {V : VX} {F : Hp} (hn : 0 ≤ F 22 0 ∧ F 22 0 ≤ 90000) (hw : I32 (F 22 2)) (hs : I32 (F 22 3)) {x : Int} (hx : 0 ≤ x ∧ x ≤ 9999) : Ct V yX10_putNumber cX10_putNumber 3 none 2 41 0 0 SH [vr V 22, vi x] F SH 0 (fun r F' => F' = wrN (spT F ++ nuT x) 1 F) := by
  refine Ct.of [some (vr V 22), some (vi x), none] (by decide) (by simp [lg_sl, vi_cat, vl_cat, vr_cat]) rfl (by simp [asc, lv_args, vi_cat, vl_cat, vr_cat]) (fun X hV hX => ?_)
  subst hV
  have hsp := spT_len F
  refine R_aload_0 hX dX10_putNumber_0 ?_
  refine R_v0v hX dX10_putNumber_1 li_X10_107 mk_X10_putSpace mi_X10_putSpace rfl o_22 (c_wSpace (by omega) hw hs) ⟨⟨by decide, by decide⟩, by decide, by decide, rfl, Nat.le_of_ble_eq_true rfl, rfl⟩ (fun x_1 F_1 h_1 => ?_)
  subst h_1
  refine R.eq rfl rfl (show _ = wrN (spT F ++ nuL x (0 : Int).toNat) 1 F by rw [show nuL x (0 : Int).toNat = [] from rfl, List.append_nil]) ?_
  refine R_sipush hX dX10_putNumber_4 (by decide) ?_
  refine R_istore_2 hX c1_i dX10_putNumber_7 ?_
  have lp_8 : ∀ (n : Nat) (i : Int), (0 ≤ i ∧ i ≤ 4) → (5 - i).toNat < n → R X SH 0 0 8 [some (vr (xV X) 22), some (vi x), some (vi (uN (4 - i.toNat)))] [] (wrN (spT F ++ nuL x i.toNat) 1 F) (Zq X SH 0 (fun r F' => F' = wrN (spT F ++ nuT x) 1 F) 0 0) := by
    intro n
    induction n with
    | zero => intro i iv8_0 hm; exact absurd hm (Nat.not_lt_zero _)
    | succ n ih_8 =>
      intro i iv8_0 hm_8
      obtain ⟨g0, g2, g3, -⟩ := wrN_f (spT F ++ nuL x i.toNat) 1 F
      have hnl := nuL_len x i.toNat
      rw [List.length_append] at g0
      have hu0 : i = 4 → uN (4 - i.toNat) = 0 := fun z => by rw [z]; rfl
      have hu1 : i < 4 → (1 ≤ uN (4 - i.toNat) ∧ uN (4 - i.toNat) ≤ 1000) ∧ (uN (4 - i.toNat)).tdiv 10 = uN (4 - (i + 1).toNat) := fun z => by have := uN_ok i.toNat (by omega); rw [show (i + 1).toNat = i.toNat + 1 by omega]; exact this
      have hu2 : 0 ≤ uN (4 - i.toNat) ∧ uN (4 - i.toNat) ≤ 1000 := by by_cases z : i < 4; (have := hu1 z; omega); (have := hu0 (by omega); omega)
      refine R_iload_2 hX dX10_putNumber_8 ?_
      refine R_ifle (tgt := 43) hX dX10_putNumber_9 (by decide) ⟨by omega, by omega⟩ (fun c_9 => ?_) (fun c_9 => ?_)
      · skip
        have hi : i = 4 := by
          by_cases z : i < 4
          · have := hu1 z; omega
          · omega
        subst hi
        exact R_vret hX dX10_putNumber_43 rfl
      · skip
        have hi4 : i < 4 := by by_cases z : i < 4; exact z; exact absurd (hu0 (by omega)) (by omega)
        have hu3 := hu1 hi4
        refine R_iload_1 hX dX10_putNumber_12 ?_
        refine R_iload_2 hX dX10_putNumber_13 ?_
        refine R_icmpge (tgt := 22) hX dX10_putNumber_14 (by decide) ⟨by omega, by omega⟩ ⟨by omega, by omega⟩ (fun c_14 => ?_) (fun c_14 => ?_)
        · skip
          refine R_aload_0 hX dX10_putNumber_22 ?_
          refine R_bipush hX dX10_putNumber_23 (by decide) ?_
          refine R_iload_1 hX dX10_putNumber_25 ?_
          refine R_iload_2 hX dX10_putNumber_26 ?_
          refine R_idiv hX ⟨by omega, by omega⟩ ⟨by omega, by omega⟩ (by omega) dX10_putNumber_27 ?_
          refine R_bipush hX dX10_putNumber_28 (by decide) ?_
          refine R_irem hX (by rw [Int.tdiv_eq_ediv_of_nonneg hx.1]; have q1 := Int.ediv_nonneg hx.1 (show 0 ≤ uN (4 - i.toNat) by omega); have q2 := Int.ediv_le_self (uN (4 - i.toNat)) hx.1; constructor <;> omega) ⟨by omega, by omega⟩ (by omega) dX10_putNumber_30 ?_
          refine R_iadd hX dX10_putNumber_31 ?_
          refine R_v1v hX dX10_putNumber_32 li_X10_123 mk_X10_put mi_X10_put rfl o_22 (c_wPut (by omega) (by rw [g2]; exact hw)) ⟨⟨by decide, by decide⟩, by decide, by decide, rfl, Nat.le_of_ble_eq_true rfl, rfl⟩ (fun x_32 F_32 h_32 => ?_)
          subst h_32
          refine R.eq rfl rfl (show _ = wrN (spT F ++ nuL x (i + 1).toNat) 1 F by rw [nuL_s iv8_0.1, if_pos (by omega), ← List.append_assoc]; exact wrS_wrN) ?_
          first | (refine R.eq rfl rfl (show wrN (spT F ++ nuL x i.toNat) 1 F = wrN (spT F ++ nuL x (i + 1).toNat) 1 F by rw [nuL_s iv8_0.1, if_neg (by omega), List.append_nil]) ?_) | skip
          refine R_iload_2 hX dX10_putNumber_35 ?_
          refine R_bipush hX dX10_putNumber_36 (by decide) ?_
          refine R_idiv hX ⟨by omega, by omega⟩ ⟨by omega, by omega⟩ (by omega) dX10_putNumber_38 ?_
          rw [hu3.2]
          refine R_istore_2 hX c1_i dX10_putNumber_39 ?_
          refine R_goto (tgt := 8) hX dX10_putNumber_40 (by decide) ?_
          exact ih_8 _ (by omega) (by omega)
        · skip
          refine R_iload_2 hX dX10_putNumber_17 ?_
          refine R_iconst hX dX10_putNumber_18 ?_
          refine R_icmpne (tgt := 35) hX dX10_putNumber_19 (by decide) ⟨by omega, by omega⟩ ⟨by omega, by omega⟩ (fun c_19 => ?_) (fun c_19 => ?_)
          · skip
            first | (refine R.eq rfl rfl (show wrN (spT F ++ nuL x i.toNat) 1 F = wrN (spT F ++ nuL x (i + 1).toNat) 1 F by rw [nuL_s iv8_0.1, if_neg (by omega), List.append_nil]) ?_) | skip
            refine R_iload_2 hX dX10_putNumber_35 ?_
            refine R_bipush hX dX10_putNumber_36 (by decide) ?_
            refine R_idiv hX ⟨by omega, by omega⟩ ⟨by omega, by omega⟩ (by omega) dX10_putNumber_38 ?_
            rw [hu3.2]
            refine R_istore_2 hX c1_i dX10_putNumber_39 ?_
            refine R_goto (tgt := 8) hX dX10_putNumber_40 (by decide) ?_
            exact ih_8 _ (by omega) (by omega)
          · skip
            refine R_aload_0 hX dX10_putNumber_22 ?_
            refine R_bipush hX dX10_putNumber_23 (by decide) ?_
            refine R_iload_1 hX dX10_putNumber_25 ?_
            refine R_iload_2 hX dX10_putNumber_26 ?_
            refine R_idiv hX ⟨by omega, by omega⟩ ⟨by omega, by omega⟩ (by omega) dX10_putNumber_27 ?_
            refine R_bipush hX dX10_putNumber_28 (by decide) ?_
            refine R_irem hX (by rw [Int.tdiv_eq_ediv_of_nonneg hx.1]; have q1 := Int.ediv_nonneg hx.1 (show 0 ≤ uN (4 - i.toNat) by omega); have q2 := Int.ediv_le_self (uN (4 - i.toNat)) hx.1; constructor <;> omega) ⟨by omega, by omega⟩ (by omega) dX10_putNumber_30 ?_
            refine R_iadd hX dX10_putNumber_31 ?_
            refine R_v1v hX dX10_putNumber_32 li_X10_123 mk_X10_put mi_X10_put rfl o_22 (c_wPut (by omega) (by rw [g2]; exact hw)) ⟨⟨by decide, by decide⟩, by decide, by decide, rfl, Nat.le_of_ble_eq_true rfl, rfl⟩ (fun x_32 F_32 h_32 => ?_)
            subst h_32
            refine R.eq rfl rfl (show _ = wrN (spT F ++ nuL x (i + 1).toNat) 1 F by rw [nuL_s iv8_0.1, if_pos (by omega), ← List.append_assoc]; exact wrS_wrN) ?_
            first | (refine R.eq rfl rfl (show wrN (spT F ++ nuL x i.toNat) 1 F = wrN (spT F ++ nuL x (i + 1).toNat) 1 F by rw [nuL_s iv8_0.1, if_neg (by omega), List.append_nil]) ?_) | skip
            refine R_iload_2 hX dX10_putNumber_35 ?_
            refine R_bipush hX dX10_putNumber_36 (by decide) ?_
            refine R_idiv hX ⟨by omega, by omega⟩ ⟨by omega, by omega⟩ (by omega) dX10_putNumber_38 ?_
            rw [hu3.2]
            refine R_istore_2 hX c1_i dX10_putNumber_39 ?_
            refine R_goto (tgt := 8) hX dX10_putNumber_40 (by decide) ?_
            exact ih_8 _ (by omega) (by omega)
  exact lp_8 6 0 (by omega) (by omega)
