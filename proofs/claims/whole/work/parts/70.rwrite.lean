theorem gd_l {l m : List Int} {i : Nat} (h : i < l.length) : (l ++ m).getD i 0 = l.getD i 0 := by
  rw [List.getD_eq_getElem?_getD, List.getD_eq_getElem?_getD, List.getElem?_append_left h]
theorem gd_r {l m : List Int} {i : Nat} (h : l.length ≤ i) : (l ++ m).getD i 0 = m.getD (i - l.length) 0 := by
  rw [List.getD_eq_getElem?_getD, List.getD_eq_getElem?_getD, List.getElem?_append_right h]
/-- signs written behind what is written -/
def oS (l : List Int) (F : Hp) : Hp := fun a i => if a = 158 ∧ F 136 41 ≤ i ∧ i < F 136 41 + l.length then l.getD (i - F 136 41).toNat 0 else if a = 136 ∧ i = 41 then F 136 41 + l.length else F a i
theorem oS_k {l : List Int} {F : Hp} {a : Int} (h : a ≠ 158) (h2 : a ≠ 136) : oS l F a = F a := by
  funext i
  unfold oS
  rw [if_neg (fun z => h z.1), if_neg (fun z => h2 z.1)]
theorem oS_f {l : List Int} {F : Hp} {i : Int} (h : i ≠ 41) : oS l F 136 i = F 136 i := by
  unfold oS
  rw [if_neg (fun z => by have := z.1; omega), if_neg (fun z => h z.2)]
theorem oS_w {l : List Int} {F : Hp} : oS l F 136 41 = F 136 41 + l.length := by
  unfold oS
  rw [if_neg (fun z => by have := z.1; omega), if_pos ⟨rfl, rfl⟩]
theorem oS_i {l : List Int} {F : Hp} {i : Int} (h : F 136 41 ≤ i ∧ i < F 136 41 + l.length) : oS l F 158 i = l.getD (i - F 136 41).toNat 0 := if_pos ⟨rfl, h⟩
theorem oS_o {l : List Int} {F : Hp} {i : Int} (h : ¬ (F 136 41 ≤ i ∧ i < F 136 41 + l.length)) : oS l F 158 i = F 158 i := by
  unfold oS
  rw [if_neg (fun z => h z.2), if_neg (fun z => by have := z.1; omega)]
theorem oS_0 {F : Hp} : oS [] F = F := by
  funext a i
  unfold oS
  rw [if_neg (fun z => by have := z.2; simp at this; omega)]
  by_cases q : a = 136 ∧ i = 41
  · rw [if_pos q, q.1, q.2]; simp
  · rw [if_neg q]
theorem oS_1 {F : Hp} {c : Int} : up (up F 158 (F 136 41) c) 136 41 (F 136 41 + 1) = oS [c] F := by
  funext a i
  by_cases q : a = 136 ∧ i = 41
  · rw [q.1, q.2, up_s, oS_w]; rfl
  · rw [up_n q]
    by_cases p : a = 158 ∧ i = F 136 41
    · rw [p.1, p.2, up_s, oS_i ⟨Int.le_refl _, by show F 136 41 < F 136 41 + 1; omega⟩, Int.sub_self]; rfl
    · rw [up_n p]
      unfold oS
      rw [if_neg (fun z => p ⟨z.1, by have h1 := z.2; simp at h1; omega⟩), if_neg q]
theorem oS_oS {l m : List Int} {F : Hp} : oS m (oS l F) = oS (l ++ m) F := by
  have hw : oS l F 136 41 = F 136 41 + l.length := oS_w
  funext a i
  by_cases q : a = 136 ∧ i = 41
  · rw [q.1, q.2, oS_w, oS_w, oS_w, List.length_append]; omega
  · by_cases p : a = 158
    · subst p
      by_cases h1 : F 136 41 ≤ i ∧ i < F 136 41 + l.length
      · rw [oS_o (by rw [hw]; omega), oS_i h1, oS_i (by rw [List.length_append]; omega), gd_l (by omega)]
      · by_cases h2 : F 136 41 + l.length ≤ i ∧ i < F 136 41 + l.length + m.length
        · rw [oS_i (by rw [hw]; exact h2), oS_i (by rw [List.length_append]; omega), hw, gd_r (by omega)]
          congr 1
          omega
        · rw [oS_o (by rw [hw]; exact h2), oS_o h1, oS_o (by rw [List.length_append]; omega)]
    · by_cases r : a = 136
      · subst r
        have hi : i ≠ 41 := fun z => q ⟨rfl, z⟩
        rw [oS_f hi, oS_f hi, oS_f hi]
      · rw [oS_k p r, oS_k p r, oS_k p r]
def wdP (w : Int) (i : Nat) : List Int := (List.range i).map (fun (j : Nat) => 96 + ldS w j)
def wdT (w : Int) : List Int := wdP w (nlF 8 w)
theorem wdP_s {w i : Int} (h : 0 ≤ i) : wdP w (i + 1).toNat = wdP w i.toNat ++ [96 + ldS w i] := by
  obtain ⟨k, rfl⟩ : ∃ k : Nat, i = k := ⟨i.toNat, by omega⟩
  rw [show ((k : Int) + 1).toNat = k + 1 by omega, Int.toNat_natCast]
  unfold wdP
  rw [List.range_succ, List.map_append]
  rfl
theorem wdP_len (w : Int) (i : Nat) : (wdP w i).length = i := by unfold wdP; rw [List.length_map, List.length_range]
theorem wdT_len (w : Int) : (wdT w).length = nlF 8 w := wdP_len _ _
theorem nuL_0 {x : Int} (hx : 0 ≤ x) : (x < 10 → nuL x 3 = []) ∧ (x < 100 → nuL x 2 = []) ∧ (x < 1000 → nuL x 1 = []) := by
  have e1 : x < 1000 → nuL x 1 = [] := fun h => by
    show [] ++ (if (1000 : Int) ≤ x ∨ (1000 : Int) = 1 then _ else []) = []
    rw [if_neg (by omega)]; rfl
  have e2 : x < 100 → nuL x 2 = [] := fun h => by
    show nuL x 1 ++ (if (100 : Int) ≤ x ∨ (100 : Int) = 1 then _ else []) = []
    rw [e1 (by omega), if_neg (by omega)]; rfl
  refine ⟨fun h => ?_, e2, e1⟩
  show nuL x 2 ++ (if (10 : Int) ≤ x ∨ (10 : Int) = 1 then _ else []) = []
  rw [e2 (by omega), if_neg (by omega)]; rfl
theorem uN_1 {p : Nat} (h : 1 ≤ p ∧ p ≤ 4) : (p = 1 ∧ uN p = 1) ∨ (p = 2 ∧ uN p = 10) ∨ (p = 3 ∧ uN p = 100) ∨ (p = 4 ∧ uN p = 1000) := by
  have : p = 1 ∨ p = 2 ∨ p = 3 ∨ p = 4 := by omega
  rcases this with rfl | rfl | rfl | rfl
  · exact Or.inl ⟨rfl, rfl⟩
  · exact Or.inr (Or.inl ⟨rfl, rfl⟩)
  · exact Or.inr (Or.inr (Or.inl ⟨rfl, rfl⟩))
  · exact Or.inr (Or.inr (Or.inr ⟨rfl, rfl⟩))
theorem nuL_st {x : Int} {p : Nat} (h : 1 ≤ p ∧ p ≤ 4) (h2 : uN p ≤ x ∨ uN p = 1) : nuL x (4 - (p - 1)) = nuL x (4 - p) ++ [48 + (x.tdiv (uN p)).tmod 10] := by
  have e : 4 - (p - 1) = (4 - p) + 1 := by omega
  rw [e]
  show nuL x (4 - p) ++ (if uN (4 - (4 - p)) ≤ x ∨ uN (4 - (4 - p)) = 1 then [48 + (x.tdiv (uN (4 - (4 - p)))).tmod 10] else []) = _
  rw [show 4 - (4 - p) = p by omega, if_pos h2]
theorem uN_up {p : Nat} (h : 1 ≤ p ∧ p ≤ 3) : uN p * 10 = uN (p + 1) := by
  have : p = 1 ∨ p = 2 ∨ p = 3 := by omega
  rcases this with rfl | rfl | rfl <;> rfl
theorem uN_dn {p : Nat} (h : 1 ≤ p ∧ p ≤ 4) : (uN p).tdiv 10 = uN (p - 1) := by
  have : p = 1 ∨ p = 2 ∨ p = 3 ∨ p = 4 := by omega
  rcases this with rfl | rfl | rfl | rfl <;> rfl
set_option maxRecDepth 100000 in
set_option maxHeartbeats 4000000 in
theorem r_puts {V : VX} {F : Hp} (hr : 0 ≤ F 136 41 ∧ F 136 41 < 2000) {c : Int} : Ct V yX12_puts cX12_puts 2 none 0 0 0 0 SH [vr V 136, vi c] F SH 0 (fun r F' => F' = oS [c] F) := by
  refine Ct.of [some (vr V 136), some (vi c)] (by decide) (by simp [lg_sl, vi_cat, vl_cat, vr_cat]) rfl (by simp [asc, lv_args, vi_cat, vl_cat, vr_cat]) (fun X hV hX => ?_)
  subst hV
  refine R_aload_0 hX dX12_puts_0 ?_
  refine R_getq (v := 158) hX dX12_puts_1 fl_X12_85 o_136 rfl (by omega) ?_
  refine R_aload_0 hX dX12_puts_4 ?_
  refine R_geti hX dX12_puts_5 fl_X12_322 o_136 rfl ?_
  try simp (disch := omega) only [up_k]
  refine R_iload_1 hX dX12_puts_8 ?_
  refine R_iast hX dX12_puts_9 a_158 ⟨by omega, by omega⟩ ?_
  refine R_aload_0 hX dX12_puts_10 ?_
  refine R_dup hX c1_r dX12_puts_11 ?_
  refine R_geti hX dX12_puts_12 fl_X12_322 o_136 rfl ?_
  try simp (disch := omega) only [up_k]
  refine R_iconst hX dX12_puts_15 ?_
  refine R_iadd hX dX12_puts_16 ?_
  refine R_puti hX dX12_puts_17 fl_X12_322 o_136 rfl ?_
  exact R_vret hX dX12_puts_20 (by first | exact oS_1 | (simp (disch := omega) only [up_k]; exact oS_1))
set_option maxRecDepth 100000 in
set_option maxHeartbeats 4000000 in
theorem r_putsWord {V : VX} {F : Hp} {w : Int} (hw : 0 ≤ w ∧ w < 1099511627776) (hr : 0 ≤ F 136 41 ∧ F 136 41 + nlF 8 w ≤ 2000)  : Ct V yX12_putsWord cX12_putsWord 4 none 2 49 0 0 SH [vr V 136, vl w] F SH 0 (fun r F' => F' = oS (wdT w) F) := by
  refine Ct.of [some (vr V 136), some (vl w), none, none] (by decide) (by simp [lg_sl, vi_cat, vl_cat, vr_cat]) rfl (by simp [asc, lv_args, vi_cat, vl_cat, vr_cat]) (fun X hV hX => ?_)
  subst hV
  have hnl := nlF_le 8 w
  refine R_iconst hX dX12_putsWord_0 ?_
  refine R_istore_3 hX c1_n dX12_putsWord_1 ?_
  have lp_2 : ∀ (n : Nat) (i : Int), (0 ≤ i ∧ i ≤ nlF 8 w) → (9 - i).toNat < n → R X SH 0 0 2 [some (vr (xV X) 136), some (vl w), none, some (vi i)] [] (oS (wdP w i.toNat) F) (Zq X SH 0 (fun r F' => F' = oS (wdT w) F) 0 0) := by
    intro n
    induction n with
    | zero => intro i iv2_0 hm; exact absurd hm (Nat.not_lt_zero _)
    | succ n ih_2 =>
      intro i iv2_0 hm_2
      have hwl := wdP_len w i.toNat
      refine R_iload_3 hX dX12_putsWord_2 ?_
      refine R_lload_1 hX dX12_putsWord_3 ?_
      refine R_s1i hX dX12_putsWord_4 li_X12_239 mk_X12_lettersOf ms_X12_lettersOf (r_lettersOf hw) ⟨⟨by decide, by decide⟩, by decide, by decide, rfl, Nat.le_of_ble_eq_true rfl, rfl⟩ (fun x_4 F_4 h_4 => ?_)
      obtain ⟨h_4, e_4⟩ := h_4; replace e_4 := e_4.symm; subst e_4
      refine R_icmpge (tgt := 28) hX dX12_putsWord_7 (by decide) (by constructor <;> first | omega | (simp (disch := omega) only [up_k, up_i, up_s]; omega)) (by constructor <;> first | omega | (simp (disch := omega) only [up_k, up_i, up_s]; omega)) (fun c_7 => ?_) (fun c_7 => ?_)
      · skip
        exact R_vret hX dX12_putsWord_28 (by rw [show i.toNat = nlF 8 w by omega]; rfl)
      · skip
        refine R_aload_0 hX dX12_putsWord_10 ?_
        refine R_bipush hX dX12_putsWord_11 (by decide) ?_
        refine R_lload_1 hX dX12_putsWord_13 ?_
        refine R_iload_3 hX dX12_putsWord_14 ?_
        refine R_s2i hX dX12_putsWord_15 li_X12_243 mk_X12_letterOf ms_X12_letterOf (r_letterOf hw iv2_0.1 (by constructor <;> omega)) ⟨⟨by decide, by decide⟩, by decide, by decide, rfl, Nat.le_of_ble_eq_true rfl, rfl⟩ (fun x_15 F_15 h_15 => ?_)
        obtain ⟨h_15, e_15⟩ := h_15; replace e_15 := e_15.symm; subst e_15
        subst h_15
        refine R_iadd hX dX12_putsWord_18 ?_
        refine R_v1v hX dX12_putsWord_19 li_X12_325 mk_X12_puts mi_X12_puts rfl o_136 (r_puts (by rw [oS_w, hwl]; omega)) ⟨⟨by decide, by decide⟩, by decide, by decide, rfl, Nat.le_of_ble_eq_true rfl, rfl⟩ (fun x_19 F_19 h_19 => ?_)
        subst h_19
        refine R.eq rfl rfl (show _ = oS (wdP w (i + 1).toNat) F by rw [wdP_s iv2_0.1, ← oS_oS]) ?_
        refine R_iinc_3 hX c1_n dX12_putsWord_22 ?_
        refine R_goto (tgt := 2) hX dX12_putsWord_25 (by decide) ?_
        exact ih_2 (i + 1) (by omega) (by omega)
  refine R.eq rfl rfl (show _ = oS (wdP w (0 : Int).toNat) F from oS_0.symm) ?_
  exact lp_2 10 0 (by omega) (by omega)
set_option maxRecDepth 100000 in
set_option maxHeartbeats 4000000 in
theorem r_putsSpaced {V : VX} {F : Hp} {w : Int} (hw : 0 ≤ w ∧ w < 1099511627776) (hr : 0 ≤ F 136 41 ∧ F 136 41 + nlF 8 w + 1 ≤ 2000)  : Ct V yX12_putsSpaced cX12_putsSpaced 3 none 3 72 0 0 SH [vr V 136, vl w] F SH 0 (fun r F' => F' = oS ([32] ++ wdT w) F) := by
  refine Ct.of [some (vr V 136), some (vl w), none] (by decide) (by simp [lg_sl, vi_cat, vl_cat, vr_cat]) rfl (by simp [asc, lv_args, vi_cat, vl_cat, vr_cat]) (fun X hV hX => ?_)
  subst hV
  refine R_aload_0 hX dX12_putsSpaced_0 ?_
  refine R_bipush hX dX12_putsSpaced_1 (by decide) ?_
  refine R_v1v hX dX12_putsSpaced_3 li_X12_325 mk_X12_puts mi_X12_puts rfl o_136 (r_puts (by omega)) ⟨⟨by decide, by decide⟩, by decide, by decide, rfl, Nat.le_of_ble_eq_true rfl, rfl⟩ (fun x_3 F_3 h_3 => ?_)
  subst h_3
  refine R_aload_0 hX dX12_putsSpaced_6 ?_
  refine R_lload_1 hX dX12_putsSpaced_7 ?_
  refine R_v1v hX dX12_putsSpaced_8 li_X12_328 mk_X12_putsWord mi_X12_putsWord rfl o_136 (r_putsWord hw (by rw [oS_w]; show 0 ≤ F 136 41 + 1 ∧ F 136 41 + 1 + _ ≤ 2000; omega)) ⟨⟨by decide, by decide⟩, by decide, by decide, rfl, Nat.le_of_ble_eq_true rfl, rfl⟩ (fun x_8 F_8 h_8 => ?_)
  subst h_8
  exact R_vret hX dX12_putsSpaced_11 oS_oS
set_option maxRecDepth 100000 in
set_option maxHeartbeats 4000000 in
theorem r_putsNumber {V : VX} {F : Hp} {x : Int} (hx : 0 ≤ x ∧ x ≤ 9999) (hr : 0 ≤ F 136 41 ∧ F 136 41 + 5 ≤ 2000)  : Ct V yX12_putsNumber cX12_putsNumber 3 none 1 21 0 0 SH [vr V 136, vi x] F SH 0 (fun r F' => F' = oS ([32] ++ nuT x) F) := by
  refine Ct.of [some (vr V 136), some (vi x), none] (by decide) (by simp [lg_sl, vi_cat, vl_cat, vr_cat]) rfl (by simp [asc, lv_args, vi_cat, vl_cat, vr_cat]) (fun X hV hX => ?_)
  subst hV
  have hn0 := nuL_0 hx.1
  refine R_aload_0 hX dX12_putsNumber_0 ?_
  refine R_bipush hX dX12_putsNumber_1 (by decide) ?_
  refine R_v1v hX dX12_putsNumber_3 li_X12_325 mk_X12_puts mi_X12_puts rfl o_136 (r_puts (by omega)) ⟨⟨by decide, by decide⟩, by decide, by decide, rfl, Nat.le_of_ble_eq_true rfl, rfl⟩ (fun x_3 F_3 h_3 => ?_)
  subst h_3
  skip
  refine R_iconst hX dX12_putsNumber_6 ?_
  refine R_istore_2 hX c1_i dX12_putsNumber_7 ?_
  have lp_8 : ∀ (n : Nat) (p : Nat), ((1 ≤ p ∧ p ≤ 4) ∧ (p = 1 ∨ uN p ≤ x)) → 5 - p < n → R X SH 0 0 8 [some (vr (xV X) 136), some (vi x), some (vi (uN p))] [] (oS [32] F) (Zq X SH 0 (fun r F' => F' = oS ([32] ++ nuT x) F) 0 0) := by
    intro n
    induction n with
    | zero => intro p iv8_0 hm; exact absurd hm (Nat.not_lt_zero _)
    | succ n ih_8 =>
      intro p iv8_0 hm_8
      have hu := uN_1 iv8_0.1
      have htd : x.tdiv (uN p) = x / uN p := Int.tdiv_eq_ediv_of_nonneg hx.1
      have hdr := dv_rng (w := x) (d := uN p) hx.1 (by omega)
      refine R_iload_1 hX dX12_putsNumber_8 ?_
      refine R_iload_2 hX dX12_putsNumber_9 ?_
      refine R_idiv hX (by constructor <;> omega) (by constructor <;> omega) (by omega) dX12_putsNumber_10 ?_
      refine R_bipush hX dX12_putsNumber_11 (by decide) ?_
      refine R_icmple (tgt := 24) hX dX12_putsNumber_13 (by decide) (by rw [htd]; constructor <;> omega) (by constructor <;> first | omega | (simp (disch := omega) only [up_k, up_i, up_s]; omega)) (fun c_13 => ?_) (fun c_13 => ?_)
      · skip
        have lp_24 : ∀ (n : Nat) (p : Nat), (p ≤ 4 ∧ (p = 0 ∨ p = 1 ∨ uN p ≤ x)) → p < n → R X SH 0 0 24 [some (vr (xV X) 136), some (vi x), some (vi (uN p))] [] (oS ([32] ++ nuL x (4 - p)) F) (Zq X SH 0 (fun r F' => F' = oS ([32] ++ nuT x) F) 0 0) := by
          intro n
          induction n with
          | zero => intro p iv24_0 hm; exact absurd hm (Nat.not_lt_zero _)
          | succ n ih_24 =>
            intro p iv24_0 hm_24
            have hu0 : p = 0 → uN p = 0 := fun z => by rw [z]; rfl
            have hub : 0 ≤ uN p ∧ uN p ≤ 1000 := by by_cases z : p = 0; (rw [hu0 z]; omega); (have := uN_1 (p := p) (by omega); omega)
            have hnl := nuL_len x (4 - p)
            skip
            refine R_iload_2 hX dX12_putsNumber_24 ?_
            refine R_ifle (tgt := 49) hX dX12_putsNumber_25 (by decide) (by constructor <;> first | omega | (simp (disch := omega) only [up_k, up_i, up_s]; omega)) (fun c_25 => ?_) (fun c_25 => ?_)
            · skip
              exact R_vret hX dX12_putsNumber_49 (by have hp : p = 0 := (by by_cases z : p = 0; exact z; have hu := uN_1 (p := p) (by omega); omega); rw [hp]; rfl)
            · skip
              have hp1 : 1 ≤ p ∧ p ≤ 4 := by by_cases z : p = 0; (have := hu0 z; omega); omega
              have hu := uN_1 hp1
              have htd : x.tdiv (uN p) = x / uN p := Int.tdiv_eq_ediv_of_nonneg hx.1
              have hdr := dv_rng (w := x) (d := uN p) hx.1 (by omega)
              have hst := nuL_st (x := x) hp1 (by omega)
              have hdn := uN_dn hp1
              refine R_aload_0 hX dX12_putsNumber_28 ?_
              refine R_bipush hX dX12_putsNumber_29 (by decide) ?_
              refine R_iload_1 hX dX12_putsNumber_31 ?_
              refine R_iload_2 hX dX12_putsNumber_32 ?_
              refine R_idiv hX (by constructor <;> omega) (by constructor <;> omega) (by omega) dX12_putsNumber_33 ?_
              refine R_bipush hX dX12_putsNumber_34 (by decide) ?_
              refine R_irem hX (by rw [htd]; constructor <;> omega) (by constructor <;> first | omega | (simp (disch := omega) only [up_k, up_i, up_s]; omega)) (by omega) dX12_putsNumber_36 ?_
              refine R_iadd hX dX12_putsNumber_37 ?_
              refine R_v1v hX dX12_putsNumber_38 li_X12_325 mk_X12_puts mi_X12_puts rfl o_136 (r_puts (by rw [oS_w]; simp only [List.length_append, List.length_cons, List.length_nil]; omega)) ⟨⟨by decide, by decide⟩, by decide, by decide, rfl, Nat.le_of_ble_eq_true rfl, rfl⟩ (fun x_38 F_38 h_38 => ?_)
              subst h_38
              refine R_iload_2 hX dX12_putsNumber_41 ?_
              refine R_bipush hX dX12_putsNumber_42 (by decide) ?_
              refine R_idiv hX (by constructor <;> first | omega | (simp (disch := omega) only [up_k, up_i, up_s]; omega)) (by constructor <;> first | omega | (simp (disch := omega) only [up_k, up_i, up_s]; omega)) (by omega) dX12_putsNumber_44 ?_
              rw [hdn]
              refine R.eq rfl rfl (show _ = oS ([32] ++ nuL x (4 - (p - 1))) F by rw [hst, ← List.append_assoc]; exact oS_oS) ?_
              have hpd : p - 1 = 0 ∨ p - 1 = 1 ∨ uN (p - 1) ≤ x := by
                rcases hu with z | z | z | z
                · omega
                · omega
                · rw [z.1]; right; right; show (10 : Int) ≤ x; omega
                · rw [z.1]; right; right; show (100 : Int) ≤ x; omega
              refine R_istore_2 hX c1_i dX12_putsNumber_45 ?_
              refine R_goto (tgt := 24) hX dX12_putsNumber_46 (by decide) ?_
              exact ih_24 (p - 1) ⟨by omega, hpd⟩ (by omega)
        have hnil : nuL x (4 - p) = [] := by rw [htd] at c_13; rcases hu with z | z | z | z <;> (rw [z.2] at c_13; rw [z.1]; first | exact hn0.1 (by omega) | exact hn0.2.1 (by omega) | exact hn0.2.2 (by omega) | rfl)
        refine R.eq rfl rfl (show _ = oS ([32] ++ nuL x (4 - p)) F by rw [hnil]; rfl) ?_
        exact lp_24 6 p (by omega) (by omega)
      · skip
        have hp3 : p ≤ 3 := by rw [htd] at c_13; rcases hu with z | z | z | z <;> (rw [z.2] at c_13; omega)
        have hup := uN_up (p := p) ⟨iv8_0.1.1, hp3⟩
        have hle : uN (p + 1) ≤ x := by rw [← hup]; rw [htd] at c_13; rcases hu with z | z | z | z <;> (rw [z.2] at c_13 ⊢; omega)
        refine R_iload_2 hX dX12_putsNumber_16 ?_
        refine R_bipush hX dX12_putsNumber_17 (by decide) ?_
        refine R_imul hX dX12_putsNumber_19 ?_
        rw [hup]
        refine R_istore_2 hX c1_i dX12_putsNumber_20 ?_
        refine R_goto (tgt := 8) hX dX12_putsNumber_21 (by decide) ?_
        exact ih_8 (p + 1) (by omega) (by omega)
  exact lp_8 6 1 (by omega) (by omega)
