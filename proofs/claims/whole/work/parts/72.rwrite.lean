def nodsR (F : Hp) : Nat → List Int
  | 0 => []
  | k + 1 => nodsR F k ++ nodR F k
def tmsR (F : Hp) : Nat → List Int
  | 0 => []
  | k + 1 => tmsR F k ++ (if F 137 0 < F 150 k then tmR F k else [])
def limR (F : Hp) : List Int := wdT 12891444 ++ ([32] ++ nuT (F 136 4)) ++ [59]
def ageR (F : Hp) : List Int := if F 136 5 < 0 then [] else wdT 1253 ++ ([32] ++ nuT (F 136 5)) ++ [59]
def txR (F : Hp) : List Int := nodsR F (F 136 3).toNat ++ limR F ++ ageR F ++ tmsR F (F 136 38).toNat
theorem nodsR_s {F : Hp} {i : Int} (h : 0 ≤ i) : nodsR F (i + 1).toNat = nodsR F i.toNat ++ nodR F i := by
  obtain ⟨k, rfl⟩ : ∃ k : Nat, i = k := ⟨i.toNat, by omega⟩
  rfl
theorem tmsR_s {F : Hp} {i : Int} (h : 0 ≤ i) : tmsR F (i + 1).toNat = tmsR F i.toNat ++ (if F 137 0 < F 150 i then tmR F i else []) := by
  obtain ⟨k, rfl⟩ : ∃ k : Nat, i = k := ⟨i.toNat, by omega⟩
  rfl
theorem nodR_oS {l : List Int} {F : Hp} {d : Int} : nodR (oS l F) d = nodR F d := by unfold nodR; simp (disch := omega) only [oS_k]
theorem tmR_oS {l : List Int} {F : Hp} {d : Int} : tmR (oS l F) d = tmR F d := by unfold tmR; simp (disch := omega) only [oS_k]
theorem nodR_len {F : Hp} {d : Int} : (nodR F d).length ≤ 104 := by
  unfold nodR
  have c1 := nl_NODE
  have c2 := nl_IN
  have c5 := nl_RATE
  have c6 := nl_CEIL
  have c7 := nl_BURST
  have c8 := nl_CREDIT
  have c9 := nl_WEIGHT
  have c10 := nl_PRIO
  have c12 := nl_ALONE
  have y1 := nlF_le 8 (F 139 d)
  have y2 := nlF_le 8 (F 139 (F 141 d))
  have z : ∀ x, (nuT x).length ≤ 4 := fun x => nuL_len x 4
  have z1 := z (F 137 (99 + d))
  have z2 := z (F 137 (111 + d))
  have z3 := z (F 142 d)
  have z4 := z (F 143 d)
  have z5 := z (F 137 (123 + d))
  have z6 := z (F 144 d)
  split <;> split <;> simp only [List.length_append, List.length_cons, List.length_nil, wdT_len] <;> omega
theorem tmR_len {F : Hp} {d : Int} : (tmR F d).length ≤ 31 := by
  unfold tmR
  have c11 := nl_AT
  have y1 := nlF_le 8 (F 139 (F 151 d))
  have y2 := nlF_le 8 (cwR (F 152 d))
  have z : ∀ x, (nuT x).length ≤ 4 := fun x => nuL_len x 4
  have z1 := z (F 150 d)
  have z2 := z (F 153 d)
  simp only [List.length_append, List.length_cons, List.length_nil, wdT_len]
  omega
theorem nodsR_len {F : Hp} : ∀ k : Nat, (nodsR F k).length ≤ 104 * k
  | 0 => by simp [nodsR]
  | k + 1 => by
    unfold nodsR
    have := nodsR_len (F := F) k
    have := nodR_len (F := F) (d := k)
    rw [List.length_append]
    omega
theorem tmsR_len {F : Hp} : ∀ k : Nat, (tmsR F k).length ≤ 31 * k
  | 0 => by simp [tmsR]
  | k + 1 => by
    unfold tmsR
    have := tmsR_len (F := F) k
    have := tmR_len (F := F) (d := k)
    rw [List.length_append]
    split <;> first | omega | (simp only [List.length_nil]; omega)
theorem limR_len {F : Hp} : (limR F).length ≤ 11 := by
  unfold limR
  have c3 := nl_LIMIT
  have z1 : (nuT (F 136 4)).length ≤ 4 := nuL_len _ 4
  simp only [List.length_append, List.length_cons, List.length_nil, wdT_len]
  omega
theorem ageR_len {F : Hp} : (ageR F).length ≤ 9 := by
  unfold ageR
  have c4 := nl_AGE
  have z1 : (nuT (F 136 5)).length ≤ 4 := nuL_len _ 4
  split <;> simp only [List.length_append, List.length_cons, List.length_nil, wdT_len] <;> omega
theorem RI.w {K x : Int} {F : Hp} (h : RI K F) : RI K (up F 136 41 x) := by
  unfold RI
  rw [show vw 0 (up F 136 41 x) = vw 0 F from vw_fr (fun j _ _ => up_k (by decide)) ⟨up_i (by decide), up_i (by decide), up_i (by decide), up_i (by decide)⟩ (fun a h => up_r (by omega))]
  exact h
theorem txR_len {F : Hp} (h : 0 ≤ F 136 3 ∧ F 136 3 ≤ 12) (h2 : 0 ≤ F 136 38 ∧ F 136 38 ≤ 12) : (txR F).length ≤ 1700 := by
  unfold txR
  have q1 := limR_len (F := F)
  have q2 := ageR_len (F := F)
  have q3 := nodsR_len (F := F) (F 136 3).toNat
  have q4 := tmsR_len (F := F) (F 136 38).toNat
  simp only [List.length_append]
  omega
set_option maxRecDepth 100000 in
set_option maxHeartbeats 4000000 in
theorem r_writes {V : VX} {F : Hp} {K : Int} (h : RI K F) (hnm : ∀ d : Int, 0 ≤ d → d < F 136 3 → 0 ≤ F 139 d ∧ F 139 d < 1099511627776)  : Ct V yX12_writes cX12_writes 2 none 5 115 0 0 SH [vr V 136] F SH 0 (fun r F' => F' = oS (txR (up F 136 41 0)) (up F 136 41 0)) := by
  refine Ct.of [some (vr V 136), none] (by decide) (by simp [lg_sl, vi_cat, vl_cat, vr_cat]) rfl (by simp [asc, lv_args, vi_cat, vl_cat, vr_cat]) (fun X hV hX => ?_)
  subst hV
  have hN := ri_N h
  have hT := ri_T h
  refine R_aload_0 hX dX12_writes_0 ?_
  refine R_iconst hX dX12_writes_1 ?_
  refine R_puti hX dX12_writes_2 fl_X12_322 o_136 rfl ?_
  refine R.gen (fun G hG => ?_)
  have hR := h.w (x := 0)
  rw [← hG] at hR
  have w0 : G 136 41 = 0 := by rw [hG]; exact up_s
  have hnm2 : ∀ d : Int, 0 ≤ d → d < G 136 3 → 0 ≤ G 139 d ∧ G 139 d < 1099511627776 := fun d z0 z1 => by rw [hG, up_k (by decide)]; exact hnm d z0 (by rw [hG, up_i (by decide)] at z1; exact z1)
  have hL := ri_L hR
  have hN := ri_N hR
  have nn := nodsR_len (F := G) (G 136 3).toNat
  have c1 := nl_NODE
  have c2 := nl_IN
  have c3 := nl_LIMIT
  have c4 := nl_AGE
  have c5 := nl_RATE
  have c6 := nl_CEIL
  have c7 := nl_BURST
  have c8 := nl_CREDIT
  have c9 := nl_WEIGHT
  have c10 := nl_PRIO
  have c11 := nl_AT
  have c12 := nl_ALONE
  have z0 : (nuT (G 136 4)).length ≤ 4 := nuL_len _ 4
  have z1 : (nuT (G 136 5)).length ≤ 4 := nuL_len _ 4
  refine R_iconst hX dX12_writes_5 ?_
  refine R_istore_1 hX c1_r dX12_writes_6 ?_
  have lp_7 : ∀ (n : Nat) (x : Int), (0 ≤ x ∧ x ≤ G 136 3) → (13 - x).toNat < n → R X SH 0 0 7 [some (vr (xV X) 136), some (vi x)] [] (oS (nodsR G x.toNat) G) (Zq X SH 0 (fun r F' => F' = oS (txR (up F 136 41 0)) (up F 136 41 0)) 0 0) := by
    intro n
    induction n with
    | zero => intro x iv7_0 hm; exact absurd hm (Nat.not_lt_zero _)
    | succ n ih_7 =>
      intro x iv7_0 hm_7
      have nx := nodsR_len (F := G) x.toNat
      refine R_iload_1 hX dX12_writes_7 ?_
      refine R_aload_0 hX dX12_writes_8 ?_
      refine R_geti hX dX12_writes_9 fl_X12_91 o_136 rfl ?_
      try simp (disch := omega) only [oS_k, oS_f]
      refine R_icmpge (tgt := 26) hX dX12_writes_12 (by decide) (by constructor <;> first | omega | (simp (disch := omega) only [up_k, up_i, up_s]; omega)) (by constructor <;> first | omega | (simp (disch := omega) only [up_k, up_i, up_s]; omega)) (fun c_12 => ?_) (fun c_12 => ?_)
      · skip
        have hx : x = G 136 3 := by omega
        subst hx
        refine R_aload_0 hX dX12_writes_26 ?_
        refine R_ldc2 (n := 12891444) hX k2_X12_169 rfl dX12_writes_27 ?_
        refine R_v1v hX dX12_writes_30 li_X12_328 mk_X12_putsWord mi_X12_putsWord rfl o_136 (r_putsWord (by decide) (by simp only [oS_w, List.length_append, List.length_cons, List.length_nil, wdT_len]; omega)) ⟨⟨by decide, by decide⟩, by decide, by decide, rfl, Nat.le_of_ble_eq_true rfl, rfl⟩ (fun x_30 F_30 h_30 => ?_)
        subst h_30
        refine R.eq rfl rfl oS_oS ?_
        refine R_aload_0 hX dX12_writes_33 ?_
        refine R_aload_0 hX dX12_writes_34 ?_
        refine R_geti hX dX12_writes_35 fl_X12_17 o_136 rfl ?_
        try simp (disch := omega) only [oS_k, oS_f]
        refine R_v1v hX dX12_writes_38 li_X12_335 mk_X12_putsNumber mi_X12_putsNumber rfl o_136 (r_putsNumber (by omega) (by simp only [oS_w, List.length_append, List.length_cons, List.length_nil, wdT_len]; omega)) ⟨⟨by decide, by decide⟩, by decide, by decide, rfl, Nat.le_of_ble_eq_true rfl, rfl⟩ (fun x_38 F_38 h_38 => ?_)
        subst h_38
        refine R.eq rfl rfl oS_oS ?_
        refine R_aload_0 hX dX12_writes_41 ?_
        refine R_bipush hX dX12_writes_42 (by decide) ?_
        refine R_v1v hX dX12_writes_44 li_X12_325 mk_X12_puts mi_X12_puts rfl o_136 (r_puts (by simp only [oS_w, List.length_append, List.length_cons, List.length_nil, wdT_len]; omega)) ⟨⟨by decide, by decide⟩, by decide, by decide, rfl, Nat.le_of_ble_eq_true rfl, rfl⟩ (fun x_44 F_44 h_44 => ?_)
        subst h_44
        refine R.eq rfl rfl oS_oS ?_
        refine R_aload_0 hX dX12_writes_47 ?_
        refine R_geti hX dX12_writes_48 fl_X12_21 o_136 rfl ?_
        try simp (disch := omega) only [oS_k, oS_f]
        refine R_iflt (tgt := 75) hX dX12_writes_51 (by decide) (by constructor <;> first | omega | (simp (disch := omega) only [up_k, up_i, up_s]; omega)) (fun c_51 => ?_) (fun c_51 => ?_)
        · skip
          obtain ⟨tl, htl⟩ : ∃ tl : List Int, tl = nodsR G (G 136 3).toNat ++ limR G ++ ageR G := ⟨_, rfl⟩
          have hln : tl.length ≤ 1268 := by have q1 := limR_len (F := G); have q2 := ageR_len (F := G); rw [htl, List.length_append, List.length_append]; omega
          refine R.eq rfl rfl (show _ = oS (tl ++ tmsR G (0 : Int).toNat) G by rw [show tmsR G (0 : Int).toNat = [] from rfl, List.append_nil, htl]; unfold limR ageR; first | (rw [if_pos (by omega)]; simp only [List.append_assoc, List.append_nil]; done) | (rw [if_neg (by omega)]; simp only [List.append_assoc, List.append_nil]; done)) ?_
          refine R_iconst hX dX12_writes_75 ?_
          refine R_istore_1 hX c1_r dX12_writes_76 ?_
          have lp_77 : ∀ (n : Nat) (x : Int), (0 ≤ x ∧ x ≤ G 136 38) → (13 - x).toNat < n → R X SH 0 0 77 [some (vr (xV X) 136), some (vi x)] [] (oS (tl ++ tmsR G x.toNat) G) (Zq X SH 0 (fun r F' => F' = oS (txR (up F 136 41 0)) (up F 136 41 0)) 0 0) := by
            intro n
            induction n with
            | zero => intro x iv77_0 hm; exact absurd hm (Nat.not_lt_zero _)
            | succ n ih_77 =>
              intro x iv77_0 hm_77
              have nx := tmsR_len (F := G) x.toNat
              have hCx := ri_C hR x
              refine R_iload_1 hX dX12_writes_77 ?_
              refine R_aload_0 hX dX12_writes_78 ?_
              refine R_geti hX dX12_writes_79 fl_X12_208 o_136 rfl ?_
              try simp (disch := omega) only [oS_k, oS_f]
              refine R_icmpge (tgt := 111) hX dX12_writes_82 (by decide) (by constructor <;> first | omega | (simp (disch := omega) only [up_k, up_i, up_s]; omega)) (by constructor <;> first | omega | (simp (disch := omega) only [up_k, up_i, up_s]; omega)) (fun c_82 => ?_) (fun c_82 => ?_)
              · skip
                exact R_vret hX dX12_writes_111 (by rw [← hG]; unfold txR; rw [htl, show x = G 136 38 by omega])
              · skip
                refine R_aload_0 hX dX12_writes_85 ?_
                refine R_getq (v := 150) hX dX12_writes_86 fl_X12_61 o_136 rfl (by omega) ?_
                refine R_iload_1 hX dX12_writes_89 ?_
                refine R_iald hX dX12_writes_90 a_150 ⟨by omega, by omega⟩ ?_
                try simp (disch := omega) only [oS_k, oS_f]
                refine R_aload_0 hX dX12_writes_91 ?_
                refine R_getq (v := 137) hX dX12_writes_92 fl_X12_7 o_136 rfl (by omega) ?_
                refine R_iconst hX dX12_writes_95 ?_
                refine R_iald hX dX12_writes_96 a_137 ⟨by omega, by omega⟩ ?_
                try simp (disch := omega) only [oS_k, oS_f]
                refine R_icmple (tgt := 105) hX dX12_writes_97 (by decide) (by have := hCx (by omega) (by omega); constructor <;> omega) (by have := (ri_Q hR).1; constructor <;> omega) (fun c_97 => ?_) (fun c_97 => ?_)
                · skip
                  refine R.eq rfl rfl (show _ = oS (tl ++ tmsR G (x + 1).toNat) G by rw [tmsR_s (by omega)]; first | (rw [if_pos (by omega), ← tmR_oS (l := tl ++ tmsR G x.toNat), ← List.append_assoc]; exact oS_oS) | (rw [if_neg (by omega), List.append_nil])) ?_
                  refine R_iinc_1 hX c1_r dX12_writes_105 ?_
                  refine R_goto (tgt := 77) hX dX12_writes_108 (by decide) ?_
                  exact ih_77 (x + 1) (by omega) (by omega)
                · skip
                  refine R_aload_0 hX dX12_writes_100 ?_
                  refine R_iload_1 hX dX12_writes_101 ?_
                  refine R_v1v hX dX12_writes_102 li_X12_341 mk_X12_putsTimed mi_X12_putsTimed rfl o_136 (r_putsTimed (RI.oS hR) (by rw [oS_f (by decide)]; omega) (by simp (disch := omega) only [oS_k, oS_f]; exact hnm2) (by rw [oS_w, w0, List.length_append]; omega)) ⟨⟨by decide, by decide⟩, by decide, by decide, rfl, Nat.le_of_ble_eq_true rfl, rfl⟩ (fun x_102 F_102 h_102 => ?_)
                  subst h_102
                  refine R.eq rfl rfl (show _ = oS (tl ++ tmsR G (x + 1).toNat) G by rw [tmsR_s (by omega)]; first | (rw [if_pos (by omega), ← tmR_oS (l := tl ++ tmsR G x.toNat), ← List.append_assoc]; exact oS_oS) | (rw [if_neg (by omega), List.append_nil])) ?_
                  refine R_iinc_1 hX c1_r dX12_writes_105 ?_
                  refine R_goto (tgt := 77) hX dX12_writes_108 (by decide) ?_
                  exact ih_77 (x + 1) (by omega) (by omega)
          exact lp_77 14 0 (by omega) (by omega)
        · skip
          refine R_aload_0 hX dX12_writes_54 ?_
          refine R_ldc2 (n := 1253) hX k2_X12_171 rfl dX12_writes_55 ?_
          refine R_v1v hX dX12_writes_58 li_X12_328 mk_X12_putsWord mi_X12_putsWord rfl o_136 (r_putsWord (by decide) (by simp only [oS_w, List.length_append, List.length_cons, List.length_nil, wdT_len]; omega)) ⟨⟨by decide, by decide⟩, by decide, by decide, rfl, Nat.le_of_ble_eq_true rfl, rfl⟩ (fun x_58 F_58 h_58 => ?_)
          subst h_58
          refine R.eq rfl rfl oS_oS ?_
          refine R_aload_0 hX dX12_writes_61 ?_
          refine R_aload_0 hX dX12_writes_62 ?_
          refine R_geti hX dX12_writes_63 fl_X12_21 o_136 rfl ?_
          try simp (disch := omega) only [oS_k, oS_f]
          refine R_v1v hX dX12_writes_66 li_X12_335 mk_X12_putsNumber mi_X12_putsNumber rfl o_136 (r_putsNumber (by omega) (by simp only [oS_w, List.length_append, List.length_cons, List.length_nil, wdT_len]; omega)) ⟨⟨by decide, by decide⟩, by decide, by decide, rfl, Nat.le_of_ble_eq_true rfl, rfl⟩ (fun x_66 F_66 h_66 => ?_)
          subst h_66
          refine R.eq rfl rfl oS_oS ?_
          refine R_aload_0 hX dX12_writes_69 ?_
          refine R_bipush hX dX12_writes_70 (by decide) ?_
          refine R_v1v hX dX12_writes_72 li_X12_325 mk_X12_puts mi_X12_puts rfl o_136 (r_puts (by simp only [oS_w, List.length_append, List.length_cons, List.length_nil, wdT_len]; omega)) ⟨⟨by decide, by decide⟩, by decide, by decide, rfl, Nat.le_of_ble_eq_true rfl, rfl⟩ (fun x_72 F_72 h_72 => ?_)
          subst h_72
          refine R.eq rfl rfl oS_oS ?_
          obtain ⟨tl, htl⟩ : ∃ tl : List Int, tl = nodsR G (G 136 3).toNat ++ limR G ++ ageR G := ⟨_, rfl⟩
          have hln : tl.length ≤ 1268 := by have q1 := limR_len (F := G); have q2 := ageR_len (F := G); rw [htl, List.length_append, List.length_append]; omega
          refine R.eq rfl rfl (show _ = oS (tl ++ tmsR G (0 : Int).toNat) G by rw [show tmsR G (0 : Int).toNat = [] from rfl, List.append_nil, htl]; unfold limR ageR; first | (rw [if_pos (by omega)]; simp only [List.append_assoc, List.append_nil]; done) | (rw [if_neg (by omega)]; simp only [List.append_assoc, List.append_nil]; done)) ?_
          refine R_iconst hX dX12_writes_75 ?_
          refine R_istore_1 hX c1_r dX12_writes_76 ?_
          have lp_77 : ∀ (n : Nat) (x : Int), (0 ≤ x ∧ x ≤ G 136 38) → (13 - x).toNat < n → R X SH 0 0 77 [some (vr (xV X) 136), some (vi x)] [] (oS (tl ++ tmsR G x.toNat) G) (Zq X SH 0 (fun r F' => F' = oS (txR (up F 136 41 0)) (up F 136 41 0)) 0 0) := by
            intro n
            induction n with
            | zero => intro x iv77_0 hm; exact absurd hm (Nat.not_lt_zero _)
            | succ n ih_77 =>
              intro x iv77_0 hm_77
              have nx := tmsR_len (F := G) x.toNat
              have hCx := ri_C hR x
              refine R_iload_1 hX dX12_writes_77 ?_
              refine R_aload_0 hX dX12_writes_78 ?_
              refine R_geti hX dX12_writes_79 fl_X12_208 o_136 rfl ?_
              try simp (disch := omega) only [oS_k, oS_f]
              refine R_icmpge (tgt := 111) hX dX12_writes_82 (by decide) (by constructor <;> first | omega | (simp (disch := omega) only [up_k, up_i, up_s]; omega)) (by constructor <;> first | omega | (simp (disch := omega) only [up_k, up_i, up_s]; omega)) (fun c_82 => ?_) (fun c_82 => ?_)
              · skip
                exact R_vret hX dX12_writes_111 (by rw [← hG]; unfold txR; rw [htl, show x = G 136 38 by omega])
              · skip
                refine R_aload_0 hX dX12_writes_85 ?_
                refine R_getq (v := 150) hX dX12_writes_86 fl_X12_61 o_136 rfl (by omega) ?_
                refine R_iload_1 hX dX12_writes_89 ?_
                refine R_iald hX dX12_writes_90 a_150 ⟨by omega, by omega⟩ ?_
                try simp (disch := omega) only [oS_k, oS_f]
                refine R_aload_0 hX dX12_writes_91 ?_
                refine R_getq (v := 137) hX dX12_writes_92 fl_X12_7 o_136 rfl (by omega) ?_
                refine R_iconst hX dX12_writes_95 ?_
                refine R_iald hX dX12_writes_96 a_137 ⟨by omega, by omega⟩ ?_
                try simp (disch := omega) only [oS_k, oS_f]
                refine R_icmple (tgt := 105) hX dX12_writes_97 (by decide) (by have := hCx (by omega) (by omega); constructor <;> omega) (by have := (ri_Q hR).1; constructor <;> omega) (fun c_97 => ?_) (fun c_97 => ?_)
                · skip
                  refine R.eq rfl rfl (show _ = oS (tl ++ tmsR G (x + 1).toNat) G by rw [tmsR_s (by omega)]; first | (rw [if_pos (by omega), ← tmR_oS (l := tl ++ tmsR G x.toNat), ← List.append_assoc]; exact oS_oS) | (rw [if_neg (by omega), List.append_nil])) ?_
                  refine R_iinc_1 hX c1_r dX12_writes_105 ?_
                  refine R_goto (tgt := 77) hX dX12_writes_108 (by decide) ?_
                  exact ih_77 (x + 1) (by omega) (by omega)
                · skip
                  refine R_aload_0 hX dX12_writes_100 ?_
                  refine R_iload_1 hX dX12_writes_101 ?_
                  refine R_v1v hX dX12_writes_102 li_X12_341 mk_X12_putsTimed mi_X12_putsTimed rfl o_136 (r_putsTimed (RI.oS hR) (by rw [oS_f (by decide)]; omega) (by simp (disch := omega) only [oS_k, oS_f]; exact hnm2) (by rw [oS_w, w0, List.length_append]; omega)) ⟨⟨by decide, by decide⟩, by decide, by decide, rfl, Nat.le_of_ble_eq_true rfl, rfl⟩ (fun x_102 F_102 h_102 => ?_)
                  subst h_102
                  refine R.eq rfl rfl (show _ = oS (tl ++ tmsR G (x + 1).toNat) G by rw [tmsR_s (by omega)]; first | (rw [if_pos (by omega), ← tmR_oS (l := tl ++ tmsR G x.toNat), ← List.append_assoc]; exact oS_oS) | (rw [if_neg (by omega), List.append_nil])) ?_
                  refine R_iinc_1 hX c1_r dX12_writes_105 ?_
                  refine R_goto (tgt := 77) hX dX12_writes_108 (by decide) ?_
                  exact ih_77 (x + 1) (by omega) (by omega)
          exact lp_77 14 0 (by omega) (by omega)
      · skip
        refine R_aload_0 hX dX12_writes_15 ?_
        refine R_iload_1 hX dX12_writes_16 ?_
        refine R_v1v hX dX12_writes_17 li_X12_338 mk_X12_putsNode mi_X12_putsNode rfl o_136 (r_putsNode (RI.oS hR) (by rw [oS_f (by decide)]; omega) (by simp (disch := omega) only [oS_k, oS_f]; exact hnm2) (by rw [oS_w, w0]; omega)) ⟨⟨by decide, by decide⟩, by decide, by decide, rfl, Nat.le_of_ble_eq_true rfl, rfl⟩ (fun x_17 F_17 h_17 => ?_)
        subst h_17
        refine R.eq rfl rfl (show _ = oS (nodsR G (x + 1).toNat) G by rw [nodsR_s (by omega), ← nodR_oS (l := nodsR G x.toNat)]; exact oS_oS) ?_
        refine R_iinc_1 hX c1_r dX12_writes_20 ?_
        refine R_goto (tgt := 7) hX dX12_writes_23 (by decide) ?_
        exact ih_7 (x + 1) (by omega) (by omega)
  refine R.eq rfl rfl (show _ = oS (nodsR G (0 : Int).toNat) G from oS_0.symm) ?_
  exact lp_7 14 0 (by omega) (by omega)
set_option maxRecDepth 100000 in
set_option maxHeartbeats 4000000 in
theorem r_setupLength {V : VX} {F : Hp} {K : Int} (h : RI K F) (hnm : ∀ d : Int, 0 ≤ d → d < F 136 3 → 0 ≤ F 139 d ∧ F 139 d < 1099511627776)  : Ct V yX12_setupLength cX12_setupLength 1 (some .int) 6 136 0 0 SH [vr V 136] F SH 1 (fun r F' => ∃ H : Hp, H = up F 136 0 0 ∧ (r = (txR (up H 136 41 0)).length ∧ F' = oS (txR (up H 136 41 0)) (up H 136 41 0))) := by
  refine Ct.of [some (vr V 136)] (by decide) (by simp [lg_sl, vi_cat, vl_cat, vr_cat]) rfl (by simp [asc, lv_args, vi_cat, vl_cat, vr_cat]) (fun X hV hX => ?_)
  subst hV
  refine R_aload_0 hX dX12_setupLength_0 ?_
  refine R_iconst hX dX12_setupLength_1 ?_
  refine R_puti hX dX12_setupLength_2 fl_X12_88 o_136 rfl ?_
  refine R.gen (fun H hH => ?_)
  have hR : RI K H := by rw [hH]; exact h.z
  have hN := ri_N hR
  have hT := ri_T hR
  refine R_aload_0 hX dX12_setupLength_5 ?_
  refine R_v0v hX dX12_setupLength_6 li_X12_344 mk_X12_writes mi_X12_writes rfl o_136 (r_writes hR (by intro d z0 z1; rw [hH, up_k (by decide)]; exact hnm d z0 (by rw [hH, up_i (by decide)] at z1; exact z1))) ⟨⟨by decide, by decide⟩, by decide, by decide, rfl, Nat.le_of_ble_eq_true rfl, rfl⟩ (fun x_6 F_6 h_6 => ?_)
  subst h_6
  refine R_aload_0 hX dX12_setupLength_9 ?_
  refine R_geti hX dX12_setupLength_10 fl_X12_322 o_136 rfl ?_
  rw [oS_w, up_s, Int.zero_add]
  exact R_iret hX dX12_setupLength_13 ⟨H, hH, rfl, rfl⟩
set_option maxRecDepth 100000 in
set_option maxHeartbeats 4000000 in
theorem r_setupByte {V : VX} {F : Hp} {K : Int} (h : RI K F) (hnm : ∀ d : Int, 0 ≤ d → d < F 136 3 → 0 ≤ F 139 d ∧ F 139 d < 1099511627776) {i : Int} (h1 : I32 i)  : Ct V yX12_setupByte cX12_setupByte 2 (some .int) 6 136 0 0 SH [vr V 136, vi i] F SH 1 (fun r F' => ∃ H : Hp, H = up F 136 0 0 ∧ (r = (if i < 0 then -1 else if i < (txR (up H 136 41 0)).length then (txR (up H 136 41 0)).getD i.toNat 0 else -2) ∧ F' = oS (txR (up H 136 41 0)) (up H 136 41 0))) := by
  refine Ct.of [some (vr V 136), some (vi i)] (by decide) (by simp [lg_sl, vi_cat, vl_cat, vr_cat]) rfl (by simp [asc, lv_args, vi_cat, vl_cat, vr_cat]) (fun X hV hX => ?_)
  subst hV
  refine R_aload_0 hX dX12_setupByte_0 ?_
  refine R_iconst hX dX12_setupByte_1 ?_
  refine R_puti hX dX12_setupByte_2 fl_X12_88 o_136 rfl ?_
  refine R.gen (fun H hH => ?_)
  have hR : RI K H := by rw [hH]; exact h.z
  have hN := ri_N hR
  have hT := ri_T hR
  refine R_aload_0 hX dX12_setupByte_5 ?_
  refine R_v0v hX dX12_setupByte_6 li_X12_344 mk_X12_writes mi_X12_writes rfl o_136 (r_writes hR (by intro d z0 z1; rw [hH, up_k (by decide)]; exact hnm d z0 (by rw [hH, up_i (by decide)] at z1; exact z1))) ⟨⟨by decide, by decide⟩, by decide, by decide, rfl, Nat.le_of_ble_eq_true rfl, rfl⟩ (fun x_6 F_6 h_6 => ?_)
  subst h_6
  have hlen := txR_len (F := up H 136 41 0) (by have := ri_N (hR.w (x := 0)); exact this) (by have := (ri_L (hR.w (x := 0))).2.2; exact this)
  have hw1 : oS (txR (up H 136 41 0)) (up H 136 41 0) 136 41 = (txR (up H 136 41 0)).length := by rw [oS_w, up_s, Int.zero_add]
  refine R_iload_1 hX dX12_setupByte_9 ?_
  refine R_ifge (tgt := 17) hX dX12_setupByte_10 (by decide) (by constructor <;> first | omega | (simp (disch := omega) only [up_k, up_i, up_s]; omega)) (fun c_10 => ?_) (fun c_10 => ?_)
  · skip
    refine R_iload_1 hX dX12_setupByte_17 ?_
    refine R_aload_0 hX dX12_setupByte_18 ?_
    refine R_geti hX dX12_setupByte_19 fl_X12_322 o_136 rfl ?_
    rw [hw1]
    refine R_icmpge (tgt := 34) hX dX12_setupByte_22 (by decide) (by constructor <;> first | omega | (simp (disch := omega) only [up_k, up_i, up_s]; omega)) (by constructor <;> first | omega | (simp (disch := omega) only [up_k, up_i, up_s]; omega)) (fun c_22 => ?_) (fun c_22 => ?_)
    · skip
      refine R_bipush hX dX12_setupByte_34 (by decide) ?_
      exact R_iret hX dX12_setupByte_36 ⟨H, hH, by first | (rw [if_pos (by omega)]; done) | (rw [if_neg (by omega), if_pos (by omega)]; done) | (rw [if_neg (by omega), if_neg (by omega)]; done), rfl⟩
    · skip
      refine R_aload_0 hX dX12_setupByte_25 ?_
      refine R_getq (v := 158) hX dX12_setupByte_26 fl_X12_85 o_136 rfl (by omega) ?_
      refine R_iload_1 hX dX12_setupByte_29 ?_
      refine R_iald hX dX12_setupByte_30 a_158 ⟨by omega, by omega⟩ ?_
      rw [oS_i (by rw [up_s]; omega), up_s, Int.sub_zero]
      refine R_goto (tgt := 36) hX dX12_setupByte_31 (by decide) ?_
      exact R_iret hX dX12_setupByte_36 ⟨H, hH, by first | (rw [if_pos (by omega)]; done) | (rw [if_neg (by omega), if_pos (by omega)]; done) | (rw [if_neg (by omega), if_neg (by omega)]; done), rfl⟩
  · skip
    refine R_iconst hX dX12_setupByte_13 ?_
    refine R_goto (tgt := 36) hX dX12_setupByte_14 (by decide) ?_
    exact R_iret hX dX12_setupByte_36 ⟨H, hH, by first | (rw [if_pos (by omega)]; done) | (rw [if_neg (by omega), if_pos (by omega)]; done) | (rw [if_neg (by omega), if_neg (by omega)]; done), rfl⟩
