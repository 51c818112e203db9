theorem nl_NODE : nlF 8 474245 = 4 := by decide
theorem nl_IN : nlF 8 302 = 2 := by decide
theorem nl_LIMIT : nlF 8 12891444 = 5 := by decide
theorem nl_AGE : nlF 8 1253 = 3 := by decide
theorem nl_RATE : nlF 8 591493 = 4 := by decide
theorem nl_CEIL : nlF 8 3398837703 = 7 := by decide
theorem nl_BURST : nlF 8 2804340 = 5 := by decide
theorem nl_CREDIT : nlF 8 119705908 = 6 := by decide
theorem nl_WEIGHT : nlF 8 777297172 = 6 := by decide
theorem nl_PRIO : nlF 8 569401484953 = 8 := by decide
theorem nl_AT : nlF 8 52 = 2 := by decide
theorem nl_ALONE : nlF 8 1457605 = 5 := by decide
theorem vw_oS {o : Int} {l : List Int} {F : Hp} : vw o (oS l F) = vw o F := vw_fr (fun j _ _ => by rw [oS_k (by decide) (by decide)]) ⟨oS_f (by decide), oS_f (by decide), oS_f (by decide), oS_f (by decide)⟩ (fun a h => oS_k (by omega) (by omega))
theorem RI.oS {K : Int} {l : List Int} {F : Hp} (h : RI K F) : RI K (oS l F) := by unfold RI; rw [vw_oS]; exact h
def nodR (F : Hp) (d : Int) : List Int := wdT 474245 ++ ([32] ++ wdT (F 139 d)) ++ (if 0 < d then ([32] ++ wdT 302) ++ ([32] ++ wdT (F 139 (F 141 d))) else []) ++ ([32] ++ wdT 591493) ++ ([32] ++ nuT (F 137 (99 + d))) ++ ([32] ++ wdT 3398837703) ++ ([32] ++ nuT (F 137 (111 + d))) ++ ([32] ++ wdT 2804340) ++ ([32] ++ nuT (F 142 d)) ++ ([32] ++ wdT 119705908) ++ ([32] ++ nuT (F 143 d)) ++ ([32] ++ wdT 777297172) ++ ([32] ++ nuT (F 137 (123 + d))) ++ ([32] ++ wdT 569401484953) ++ ([32] ++ nuT (F 144 d)) ++ (if F 145 d = 0 then [] else ([32] ++ wdT 1457605)) ++ [59]
def cwR (s : Int) : Int := if s = 0 then 591493 else if s = 1 then 3398837703 else 777297172
def tmR (F : Hp) (k : Int) : List Int := wdT 52 ++ ([32] ++ nuT (F 150 k)) ++ ([32] ++ wdT (F 139 (F 151 k))) ++ ([32] ++ wdT (cwR (F 152 k))) ++ ([32] ++ nuT (F 153 k)) ++ [59]
set_option maxRecDepth 100000 in
set_option maxHeartbeats 4000000 in
theorem r_putsNode {V : VX} {F : Hp} {K : Int} (h : RI K F) {d : Int} (hd : 0 ≤ d ∧ d < F 136 3) (hnm : ∀ d : Int, 0 ≤ d → d < F 136 3 → 0 ≤ F 139 d ∧ F 139 d < 1099511627776) (hr : 0 ≤ F 136 41 ∧ F 136 41 + 104 ≤ 2000)  : Ct V yX12_putsNode cX12_putsNode 2 none 4 94 0 0 SH [vr V 136, vi d] F SH 0 (fun r F' => F' = oS (nodR F d) F) := by
  refine Ct.of [some (vr V 136), some (vi d)] (by decide) (by simp [lg_sl, vi_cat, vl_cat, vr_cat]) rfl (by simp [asc, lv_args, vi_cat, vl_cat, vr_cat]) (fun X hV hX => ?_)
  subst hV
  have hN := ri_N h
  have hT := ri_T h
  have hA := ri_A h
  have hSS := ri_S h
  have hnd := hnm d hd.1 hd.2
  have had := hA d hd.1 hd.2
  have hsd := hSS d hd.1 hd.2
  have htd := hT d hd.1 hd.2
  have hpd := ri_P h d hd.1 hd.2
  have y1 := nlF_le 8 (F 139 d)
  have y2 := nlF_le 8 (F 139 (F 141 d))
  have c1 := nl_NODE
  have c2 := nl_IN
  have c3 := nl_LIMIT
  have c4 := nl_AGE
  have c5 := nl_RATE
  have c6 := nl_CEIL
  have c7 := nl_BURST
  have c8 := nl_CREDIT
  have c9 := nl_WEIGHT
  have c10 := nl_PRIO
  have c11 := nl_AT
  have c12 := nl_ALONE
  have z0 : (nuT (F 137 (99 + d))).length ≤ 4 := nuL_len _ 4
  have z1 : (nuT (F 137 (111 + d))).length ≤ 4 := nuL_len _ 4
  have z2 : (nuT (F 142 d)).length ≤ 4 := nuL_len _ 4
  have z3 : (nuT (F 143 d)).length ≤ 4 := nuL_len _ 4
  have z4 : (nuT (F 137 (123 + d))).length ≤ 4 := nuL_len _ 4
  have z5 : (nuT (F 144 d)).length ≤ 4 := nuL_len _ 4
  refine R_aload_0 hX dX12_putsNode_0 ?_
  refine R_ldc2 (n := 474245) hX k2_X12_165 rfl dX12_putsNode_1 ?_
  refine R_v1v hX dX12_putsNode_4 li_X12_328 mk_X12_putsWord mi_X12_putsWord rfl o_136 (r_putsWord (by decide) (by omega)) ⟨⟨by decide, by decide⟩, by decide, by decide, rfl, Nat.le_of_ble_eq_true rfl, rfl⟩ (fun x_4 F_4 h_4 => ?_)
  subst h_4
  refine R_aload_0 hX dX12_putsNode_7 ?_
  refine R_aload_0 hX dX12_putsNode_8 ?_
  refine R_getq (v := 139) hX dX12_putsNode_9 fl_X12_24 o_136 rfl (by omega) ?_
  refine R_iload_1 hX dX12_putsNode_12 ?_
  refine R_lald hX dX12_putsNode_13 a_139 ⟨by omega, by omega⟩ ?_
  try simp (disch := omega) only [oS_k, oS_f]
  refine R_v1v hX dX12_putsNode_14 li_X12_332 mk_X12_putsSpaced mi_X12_putsSpaced rfl o_136 (r_putsSpaced hnd (by simp only [oS_w, List.length_append, List.length_cons, List.length_nil, wdT_len]; omega)) ⟨⟨by decide, by decide⟩, by decide, by decide, rfl, Nat.le_of_ble_eq_true rfl, rfl⟩ (fun x_14 F_14 h_14 => ?_)
  subst h_14
  refine R.eq rfl rfl oS_oS ?_
  refine R_iload_1 hX dX12_putsNode_17 ?_
  refine R_ifle (tgt := 43) hX dX12_putsNode_18 (by decide) (by constructor <;> first | omega | (simp (disch := omega) only [up_k, up_i, up_s]; omega)) (fun c_18 => ?_) (fun c_18 => ?_)
  · skip
    refine R_aload_0 hX dX12_putsNode_43 ?_
    refine R_ldc2 (n := 591493) hX k2_X12_147 rfl dX12_putsNode_44 ?_
    refine R_v1v hX dX12_putsNode_47 li_X12_332 mk_X12_putsSpaced mi_X12_putsSpaced rfl o_136 (r_putsSpaced (by decide) (by simp only [oS_w, List.length_append, List.length_cons, List.length_nil, wdT_len]; omega)) ⟨⟨by decide, by decide⟩, by decide, by decide, rfl, Nat.le_of_ble_eq_true rfl, rfl⟩ (fun x_47 F_47 h_47 => ?_)
    subst h_47
    refine R.eq rfl rfl oS_oS ?_
    refine R_aload_0 hX dX12_putsNode_50 ?_
    refine R_aload_0 hX dX12_putsNode_51 ?_
    refine R_getq (v := 137) hX dX12_putsNode_52 fl_X12_7 o_136 rfl (by omega) ?_
    refine R_bipush hX dX12_putsNode_55 (by decide) ?_
    refine R_iload_1 hX dX12_putsNode_57 ?_
    refine R_iadd hX dX12_putsNode_58 ?_
    refine R_iald hX dX12_putsNode_59 a_137 ⟨by omega, by omega⟩ ?_
    try simp (disch := omega) only [oS_k, oS_f]
    refine R_v1v hX dX12_putsNode_60 li_X12_335 mk_X12_putsNumber mi_X12_putsNumber rfl o_136 (r_putsNumber (by omega) (by simp only [oS_w, List.length_append, List.length_cons, List.length_nil, wdT_len]; omega)) ⟨⟨by decide, by decide⟩, by decide, by decide, rfl, Nat.le_of_ble_eq_true rfl, rfl⟩ (fun x_60 F_60 h_60 => ?_)
    subst h_60
    refine R.eq rfl rfl oS_oS ?_
    refine R_aload_0 hX dX12_putsNode_63 ?_
    refine R_ldc2 (n := 3398837703) hX k2_X12_149 rfl dX12_putsNode_64 ?_
    refine R_v1v hX dX12_putsNode_67 li_X12_332 mk_X12_putsSpaced mi_X12_putsSpaced rfl o_136 (r_putsSpaced (by decide) (by simp only [oS_w, List.length_append, List.length_cons, List.length_nil, wdT_len]; omega)) ⟨⟨by decide, by decide⟩, by decide, by decide, rfl, Nat.le_of_ble_eq_true rfl, rfl⟩ (fun x_67 F_67 h_67 => ?_)
    subst h_67
    refine R.eq rfl rfl oS_oS ?_
    refine R_aload_0 hX dX12_putsNode_70 ?_
    refine R_aload_0 hX dX12_putsNode_71 ?_
    refine R_getq (v := 137) hX dX12_putsNode_72 fl_X12_7 o_136 rfl (by omega) ?_
    refine R_bipush hX dX12_putsNode_75 (by decide) ?_
    refine R_iload_1 hX dX12_putsNode_77 ?_
    refine R_iadd hX dX12_putsNode_78 ?_
    refine R_iald hX dX12_putsNode_79 a_137 ⟨by omega, by omega⟩ ?_
    try simp (disch := omega) only [oS_k, oS_f]
    refine R_v1v hX dX12_putsNode_80 li_X12_335 mk_X12_putsNumber mi_X12_putsNumber rfl o_136 (r_putsNumber (by omega) (by simp only [oS_w, List.length_append, List.length_cons, List.length_nil, wdT_len]; omega)) ⟨⟨by decide, by decide⟩, by decide, by decide, rfl, Nat.le_of_ble_eq_true rfl, rfl⟩ (fun x_80 F_80 h_80 => ?_)
    subst h_80
    refine R.eq rfl rfl oS_oS ?_
    refine R_aload_0 hX dX12_putsNode_83 ?_
    refine R_ldc2 (n := 2804340) hX k2_X12_151 rfl dX12_putsNode_84 ?_
    refine R_v1v hX dX12_putsNode_87 li_X12_332 mk_X12_putsSpaced mi_X12_putsSpaced rfl o_136 (r_putsSpaced (by decide) (by simp only [oS_w, List.length_append, List.length_cons, List.length_nil, wdT_len]; omega)) ⟨⟨by decide, by decide⟩, by decide, by decide, rfl, Nat.le_of_ble_eq_true rfl, rfl⟩ (fun x_87 F_87 h_87 => ?_)
    subst h_87
    refine R.eq rfl rfl oS_oS ?_
    refine R_aload_0 hX dX12_putsNode_90 ?_
    refine R_aload_0 hX dX12_putsNode_91 ?_
    refine R_getq (v := 142) hX dX12_putsNode_92 fl_X12_34 o_136 rfl (by omega) ?_
    refine R_iload_1 hX dX12_putsNode_95 ?_
    refine R_iald hX dX12_putsNode_96 a_142 ⟨by omega, by omega⟩ ?_
    try simp (disch := omega) only [oS_k, oS_f]
    refine R_v1v hX dX12_putsNode_97 li_X12_335 mk_X12_putsNumber mi_X12_putsNumber rfl o_136 (r_putsNumber (by omega) (by simp only [oS_w, List.length_append, List.length_cons, List.length_nil, wdT_len]; omega)) ⟨⟨by decide, by decide⟩, by decide, by decide, rfl, Nat.le_of_ble_eq_true rfl, rfl⟩ (fun x_97 F_97 h_97 => ?_)
    subst h_97
    refine R.eq rfl rfl oS_oS ?_
    refine R_aload_0 hX dX12_putsNode_100 ?_
    refine R_ldc2 (n := 119705908) hX k2_X12_153 rfl dX12_putsNode_101 ?_
    refine R_v1v hX dX12_putsNode_104 li_X12_332 mk_X12_putsSpaced mi_X12_putsSpaced rfl o_136 (r_putsSpaced (by decide) (by simp only [oS_w, List.length_append, List.length_cons, List.length_nil, wdT_len]; omega)) ⟨⟨by decide, by decide⟩, by decide, by decide, rfl, Nat.le_of_ble_eq_true rfl, rfl⟩ (fun x_104 F_104 h_104 => ?_)
    subst h_104
    refine R.eq rfl rfl oS_oS ?_
    refine R_aload_0 hX dX12_putsNode_107 ?_
    refine R_aload_0 hX dX12_putsNode_108 ?_
    refine R_getq (v := 143) hX dX12_putsNode_109 fl_X12_37 o_136 rfl (by omega) ?_
    refine R_iload_1 hX dX12_putsNode_112 ?_
    refine R_iald hX dX12_putsNode_113 a_143 ⟨by omega, by omega⟩ ?_
    try simp (disch := omega) only [oS_k, oS_f]
    refine R_v1v hX dX12_putsNode_114 li_X12_335 mk_X12_putsNumber mi_X12_putsNumber rfl o_136 (r_putsNumber (by omega) (by simp only [oS_w, List.length_append, List.length_cons, List.length_nil, wdT_len]; omega)) ⟨⟨by decide, by decide⟩, by decide, by decide, rfl, Nat.le_of_ble_eq_true rfl, rfl⟩ (fun x_114 F_114 h_114 => ?_)
    subst h_114
    refine R.eq rfl rfl oS_oS ?_
    refine R_aload_0 hX dX12_putsNode_117 ?_
    refine R_ldc2 (n := 777297172) hX k2_X12_155 rfl dX12_putsNode_118 ?_
    refine R_v1v hX dX12_putsNode_121 li_X12_332 mk_X12_putsSpaced mi_X12_putsSpaced rfl o_136 (r_putsSpaced (by decide) (by simp only [oS_w, List.length_append, List.length_cons, List.length_nil, wdT_len]; omega)) ⟨⟨by decide, by decide⟩, by decide, by decide, rfl, Nat.le_of_ble_eq_true rfl, rfl⟩ (fun x_121 F_121 h_121 => ?_)
    subst h_121
    refine R.eq rfl rfl oS_oS ?_
    refine R_aload_0 hX dX12_putsNode_124 ?_
    refine R_aload_0 hX dX12_putsNode_125 ?_
    refine R_getq (v := 137) hX dX12_putsNode_126 fl_X12_7 o_136 rfl (by omega) ?_
    refine R_bipush hX dX12_putsNode_129 (by decide) ?_
    refine R_iload_1 hX dX12_putsNode_131 ?_
    refine R_iadd hX dX12_putsNode_132 ?_
    refine R_iald hX dX12_putsNode_133 a_137 ⟨by omega, by omega⟩ ?_
    try simp (disch := omega) only [oS_k, oS_f]
    refine R_v1v hX dX12_putsNode_134 li_X12_335 mk_X12_putsNumber mi_X12_putsNumber rfl o_136 (r_putsNumber (by omega) (by simp only [oS_w, List.length_append, List.length_cons, List.length_nil, wdT_len]; omega)) ⟨⟨by decide, by decide⟩, by decide, by decide, rfl, Nat.le_of_ble_eq_true rfl, rfl⟩ (fun x_134 F_134 h_134 => ?_)
    subst h_134
    refine R.eq rfl rfl oS_oS ?_
    refine R_aload_0 hX dX12_putsNode_137 ?_
    refine R_ldc2 (n := 569401484953) hX k2_X12_157 rfl dX12_putsNode_138 ?_
    refine R_v1v hX dX12_putsNode_141 li_X12_332 mk_X12_putsSpaced mi_X12_putsSpaced rfl o_136 (r_putsSpaced (by decide) (by simp only [oS_w, List.length_append, List.length_cons, List.length_nil, wdT_len]; omega)) ⟨⟨by decide, by decide⟩, by decide, by decide, rfl, Nat.le_of_ble_eq_true rfl, rfl⟩ (fun x_141 F_141 h_141 => ?_)
    subst h_141
    refine R.eq rfl rfl oS_oS ?_
    refine R_aload_0 hX dX12_putsNode_144 ?_
    refine R_aload_0 hX dX12_putsNode_145 ?_
    refine R_getq (v := 144) hX dX12_putsNode_146 fl_X12_40 o_136 rfl (by omega) ?_
    refine R_iload_1 hX dX12_putsNode_149 ?_
    refine R_iald hX dX12_putsNode_150 a_144 ⟨by omega, by omega⟩ ?_
    try simp (disch := omega) only [oS_k, oS_f]
    refine R_v1v hX dX12_putsNode_151 li_X12_335 mk_X12_putsNumber mi_X12_putsNumber rfl o_136 (r_putsNumber (by omega) (by simp only [oS_w, List.length_append, List.length_cons, List.length_nil, wdT_len]; omega)) ⟨⟨by decide, by decide⟩, by decide, by decide, rfl, Nat.le_of_ble_eq_true rfl, rfl⟩ (fun x_151 F_151 h_151 => ?_)
    subst h_151
    refine R.eq rfl rfl oS_oS ?_
    refine R_aload_0 hX dX12_putsNode_154 ?_
    refine R_getq (v := 145) hX dX12_putsNode_155 fl_X12_43 o_136 rfl (by omega) ?_
    refine R_iload_1 hX dX12_putsNode_158 ?_
    refine R_zald hX dX12_putsNode_159 a_145 ⟨by omega, by omega⟩ ?_
    try simp (disch := omega) only [oS_k, oS_f]
    refine R_ifeq (tgt := 170) hX dX12_putsNode_160 (by decide) (by constructor <;> first | omega | (simp (disch := omega) only [up_k, up_i, up_s]; omega)) (fun c_160 => ?_) (fun c_160 => ?_)
    · skip
      refine R_aload_0 hX dX12_putsNode_170 ?_
      refine R_bipush hX dX12_putsNode_171 (by decide) ?_
      refine R_v1v hX dX12_putsNode_173 li_X12_325 mk_X12_puts mi_X12_puts rfl o_136 (r_puts (by simp only [oS_w, List.length_append, List.length_cons, List.length_nil, wdT_len]; omega)) ⟨⟨by decide, by decide⟩, by decide, by decide, rfl, Nat.le_of_ble_eq_true rfl, rfl⟩ (fun x_173 F_173 h_173 => ?_)
      subst h_173
      refine R.eq rfl rfl oS_oS ?_
      exact R_vret hX dX12_putsNode_176 (by unfold nodR; first | (rw [if_pos (by omega), if_pos (by omega)]; simp only [List.append_assoc, List.append_nil, List.nil_append]; done) | (rw [if_pos (by omega), if_neg (by omega)]; simp only [List.append_assoc, List.append_nil, List.nil_append]; done) | (rw [if_neg (by omega), if_pos (by omega)]; simp only [List.append_assoc, List.append_nil, List.nil_append]; done) | (rw [if_neg (by omega), if_neg (by omega)]; simp only [List.append_assoc, List.append_nil, List.nil_append]; done))
    · skip
      refine R_aload_0 hX dX12_putsNode_163 ?_
      refine R_ldc2 (n := 1457605) hX k2_X12_159 rfl dX12_putsNode_164 ?_
      refine R_v1v hX dX12_putsNode_167 li_X12_332 mk_X12_putsSpaced mi_X12_putsSpaced rfl o_136 (r_putsSpaced (by decide) (by simp only [oS_w, List.length_append, List.length_cons, List.length_nil, wdT_len]; omega)) ⟨⟨by decide, by decide⟩, by decide, by decide, rfl, Nat.le_of_ble_eq_true rfl, rfl⟩ (fun x_167 F_167 h_167 => ?_)
      subst h_167
      refine R.eq rfl rfl oS_oS ?_
      refine R_aload_0 hX dX12_putsNode_170 ?_
      refine R_bipush hX dX12_putsNode_171 (by decide) ?_
      refine R_v1v hX dX12_putsNode_173 li_X12_325 mk_X12_puts mi_X12_puts rfl o_136 (r_puts (by simp only [oS_w, List.length_append, List.length_cons, List.length_nil, wdT_len]; omega)) ⟨⟨by decide, by decide⟩, by decide, by decide, rfl, Nat.le_of_ble_eq_true rfl, rfl⟩ (fun x_173 F_173 h_173 => ?_)
      subst h_173
      refine R.eq rfl rfl oS_oS ?_
      exact R_vret hX dX12_putsNode_176 (by unfold nodR; first | (rw [if_pos (by omega), if_pos (by omega)]; simp only [List.append_assoc, List.append_nil, List.nil_append]; done) | (rw [if_pos (by omega), if_neg (by omega)]; simp only [List.append_assoc, List.append_nil, List.nil_append]; done) | (rw [if_neg (by omega), if_pos (by omega)]; simp only [List.append_assoc, List.append_nil, List.nil_append]; done) | (rw [if_neg (by omega), if_neg (by omega)]; simp only [List.append_assoc, List.append_nil, List.nil_append]; done))
  · skip
    have hnp := hnm (F 141 d) (by omega) (by omega)
    refine R_aload_0 hX dX12_putsNode_21 ?_
    refine R_ldc2 (n := 302) hX k2_X12_167 rfl dX12_putsNode_22 ?_
    refine R_v1v hX dX12_putsNode_25 li_X12_332 mk_X12_putsSpaced mi_X12_putsSpaced rfl o_136 (r_putsSpaced (by decide) (by simp only [oS_w, List.length_append, List.length_cons, List.length_nil, wdT_len]; omega)) ⟨⟨by decide, by decide⟩, by decide, by decide, rfl, Nat.le_of_ble_eq_true rfl, rfl⟩ (fun x_25 F_25 h_25 => ?_)
    subst h_25
    refine R.eq rfl rfl oS_oS ?_
    refine R_aload_0 hX dX12_putsNode_28 ?_
    refine R_aload_0 hX dX12_putsNode_29 ?_
    refine R_getq (v := 139) hX dX12_putsNode_30 fl_X12_24 o_136 rfl (by omega) ?_
    refine R_aload_0 hX dX12_putsNode_33 ?_
    refine R_getq (v := 141) hX dX12_putsNode_34 fl_X12_31 o_136 rfl (by omega) ?_
    refine R_iload_1 hX dX12_putsNode_37 ?_
    refine R_iald hX dX12_putsNode_38 a_141 ⟨by omega, by omega⟩ ?_
    try simp (disch := omega) only [oS_k, oS_f]
    refine R_lald hX dX12_putsNode_39 a_139 ⟨by omega, by omega⟩ ?_
    try simp (disch := omega) only [oS_k, oS_f]
    refine R_v1v hX dX12_putsNode_40 li_X12_332 mk_X12_putsSpaced mi_X12_putsSpaced rfl o_136 (r_putsSpaced hnp (by simp only [oS_w, List.length_append, List.length_cons, List.length_nil, wdT_len]; omega)) ⟨⟨by decide, by decide⟩, by decide, by decide, rfl, Nat.le_of_ble_eq_true rfl, rfl⟩ (fun x_40 F_40 h_40 => ?_)
    subst h_40
    refine R.eq rfl rfl oS_oS ?_
    refine R_aload_0 hX dX12_putsNode_43 ?_
    refine R_ldc2 (n := 591493) hX k2_X12_147 rfl dX12_putsNode_44 ?_
    refine R_v1v hX dX12_putsNode_47 li_X12_332 mk_X12_putsSpaced mi_X12_putsSpaced rfl o_136 (r_putsSpaced (by decide) (by simp only [oS_w, List.length_append, List.length_cons, List.length_nil, wdT_len]; omega)) ⟨⟨by decide, by decide⟩, by decide, by decide, rfl, Nat.le_of_ble_eq_true rfl, rfl⟩ (fun x_47 F_47 h_47 => ?_)
    subst h_47
    refine R.eq rfl rfl oS_oS ?_
    refine R_aload_0 hX dX12_putsNode_50 ?_
    refine R_aload_0 hX dX12_putsNode_51 ?_
    refine R_getq (v := 137) hX dX12_putsNode_52 fl_X12_7 o_136 rfl (by omega) ?_
    refine R_bipush hX dX12_putsNode_55 (by decide) ?_
    refine R_iload_1 hX dX12_putsNode_57 ?_
    refine R_iadd hX dX12_putsNode_58 ?_
    refine R_iald hX dX12_putsNode_59 a_137 ⟨by omega, by omega⟩ ?_
    try simp (disch := omega) only [oS_k, oS_f]
    refine R_v1v hX dX12_putsNode_60 li_X12_335 mk_X12_putsNumber mi_X12_putsNumber rfl o_136 (r_putsNumber (by omega) (by simp only [oS_w, List.length_append, List.length_cons, List.length_nil, wdT_len]; omega)) ⟨⟨by decide, by decide⟩, by decide, by decide, rfl, Nat.le_of_ble_eq_true rfl, rfl⟩ (fun x_60 F_60 h_60 => ?_)
    subst h_60
    refine R.eq rfl rfl oS_oS ?_
    refine R_aload_0 hX dX12_putsNode_63 ?_
    refine R_ldc2 (n := 3398837703) hX k2_X12_149 rfl dX12_putsNode_64 ?_
    refine R_v1v hX dX12_putsNode_67 li_X12_332 mk_X12_putsSpaced mi_X12_putsSpaced rfl o_136 (r_putsSpaced (by decide) (by simp only [oS_w, List.length_append, List.length_cons, List.length_nil, wdT_len]; omega)) ⟨⟨by decide, by decide⟩, by decide, by decide, rfl, Nat.le_of_ble_eq_true rfl, rfl⟩ (fun x_67 F_67 h_67 => ?_)
    subst h_67
    refine R.eq rfl rfl oS_oS ?_
    refine R_aload_0 hX dX12_putsNode_70 ?_
    refine R_aload_0 hX dX12_putsNode_71 ?_
    refine R_getq (v := 137) hX dX12_putsNode_72 fl_X12_7 o_136 rfl (by omega) ?_
    refine R_bipush hX dX12_putsNode_75 (by decide) ?_
    refine R_iload_1 hX dX12_putsNode_77 ?_
    refine R_iadd hX dX12_putsNode_78 ?_
    refine R_iald hX dX12_putsNode_79 a_137 ⟨by omega, by omega⟩ ?_
    try simp (disch := omega) only [oS_k, oS_f]
    refine R_v1v hX dX12_putsNode_80 li_X12_335 mk_X12_putsNumber mi_X12_putsNumber rfl o_136 (r_putsNumber (by omega) (by simp only [oS_w, List.length_append, List.length_cons, List.length_nil, wdT_len]; omega)) ⟨⟨by decide, by decide⟩, by decide, by decide, rfl, Nat.le_of_ble_eq_true rfl, rfl⟩ (fun x_80 F_80 h_80 => ?_)
    subst h_80
    refine R.eq rfl rfl oS_oS ?_
    refine R_aload_0 hX dX12_putsNode_83 ?_
    refine R_ldc2 (n := 2804340) hX k2_X12_151 rfl dX12_putsNode_84 ?_
    refine R_v1v hX dX12_putsNode_87 li_X12_332 mk_X12_putsSpaced mi_X12_putsSpaced rfl o_136 (r_putsSpaced (by decide) (by simp only [oS_w, List.length_append, List.length_cons, List.length_nil, wdT_len]; omega)) ⟨⟨by decide, by decide⟩, by decide, by decide, rfl, Nat.le_of_ble_eq_true rfl, rfl⟩ (fun x_87 F_87 h_87 => ?_)
    subst h_87
    refine R.eq rfl rfl oS_oS ?_
    refine R_aload_0 hX dX12_putsNode_90 ?_
    refine R_aload_0 hX dX12_putsNode_91 ?_
    refine R_getq (v := 142) hX dX12_putsNode_92 fl_X12_34 o_136 rfl (by omega) ?_
    refine R_iload_1 hX dX12_putsNode_95 ?_
    refine R_iald hX dX12_putsNode_96 a_142 ⟨by omega, by omega⟩ ?_
    try simp (disch := omega) only [oS_k, oS_f]
    refine R_v1v hX dX12_putsNode_97 li_X12_335 mk_X12_putsNumber mi_X12_putsNumber rfl o_136 (r_putsNumber (by omega) (by simp only [oS_w, List.length_append, List.length_cons, List.length_nil, wdT_len]; omega)) ⟨⟨by decide, by decide⟩, by decide, by decide, rfl, Nat.le_of_ble_eq_true rfl, rfl⟩ (fun x_97 F_97 h_97 => ?_)
    subst h_97
    refine R.eq rfl rfl oS_oS ?_
    refine R_aload_0 hX dX12_putsNode_100 ?_
    refine R_ldc2 (n := 119705908) hX k2_X12_153 rfl dX12_putsNode_101 ?_
    refine R_v1v hX dX12_putsNode_104 li_X12_332 mk_X12_putsSpaced mi_X12_putsSpaced rfl o_136 (r_putsSpaced (by decide) (by simp only [oS_w, List.length_append, List.length_cons, List.length_nil, wdT_len]; omega)) ⟨⟨by decide, by decide⟩, by decide, by decide, rfl, Nat.le_of_ble_eq_true rfl, rfl⟩ (fun x_104 F_104 h_104 => ?_)
    subst h_104
    refine R.eq rfl rfl oS_oS ?_
    refine R_aload_0 hX dX12_putsNode_107 ?_
    refine R_aload_0 hX dX12_putsNode_108 ?_
    refine R_getq (v := 143) hX dX12_putsNode_109 fl_X12_37 o_136 rfl (by omega) ?_
    refine R_iload_1 hX dX12_putsNode_112 ?_
    refine R_iald hX dX12_putsNode_113 a_143 ⟨by omega, by omega⟩ ?_
    try simp (disch := omega) only [oS_k, oS_f]
    refine R_v1v hX dX12_putsNode_114 li_X12_335 mk_X12_putsNumber mi_X12_putsNumber rfl o_136 (r_putsNumber (by omega) (by simp only [oS_w, List.length_append, List.length_cons, List.length_nil, wdT_len]; omega)) ⟨⟨by decide, by decide⟩, by decide, by decide, rfl, Nat.le_of_ble_eq_true rfl, rfl⟩ (fun x_114 F_114 h_114 => ?_)
    subst h_114
    refine R.eq rfl rfl oS_oS ?_
    refine R_aload_0 hX dX12_putsNode_117 ?_
    refine R_ldc2 (n := 777297172) hX k2_X12_155 rfl dX12_putsNode_118 ?_
    refine R_v1v hX dX12_putsNode_121 li_X12_332 mk_X12_putsSpaced mi_X12_putsSpaced rfl o_136 (r_putsSpaced (by decide) (by simp only [oS_w, List.length_append, List.length_cons, List.length_nil, wdT_len]; omega)) ⟨⟨by decide, by decide⟩, by decide, by decide, rfl, Nat.le_of_ble_eq_true rfl, rfl⟩ (fun x_121 F_121 h_121 => ?_)
    subst h_121
    refine R.eq rfl rfl oS_oS ?_
    refine R_aload_0 hX dX12_putsNode_124 ?_
    refine R_aload_0 hX dX12_putsNode_125 ?_
    refine R_getq (v := 137) hX dX12_putsNode_126 fl_X12_7 o_136 rfl (by omega) ?_
    refine R_bipush hX dX12_putsNode_129 (by decide) ?_
    refine R_iload_1 hX dX12_putsNode_131 ?_
    refine R_iadd hX dX12_putsNode_132 ?_
    refine R_iald hX dX12_putsNode_133 a_137 ⟨by omega, by omega⟩ ?_
    try simp (disch := omega) only [oS_k, oS_f]
    refine R_v1v hX dX12_putsNode_134 li_X12_335 mk_X12_putsNumber mi_X12_putsNumber rfl o_136 (r_putsNumber (by omega) (by simp only [oS_w, List.length_append, List.length_cons, List.length_nil, wdT_len]; omega)) ⟨⟨by decide, by decide⟩, by decide, by decide, rfl, Nat.le_of_ble_eq_true rfl, rfl⟩ (fun x_134 F_134 h_134 => ?_)
    subst h_134
    refine R.eq rfl rfl oS_oS ?_
    refine R_aload_0 hX dX12_putsNode_137 ?_
    refine R_ldc2 (n := 569401484953) hX k2_X12_157 rfl dX12_putsNode_138 ?_
    refine R_v1v hX dX12_putsNode_141 li_X12_332 mk_X12_putsSpaced mi_X12_putsSpaced rfl o_136 (r_putsSpaced (by decide) (by simp only [oS_w, List.length_append, List.length_cons, List.length_nil, wdT_len]; omega)) ⟨⟨by decide, by decide⟩, by decide, by decide, rfl, Nat.le_of_ble_eq_true rfl, rfl⟩ (fun x_141 F_141 h_141 => ?_)
    subst h_141
    refine R.eq rfl rfl oS_oS ?_
    refine R_aload_0 hX dX12_putsNode_144 ?_
    refine R_aload_0 hX dX12_putsNode_145 ?_
    refine R_getq (v := 144) hX dX12_putsNode_146 fl_X12_40 o_136 rfl (by omega) ?_
    refine R_iload_1 hX dX12_putsNode_149 ?_
    refine R_iald hX dX12_putsNode_150 a_144 ⟨by omega, by omega⟩ ?_
    try simp (disch := omega) only [oS_k, oS_f]
    refine R_v1v hX dX12_putsNode_151 li_X12_335 mk_X12_putsNumber mi_X12_putsNumber rfl o_136 (r_putsNumber (by omega) (by simp only [oS_w, List.length_append, List.length_cons, List.length_nil, wdT_len]; omega)) ⟨⟨by decide, by decide⟩, by decide, by decide, rfl, Nat.le_of_ble_eq_true rfl, rfl⟩ (fun x_151 F_151 h_151 => ?_)
    subst h_151
    refine R.eq rfl rfl oS_oS ?_
    refine R_aload_0 hX dX12_putsNode_154 ?_
    refine R_getq (v := 145) hX dX12_putsNode_155 fl_X12_43 o_136 rfl (by omega) ?_
    refine R_iload_1 hX dX12_putsNode_158 ?_
    refine R_zald hX dX12_putsNode_159 a_145 ⟨by omega, by omega⟩ ?_
    try simp (disch := omega) only [oS_k, oS_f]
    refine R_ifeq (tgt := 170) hX dX12_putsNode_160 (by decide) (by constructor <;> first | omega | (simp (disch := omega) only [up_k, up_i, up_s]; omega)) (fun c_160 => ?_) (fun c_160 => ?_)
    · skip
      refine R_aload_0 hX dX12_putsNode_170 ?_
      refine R_bipush hX dX12_putsNode_171 (by decide) ?_
      refine R_v1v hX dX12_putsNode_173 li_X12_325 mk_X12_puts mi_X12_puts rfl o_136 (r_puts (by simp only [oS_w, List.length_append, List.length_cons, List.length_nil, wdT_len]; omega)) ⟨⟨by decide, by decide⟩, by decide, by decide, rfl, Nat.le_of_ble_eq_true rfl, rfl⟩ (fun x_173 F_173 h_173 => ?_)
      subst h_173
      refine R.eq rfl rfl oS_oS ?_
      exact R_vret hX dX12_putsNode_176 (by unfold nodR; first | (rw [if_pos (by omega), if_pos (by omega)]; simp only [List.append_assoc, List.append_nil, List.nil_append]; done) | (rw [if_pos (by omega), if_neg (by omega)]; simp only [List.append_assoc, List.append_nil, List.nil_append]; done) | (rw [if_neg (by omega), if_pos (by omega)]; simp only [List.append_assoc, List.append_nil, List.nil_append]; done) | (rw [if_neg (by omega), if_neg (by omega)]; simp only [List.append_assoc, List.append_nil, List.nil_append]; done))
    · skip
      refine R_aload_0 hX dX12_putsNode_163 ?_
      refine R_ldc2 (n := 1457605) hX k2_X12_159 rfl dX12_putsNode_164 ?_
      refine R_v1v hX dX12_putsNode_167 li_X12_332 mk_X12_putsSpaced mi_X12_putsSpaced rfl o_136 (r_putsSpaced (by decide) (by simp only [oS_w, List.length_append, List.length_cons, List.length_nil, wdT_len]; omega)) ⟨⟨by decide, by decide⟩, by decide, by decide, rfl, Nat.le_of_ble_eq_true rfl, rfl⟩ (fun x_167 F_167 h_167 => ?_)
      subst h_167
      refine R.eq rfl rfl oS_oS ?_
      refine R_aload_0 hX dX12_putsNode_170 ?_
      refine R_bipush hX dX12_putsNode_171 (by decide) ?_
      refine R_v1v hX dX12_putsNode_173 li_X12_325 mk_X12_puts mi_X12_puts rfl o_136 (r_puts (by simp only [oS_w, List.length_append, List.length_cons, List.length_nil, wdT_len]; omega)) ⟨⟨by decide, by decide⟩, by decide, by decide, rfl, Nat.le_of_ble_eq_true rfl, rfl⟩ (fun x_173 F_173 h_173 => ?_)
      subst h_173
      refine R.eq rfl rfl oS_oS ?_
      exact R_vret hX dX12_putsNode_176 (by unfold nodR; first | (rw [if_pos (by omega), if_pos (by omega)]; simp only [List.append_assoc, List.append_nil, List.nil_append]; done) | (rw [if_pos (by omega), if_neg (by omega)]; simp only [List.append_assoc, List.append_nil, List.nil_append]; done) | (rw [if_neg (by omega), if_pos (by omega)]; simp only [List.append_assoc, List.append_nil, List.nil_append]; done) | (rw [if_neg (by omega), if_neg (by omega)]; simp only [List.append_assoc, List.append_nil, List.nil_append]; done))
set_option maxRecDepth 100000 in
set_option maxHeartbeats 4000000 in
theorem r_putsTimed {V : VX} {F : Hp} {K : Int} (h : RI K F) {k : Int} (hk : 0 ≤ k ∧ k < F 136 38) (hnm : ∀ d : Int, 0 ≤ d → d < F 136 3 → 0 ≤ F 139 d ∧ F 139 d < 1099511627776) (hr : 0 ≤ F 136 41 ∧ F 136 41 + 31 ≤ 2000)  : Ct V yX12_putsTimed cX12_putsTimed 2 none 4 94 0 0 SH [vr V 136, vi k] F SH 0 (fun r F' => F' = oS (tmR F k) F) := by
  refine Ct.of [some (vr V 136), some (vi k)] (by decide) (by simp [lg_sl, vi_cat, vl_cat, vr_cat]) rfl (by simp [asc, lv_args, vi_cat, vl_cat, vr_cat]) (fun X hV hX => ?_)
  subst hV
  have hN := ri_N h
  have hT := ri_T h
  have hC := ri_C h k hk.1 hk.2
  have hL := ri_L h
  have hnd := hnm (F 151 k) hC.2.1.1 hC.2.1.2
  have y1 := nlF_le 8 (F 139 (F 151 k))
  have c1 := nl_NODE
  have c2 := nl_IN
  have c3 := nl_LIMIT
  have c4 := nl_AGE
  have c5 := nl_RATE
  have c6 := nl_CEIL
  have c7 := nl_BURST
  have c8 := nl_CREDIT
  have c9 := nl_WEIGHT
  have c10 := nl_PRIO
  have c11 := nl_AT
  have c12 := nl_ALONE
  have z0 : (nuT (F 150 k)).length ≤ 4 := nuL_len _ 4
  have z1 : (nuT (F 153 k)).length ≤ 4 := nuL_len _ 4
  refine R_aload_0 hX dX12_putsTimed_0 ?_
  refine R_ldc2 (n := 52) hX k2_X12_173 rfl dX12_putsTimed_1 ?_
  refine R_v1v hX dX12_putsTimed_4 li_X12_328 mk_X12_putsWord mi_X12_putsWord rfl o_136 (r_putsWord (by decide) (by omega)) ⟨⟨by decide, by decide⟩, by decide, by decide, rfl, Nat.le_of_ble_eq_true rfl, rfl⟩ (fun x_4 F_4 h_4 => ?_)
  subst h_4
  refine R_aload_0 hX dX12_putsTimed_7 ?_
  refine R_aload_0 hX dX12_putsTimed_8 ?_
  refine R_getq (v := 150) hX dX12_putsTimed_9 fl_X12_61 o_136 rfl (by omega) ?_
  refine R_iload_1 hX dX12_putsTimed_12 ?_
  refine R_iald hX dX12_putsTimed_13 a_150 ⟨by omega, by omega⟩ ?_
  try simp (disch := omega) only [oS_k, oS_f]
  refine R_v1v hX dX12_putsTimed_14 li_X12_335 mk_X12_putsNumber mi_X12_putsNumber rfl o_136 (r_putsNumber (by omega) (by simp only [oS_w, List.length_append, List.length_cons, List.length_nil, wdT_len]; omega)) ⟨⟨by decide, by decide⟩, by decide, by decide, rfl, Nat.le_of_ble_eq_true rfl, rfl⟩ (fun x_14 F_14 h_14 => ?_)
  subst h_14
  refine R.eq rfl rfl oS_oS ?_
  refine R_aload_0 hX dX12_putsTimed_17 ?_
  refine R_aload_0 hX dX12_putsTimed_18 ?_
  refine R_getq (v := 139) hX dX12_putsTimed_19 fl_X12_24 o_136 rfl (by omega) ?_
  refine R_aload_0 hX dX12_putsTimed_22 ?_
  refine R_getq (v := 151) hX dX12_putsTimed_23 fl_X12_64 o_136 rfl (by omega) ?_
  refine R_iload_1 hX dX12_putsTimed_26 ?_
  refine R_iald hX dX12_putsTimed_27 a_151 ⟨by omega, by omega⟩ ?_
  try simp (disch := omega) only [oS_k, oS_f]
  refine R_lald hX dX12_putsTimed_28 a_139 ⟨by omega, by omega⟩ ?_
  try simp (disch := omega) only [oS_k, oS_f]
  refine R_v1v hX dX12_putsTimed_29 li_X12_332 mk_X12_putsSpaced mi_X12_putsSpaced rfl o_136 (r_putsSpaced hnd (by simp only [oS_w, List.length_append, List.length_cons, List.length_nil, wdT_len]; omega)) ⟨⟨by decide, by decide⟩, by decide, by decide, rfl, Nat.le_of_ble_eq_true rfl, rfl⟩ (fun x_29 F_29 h_29 => ?_)
  subst h_29
  refine R.eq rfl rfl oS_oS ?_
  refine R_aload_0 hX dX12_putsTimed_32 ?_
  refine R_aload_0 hX dX12_putsTimed_33 ?_
  refine R_getq (v := 152) hX dX12_putsTimed_34 fl_X12_67 o_136 rfl (by omega) ?_
  refine R_iload_1 hX dX12_putsTimed_37 ?_
  refine R_iald hX dX12_putsTimed_38 a_152 ⟨by omega, by omega⟩ ?_
  try simp (disch := omega) only [oS_k, oS_f]
  refine R_ifne (tgt := 48) hX dX12_putsTimed_39 (by decide) (by constructor <;> first | omega | (simp (disch := omega) only [up_k, up_i, up_s]; omega)) (fun c_39 => ?_) (fun c_39 => ?_)
  · skip
    refine R_aload_0 hX dX12_putsTimed_48 ?_
    refine R_getq (v := 152) hX dX12_putsTimed_49 fl_X12_67 o_136 rfl (by omega) ?_
    refine R_iload_1 hX dX12_putsTimed_52 ?_
    refine R_iald hX dX12_putsTimed_53 a_152 ⟨by omega, by omega⟩ ?_
    try simp (disch := omega) only [oS_k, oS_f]
    refine R_iconst hX dX12_putsTimed_54 ?_
    refine R_icmpne (tgt := 64) hX dX12_putsTimed_55 (by decide) (by constructor <;> first | omega | (simp (disch := omega) only [up_k, up_i, up_s]; omega)) (by constructor <;> first | omega | (simp (disch := omega) only [up_k, up_i, up_s]; omega)) (fun c_55 => ?_) (fun c_55 => ?_)
    · skip
      refine R_ldc2 (n := 777297172) hX k2_X12_155 rfl dX12_putsTimed_64 ?_
      refine R_v1v hX dX12_putsTimed_67 li_X12_332 mk_X12_putsSpaced mi_X12_putsSpaced rfl o_136 (r_putsSpaced (by decide) (by simp only [oS_w, List.length_append, List.length_cons, List.length_nil, wdT_len]; omega)) ⟨⟨by decide, by decide⟩, by decide, by decide, rfl, Nat.le_of_ble_eq_true rfl, rfl⟩ (fun x_67 F_67 h_67 => ?_)
      subst h_67
      refine R.eq rfl rfl oS_oS ?_
      refine R_aload_0 hX dX12_putsTimed_70 ?_
      refine R_aload_0 hX dX12_putsTimed_71 ?_
      refine R_getq (v := 153) hX dX12_putsTimed_72 fl_X12_70 o_136 rfl (by omega) ?_
      refine R_iload_1 hX dX12_putsTimed_75 ?_
      refine R_iald hX dX12_putsTimed_76 a_153 ⟨by omega, by omega⟩ ?_
      try simp (disch := omega) only [oS_k, oS_f]
      refine R_v1v hX dX12_putsTimed_77 li_X12_335 mk_X12_putsNumber mi_X12_putsNumber rfl o_136 (r_putsNumber (by omega) (by simp only [oS_w, List.length_append, List.length_cons, List.length_nil, wdT_len]; omega)) ⟨⟨by decide, by decide⟩, by decide, by decide, rfl, Nat.le_of_ble_eq_true rfl, rfl⟩ (fun x_77 F_77 h_77 => ?_)
      subst h_77
      refine R.eq rfl rfl oS_oS ?_
      refine R_aload_0 hX dX12_putsTimed_80 ?_
      refine R_bipush hX dX12_putsTimed_81 (by decide) ?_
      refine R_v1v hX dX12_putsTimed_83 li_X12_325 mk_X12_puts mi_X12_puts rfl o_136 (r_puts (by simp only [oS_w, List.length_append, List.length_cons, List.length_nil, wdT_len]; omega)) ⟨⟨by decide, by decide⟩, by decide, by decide, rfl, Nat.le_of_ble_eq_true rfl, rfl⟩ (fun x_83 F_83 h_83 => ?_)
      subst h_83
      refine R.eq rfl rfl oS_oS ?_
      exact R_vret hX dX12_putsTimed_86 (by unfold tmR cwR; first | (rw [if_pos (by omega)]; done) | (rw [if_neg (by omega), if_pos (by omega)]; done) | (rw [if_neg (by omega), if_neg (by omega)]; done))
    · skip
      refine R_ldc2 (n := 3398837703) hX k2_X12_149 rfl dX12_putsTimed_58 ?_
      refine R_goto (tgt := 67) hX dX12_putsTimed_61 (by decide) ?_
      refine R_v1v hX dX12_putsTimed_67 li_X12_332 mk_X12_putsSpaced mi_X12_putsSpaced rfl o_136 (r_putsSpaced (by decide) (by simp only [oS_w, List.length_append, List.length_cons, List.length_nil, wdT_len]; omega)) ⟨⟨by decide, by decide⟩, by decide, by decide, rfl, Nat.le_of_ble_eq_true rfl, rfl⟩ (fun x_67 F_67 h_67 => ?_)
      subst h_67
      refine R.eq rfl rfl oS_oS ?_
      refine R_aload_0 hX dX12_putsTimed_70 ?_
      refine R_aload_0 hX dX12_putsTimed_71 ?_
      refine R_getq (v := 153) hX dX12_putsTimed_72 fl_X12_70 o_136 rfl (by omega) ?_
      refine R_iload_1 hX dX12_putsTimed_75 ?_
      refine R_iald hX dX12_putsTimed_76 a_153 ⟨by omega, by omega⟩ ?_
      try simp (disch := omega) only [oS_k, oS_f]
      refine R_v1v hX dX12_putsTimed_77 li_X12_335 mk_X12_putsNumber mi_X12_putsNumber rfl o_136 (r_putsNumber (by omega) (by simp only [oS_w, List.length_append, List.length_cons, List.length_nil, wdT_len]; omega)) ⟨⟨by decide, by decide⟩, by decide, by decide, rfl, Nat.le_of_ble_eq_true rfl, rfl⟩ (fun x_77 F_77 h_77 => ?_)
      subst h_77
      refine R.eq rfl rfl oS_oS ?_
      refine R_aload_0 hX dX12_putsTimed_80 ?_
      refine R_bipush hX dX12_putsTimed_81 (by decide) ?_
      refine R_v1v hX dX12_putsTimed_83 li_X12_325 mk_X12_puts mi_X12_puts rfl o_136 (r_puts (by simp only [oS_w, List.length_append, List.length_cons, List.length_nil, wdT_len]; omega)) ⟨⟨by decide, by decide⟩, by decide, by decide, rfl, Nat.le_of_ble_eq_true rfl, rfl⟩ (fun x_83 F_83 h_83 => ?_)
      subst h_83
      refine R.eq rfl rfl oS_oS ?_
      exact R_vret hX dX12_putsTimed_86 (by unfold tmR cwR; first | (rw [if_pos (by omega)]; done) | (rw [if_neg (by omega), if_pos (by omega)]; done) | (rw [if_neg (by omega), if_neg (by omega)]; done))
  · skip
    refine R_ldc2 (n := 591493) hX k2_X12_147 rfl dX12_putsTimed_42 ?_
    refine R_goto (tgt := 67) hX dX12_putsTimed_45 (by decide) ?_
    refine R_v1v hX dX12_putsTimed_67 li_X12_332 mk_X12_putsSpaced mi_X12_putsSpaced rfl o_136 (r_putsSpaced (by decide) (by simp only [oS_w, List.length_append, List.length_cons, List.length_nil, wdT_len]; omega)) ⟨⟨by decide, by decide⟩, by decide, by decide, rfl, Nat.le_of_ble_eq_true rfl, rfl⟩ (fun x_67 F_67 h_67 => ?_)
    subst h_67
    refine R.eq rfl rfl oS_oS ?_
    refine R_aload_0 hX dX12_putsTimed_70 ?_
    refine R_aload_0 hX dX12_putsTimed_71 ?_
    refine R_getq (v := 153) hX dX12_putsTimed_72 fl_X12_70 o_136 rfl (by omega) ?_
    refine R_iload_1 hX dX12_putsTimed_75 ?_
    refine R_iald hX dX12_putsTimed_76 a_153 ⟨by omega, by omega⟩ ?_
    try simp (disch := omega) only [oS_k, oS_f]
    refine R_v1v hX dX12_putsTimed_77 li_X12_335 mk_X12_putsNumber mi_X12_putsNumber rfl o_136 (r_putsNumber (by omega) (by simp only [oS_w, List.length_append, List.length_cons, List.length_nil, wdT_len]; omega)) ⟨⟨by decide, by decide⟩, by decide, by decide, rfl, Nat.le_of_ble_eq_true rfl, rfl⟩ (fun x_77 F_77 h_77 => ?_)
    subst h_77
    refine R.eq rfl rfl oS_oS ?_
    refine R_aload_0 hX dX12_putsTimed_80 ?_
    refine R_bipush hX dX12_putsTimed_81 (by decide) ?_
    refine R_v1v hX dX12_putsTimed_83 li_X12_325 mk_X12_puts mi_X12_puts rfl o_136 (r_puts (by simp only [oS_w, List.length_append, List.length_cons, List.length_nil, wdT_len]; omega)) ⟨⟨by decide, by decide⟩, by decide, by decide, rfl, Nat.le_of_ble_eq_true rfl, rfl⟩ (fun x_83 F_83 h_83 => ?_)
    subst h_83
    refine R.eq rfl rfl oS_oS ?_
    exact R_vret hX dX12_putsTimed_86 (by unfold tmR cwR; first | (rw [if_pos (by omega)]; done) | (rw [if_neg (by omega), if_pos (by omega)]; done) | (rw [if_neg (by omega), if_neg (by omega)]; done))
