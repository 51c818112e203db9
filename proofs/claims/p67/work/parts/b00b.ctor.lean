set_option maxRecDepth 100000 in
set_option maxHeartbeats 4000000 in
theorem i_1 {V : VX} {F : Hp} (hz : F 1 = z0 9) : Ct V yX9_init cX9_init 1 none 1 20 1 900 (RSH.take 2) [vr V 1] F (RSH.take 3) 0 (fun _ F' => Ini 1 2 3 F F') := by
  refine Ct.ofI [some (vr V 1)] (by decide) rfl (by simp [lg_sl, vi_cat, vl_cat, vr_cat]) rfl (by simp [asc, lv_args, vi_cat, vl_cat, vr_cat]) (fun X hV hX hin => ?_)
  subst hV
  refine R_aload_0 hX dX9_init_0 ?_
  refine R_objInit hX (by decide) dX9_init_1 oi_X9_3 oi_i oi_c ⟨by decide, by decide, rfl, by decide⟩ ?_
  refine R_aload_0 hX dX9_init_4 ?_
  refine R_sipush hX dX9_init_5 rfl ?_
  refine R_newaS hX (atype := .byte) (ty := .byte) (n := 900) rfl (Or.inr (Or.inr (Or.inr rfl))) ac_byte (by decide) ⟨by decide, by decide⟩ dX9_init_8 rfl (sh2 := RSH.take 3) (k := 2) rfl rfl ?_
  refine R_putFa (t := .byte) hX (fun _ _ => rfl) hin dX9_init_10 fl_X9_9 rfl (rs := []) ⟨by decide, rfl⟩ rfl ?_
  refine R_vret hX dX9_init_13 ⟨fun a h0 h1 => ?_, fun a h0 h1 => ?_, ?_⟩
  · have hc : a = 2 := by omega
    rcases hc with rfl
    · simp (disch := omega) only [up_r, row_r, row_s]; rfl
  · simp (disch := omega) only [up_r, row_r, row_s]
  · funext i
    show _ = INI 1 i
    have hI : INI 1 i = (if i = 0 then 2 else z0 9 i) := rfl
    rw [hI]
    by_cases y_0 : i = 0
    · rw [if_pos y_0, y_0]; simp (disch := omega) only [up_i, up_s, up_k, up_r, row_r]
    · rw [if_neg y_0]
      (try (simp (disch := omega) only [up_i, up_s, up_k, up_r, row_r])); rw [hz]
set_option maxRecDepth 100000 in
set_option maxHeartbeats 4000000 in
theorem i_16 {V : VX} {F : Hp} (hz : F 16 = z0 1) : Ct V yX1_init cX1_init 1 none 1 20 4 48 (RSH.take 17) [vr V 16] F (RSH.take 21) 0 (fun _ F' => Ini 16 17 21 F F') := by
  refine Ct.ofI [some (vr V 16)] (by decide) rfl (by simp [lg_sl, vi_cat, vl_cat, vr_cat]) rfl (by simp [asc, lv_args, vi_cat, vl_cat, vr_cat]) (fun X hV hX hin => ?_)
  subst hV
  refine R_aload_0 hX dX1_init_0 ?_
  refine R_objInit hX (by decide) dX1_init_1 oi_X1_3 oi_i oi_c ⟨by decide, by decide, rfl, by decide⟩ ?_
  refine R_aload_0 hX dX1_init_4 ?_
  refine R_bipush hX dX1_init_5 rfl ?_
  refine R_newaS hX (atype := .int) (ty := .int) (n := 12) rfl (Or.inl rfl) ac_int (by decide) ⟨by decide, by decide⟩ dX1_init_7 rfl (sh2 := RSH.take 18) (k := 17) rfl rfl ?_
  refine R_putFa (t := .int) hX (fun _ _ => rfl) hin dX1_init_9 fl_X1_9 rfl (rs := []) ⟨by decide, rfl⟩ rfl ?_
  refine R_aload_0 hX dX1_init_12 ?_
  refine R_bipush hX dX1_init_13 rfl ?_
  refine R_newaS hX (atype := .int) (ty := .int) (n := 12) rfl (Or.inl rfl) ac_int (by decide) ⟨by decide, by decide⟩ dX1_init_15 rfl (sh2 := RSH.take 19) (k := 18) rfl rfl ?_
  refine R_putFa (t := .int) hX (fun _ _ => rfl) hin dX1_init_17 fl_X1_15 rfl (rs := []) ⟨by decide, rfl⟩ rfl ?_
  refine R_aload_0 hX dX1_init_20 ?_
  refine R_bipush hX dX1_init_21 rfl ?_
  refine R_newaS hX (atype := .int) (ty := .int) (n := 12) rfl (Or.inl rfl) ac_int (by decide) ⟨by decide, by decide⟩ dX1_init_23 rfl (sh2 := RSH.take 20) (k := 19) rfl rfl ?_
  refine R_putFa (t := .int) hX (fun _ _ => rfl) hin dX1_init_25 fl_X1_18 rfl (rs := []) ⟨by decide, rfl⟩ rfl ?_
  refine R_aload_0 hX dX1_init_28 ?_
  refine R_bipush hX dX1_init_29 rfl ?_
  refine R_newaS hX (atype := .int) (ty := .int) (n := 12) rfl (Or.inl rfl) ac_int (by decide) ⟨by decide, by decide⟩ dX1_init_31 rfl (sh2 := RSH.take 21) (k := 20) rfl rfl ?_
  refine R_putFa (t := .int) hX (fun _ _ => rfl) hin dX1_init_33 fl_X1_21 rfl (rs := []) ⟨by decide, rfl⟩ rfl ?_
  refine R_vret hX dX1_init_36 ⟨fun a h0 h1 => ?_, fun a h0 h1 => ?_, ?_⟩
  · have hc : a = 17 ∨ a = 18 ∨ a = 19 ∨ a = 20 := by omega
    rcases hc with rfl | rfl | rfl | rfl
    · simp (disch := omega) only [up_r, row_r, row_s]; rfl
    · simp (disch := omega) only [up_r, row_r, row_s]; rfl
    · simp (disch := omega) only [up_r, row_r, row_s]; rfl
    · simp (disch := omega) only [up_r, row_r, row_s]; rfl
  · simp (disch := omega) only [up_r, row_r, row_s]
  · funext i
    show _ = INI 16 i
    have hI : INI 16 i = (if i = 1 then 17 else if i = 2 then 18 else if i = 3 then 19 else if i = 4 then 20 else z0 1 i) := rfl
    rw [hI]
    by_cases y_1 : i = 1
    · rw [if_pos y_1, y_1]; simp (disch := omega) only [up_i, up_s, up_k, up_r, row_r]
    · rw [if_neg y_1]
      by_cases y_2 : i = 2
      · rw [if_pos y_2, y_2]; simp (disch := omega) only [up_i, up_s, up_k, up_r, row_r]
      · rw [if_neg y_2]
        by_cases y_3 : i = 3
        · rw [if_pos y_3, y_3]; simp (disch := omega) only [up_i, up_s, up_k, up_r, row_r]
        · rw [if_neg y_3]
          by_cases y_4 : i = 4
          · rw [if_pos y_4, y_4]; simp (disch := omega) only [up_i, up_s, up_k, up_r, row_r]
          · rw [if_neg y_4]
            (try (simp (disch := omega) only [up_i, up_s, up_k, up_r, row_r])); rw [hz]
set_option maxRecDepth 100000 in
set_option maxHeartbeats 4000000 in
theorem i_4 {V : VX} {F : Hp} (hz : F 4 = z0 7) : Ct V yX7_init cX7_init 1 none 2 40 16 185 (RSH.take 5) [vr V 4] F (RSH.take 21) 0 (fun _ F' => Ini 4 5 21 F F') := by
  refine Ct.ofI [some (vr V 4)] (by decide) rfl (by simp [lg_sl, vi_cat, vl_cat, vr_cat]) rfl (by simp [asc, lv_args, vi_cat, vl_cat, vr_cat]) (fun X hV hX hin => ?_)
  subst hV
  refine R_aload_0 hX dX7_init_0 ?_
  refine R_objInit hX (by decide) dX7_init_1 oi_X7_3 oi_i oi_c ⟨by decide, by decide, rfl, by decide⟩ ?_
  refine R_aload_0 hX dX7_init_4 ?_
  refine R_bipush hX dX7_init_5 rfl ?_
  refine R_newaS hX (atype := .long) (ty := .long) (n := 12) rfl (Or.inr (Or.inl rfl)) ac_long (by decide) ⟨by decide, by decide⟩ dX7_init_7 rfl (sh2 := RSH.take 6) (k := 5) rfl rfl ?_
  refine R_putFa (t := .long) hX (fun _ _ => rfl) hin dX7_init_9 fl_X7_9 rfl (rs := []) ⟨by decide, rfl⟩ rfl ?_
  refine R_aload_0 hX dX7_init_12 ?_
  refine R_bipush hX dX7_init_13 rfl ?_
  refine R_newaS hX (atype := .int) (ty := .int) (n := 12) rfl (Or.inl rfl) ac_int (by decide) ⟨by decide, by decide⟩ dX7_init_15 rfl (sh2 := RSH.take 7) (k := 6) rfl rfl ?_
  refine R_putFa (t := .int) hX (fun _ _ => rfl) hin dX7_init_17 fl_X7_15 rfl (rs := []) ⟨by decide, rfl⟩ rfl ?_
  refine R_aload_0 hX dX7_init_20 ?_
  refine R_bipush hX dX7_init_21 rfl ?_
  refine R_newaS hX (atype := .int) (ty := .int) (n := 12) rfl (Or.inl rfl) ac_int (by decide) ⟨by decide, by decide⟩ dX7_init_23 rfl (sh2 := RSH.take 8) (k := 7) rfl rfl ?_
  refine R_putFa (t := .int) hX (fun _ _ => rfl) hin dX7_init_25 fl_X7_19 rfl (rs := []) ⟨by decide, rfl⟩ rfl ?_
  refine R_aload_0 hX dX7_init_28 ?_
  refine R_bipush hX dX7_init_29 rfl ?_
  refine R_newaS hX (atype := .int) (ty := .int) (n := 12) rfl (Or.inl rfl) ac_int (by decide) ⟨by decide, by decide⟩ dX7_init_31 rfl (sh2 := RSH.take 9) (k := 8) rfl rfl ?_
  refine R_putFa (t := .int) hX (fun _ _ => rfl) hin dX7_init_33 fl_X7_22 rfl (rs := []) ⟨by decide, rfl⟩ rfl ?_
  refine R_aload_0 hX dX7_init_36 ?_
  refine R_bipush hX dX7_init_37 rfl ?_
  refine R_newaS hX (atype := .int) (ty := .int) (n := 12) rfl (Or.inl rfl) ac_int (by decide) ⟨by decide, by decide⟩ dX7_init_39 rfl (sh2 := RSH.take 10) (k := 9) rfl rfl ?_
  refine R_putFa (t := .int) hX (fun _ _ => rfl) hin dX7_init_41 fl_X7_25 rfl (rs := []) ⟨by decide, rfl⟩ rfl ?_
  refine R_aload_0 hX dX7_init_44 ?_
  refine R_bipush hX dX7_init_45 rfl ?_
  refine R_newaS hX (atype := .int) (ty := .int) (n := 12) rfl (Or.inl rfl) ac_int (by decide) ⟨by decide, by decide⟩ dX7_init_47 rfl (sh2 := RSH.take 11) (k := 10) rfl rfl ?_
  refine R_putFa (t := .int) hX (fun _ _ => rfl) hin dX7_init_49 fl_X7_28 rfl (rs := []) ⟨by decide, rfl⟩ rfl ?_
  refine R_aload_0 hX dX7_init_52 ?_
  refine R_bipush hX dX7_init_53 rfl ?_
  refine R_newaS hX (atype := .int) (ty := .int) (n := 12) rfl (Or.inl rfl) ac_int (by decide) ⟨by decide, by decide⟩ dX7_init_55 rfl (sh2 := RSH.take 12) (k := 11) rfl rfl ?_
  refine R_putFa (t := .int) hX (fun _ _ => rfl) hin dX7_init_57 fl_X7_31 rfl (rs := []) ⟨by decide, rfl⟩ rfl ?_
  refine R_aload_0 hX dX7_init_60 ?_
  refine R_bipush hX dX7_init_61 rfl ?_
  refine R_newaS hX (atype := .int) (ty := .int) (n := 12) rfl (Or.inl rfl) ac_int (by decide) ⟨by decide, by decide⟩ dX7_init_63 rfl (sh2 := RSH.take 13) (k := 12) rfl rfl ?_
  refine R_putFa (t := .int) hX (fun _ _ => rfl) hin dX7_init_65 fl_X7_34 rfl (rs := []) ⟨by decide, rfl⟩ rfl ?_
  refine R_aload_0 hX dX7_init_68 ?_
  refine R_bipush hX dX7_init_69 rfl ?_
  refine R_newaS hX (atype := .int) (ty := .int) (n := 12) rfl (Or.inl rfl) ac_int (by decide) ⟨by decide, by decide⟩ dX7_init_71 rfl (sh2 := RSH.take 14) (k := 13) rfl rfl ?_
  refine R_putFa (t := .int) hX (fun _ _ => rfl) hin dX7_init_73 fl_X7_37 rfl (rs := []) ⟨by decide, rfl⟩ rfl ?_
  refine R_aload_0 hX dX7_init_76 ?_
  refine R_bipush hX dX7_init_77 rfl ?_
  refine R_newaS hX (atype := .int) (ty := .int) (n := 12) rfl (Or.inl rfl) ac_int (by decide) ⟨by decide, by decide⟩ dX7_init_79 rfl (sh2 := RSH.take 15) (k := 14) rfl rfl ?_
  refine R_putFa (t := .int) hX (fun _ _ => rfl) hin dX7_init_81 fl_X7_40 rfl (rs := []) ⟨by decide, rfl⟩ rfl ?_
  refine R_aload_0 hX dX7_init_84 ?_
  refine R_bipush hX dX7_init_85 rfl ?_
  refine R_newaS hX (atype := .boolean) (ty := .boolean) (n := 12) rfl (Or.inr (Or.inr (Or.inl rfl))) ac_boolean (by decide) ⟨by decide, by decide⟩ dX7_init_87 rfl (sh2 := RSH.take 16) (k := 15) rfl rfl ?_
  refine R_putFa (t := .boolean) hX (fun _ _ => rfl) hin dX7_init_89 fl_X7_43 rfl (rs := []) ⟨by decide, rfl⟩ rfl ?_
  refine R_aload_0 hX dX7_init_92 ?_
  refine R_newS hX cf_1 cl_X7_47 is_X1 in_RateLimiter_Changes (by decide) ⟨by decide, by decide⟩ dX7_init_93 (sh2 := RSH.take 17) (n := 16) rfl rfl ?_
  refine R_dup hX c1_r dX7_init_96 ?_
  refine R_cN0 hX dX7_init_97 li_X7_49 mk_X1_init mc_X1_init (rs := []) ⟨by decide, rfl⟩ (i_16 (by simp only [row_s])) ⟨⟨by decide, by decide⟩, by decide, by decide, rfl, Nat.le_of_ble_eq_true rfl, rfl⟩ (fun x_97 G_97 h_97 => ?_)
  obtain ⟨p_97, q_97, r_97⟩ := h_97
  refine R_putFo hX hin dX7_init_100 fl_X7_50 rfl (rs := []) ⟨by decide, rfl⟩ rfl ?_
  refine R_aload_0 hX dX7_init_103 ?_
  refine R_bipush hX dX7_init_104 rfl ?_
  refine R_puti hX dX7_init_106 fl_X7_54 (rs := []) ⟨by decide, rfl⟩ rfl ?_
  refine R_aload_0 hX dX7_init_109 ?_
  refine R_iconst hX dX7_init_110 ?_
  refine R_puti hX dX7_init_111 fl_X7_58 (rs := []) ⟨by decide, rfl⟩ rfl ?_
  refine R_vret hX dX7_init_114 ⟨fun a h0 h1 => ?_, fun a h0 h1 => ?_, ?_⟩
  · have hc : a = 5 ∨ a = 6 ∨ a = 7 ∨ a = 8 ∨ a = 9 ∨ a = 10 ∨ a = 11 ∨ a = 12 ∨ a = 13 ∨ a = 14 ∨ a = 15 ∨ a = 16 ∨ (17 ≤ a ∧ a < 21) := by omega
    rcases hc with rfl | rfl | rfl | rfl | rfl | rfl | rfl | rfl | rfl | rfl | rfl | rfl | hc
    · simp (disch := omega) only [up_r, row_r, row_s, p_97, q_97, r_97]; rfl
    · simp (disch := omega) only [up_r, row_r, row_s, p_97, q_97, r_97]; rfl
    · simp (disch := omega) only [up_r, row_r, row_s, p_97, q_97, r_97]; rfl
    · simp (disch := omega) only [up_r, row_r, row_s, p_97, q_97, r_97]; rfl
    · simp (disch := omega) only [up_r, row_r, row_s, p_97, q_97, r_97]; rfl
    · simp (disch := omega) only [up_r, row_r, row_s, p_97, q_97, r_97]; rfl
    · simp (disch := omega) only [up_r, row_r, row_s, p_97, q_97, r_97]; rfl
    · simp (disch := omega) only [up_r, row_r, row_s, p_97, q_97, r_97]; rfl
    · simp (disch := omega) only [up_r, row_r, row_s, p_97, q_97, r_97]; rfl
    · simp (disch := omega) only [up_r, row_r, row_s, p_97, q_97, r_97]; rfl
    · simp (disch := omega) only [up_r, row_r, row_s, p_97, q_97, r_97]; rfl
    · simp (disch := omega) only [up_r, row_r, row_s, p_97, q_97, r_97]
    · simp (disch := omega) only [up_r, row_r, row_s, p_97, q_97, r_97]
  · simp (disch := omega) only [up_r, row_r, row_s, p_97, q_97, r_97]
  · funext i
    show _ = INI 4 i
    have hI : INI 4 i = (if i = 1 then 5 else if i = 2 then 6 else if i = 3 then 7 else if i = 4 then 8 else if i = 5 then 9 else if i = 6 then 10 else if i = 7 then 11 else if i = 8 then 12 else if i = 9 then 13 else if i = 10 then 14 else if i = 11 then 15 else if i = 12 then 16 else if i = 13 then 10 else if i = 14 then -1 else z0 7 i) := rfl
    rw [hI]
    by_cases y_1 : i = 1
    · rw [if_pos y_1, y_1]; simp (disch := omega) only [up_i, up_s, up_k, up_r, row_r, p_97, q_97, r_97]
    · rw [if_neg y_1]
      by_cases y_2 : i = 2
      · rw [if_pos y_2, y_2]; simp (disch := omega) only [up_i, up_s, up_k, up_r, row_r, p_97, q_97, r_97]
      · rw [if_neg y_2]
        by_cases y_3 : i = 3
        · rw [if_pos y_3, y_3]; simp (disch := omega) only [up_i, up_s, up_k, up_r, row_r, p_97, q_97, r_97]
        · rw [if_neg y_3]
          by_cases y_4 : i = 4
          · rw [if_pos y_4, y_4]; simp (disch := omega) only [up_i, up_s, up_k, up_r, row_r, p_97, q_97, r_97]
          · rw [if_neg y_4]
            by_cases y_5 : i = 5
            · rw [if_pos y_5, y_5]; simp (disch := omega) only [up_i, up_s, up_k, up_r, row_r, p_97, q_97, r_97]
            · rw [if_neg y_5]
              by_cases y_6 : i = 6
              · rw [if_pos y_6, y_6]; simp (disch := omega) only [up_i, up_s, up_k, up_r, row_r, p_97, q_97, r_97]
              · rw [if_neg y_6]
                by_cases y_7 : i = 7
                · rw [if_pos y_7, y_7]; simp (disch := omega) only [up_i, up_s, up_k, up_r, row_r, p_97, q_97, r_97]
                · rw [if_neg y_7]
                  by_cases y_8 : i = 8
                  · rw [if_pos y_8, y_8]; simp (disch := omega) only [up_i, up_s, up_k, up_r, row_r, p_97, q_97, r_97]
                  · rw [if_neg y_8]
                    by_cases y_9 : i = 9
                    · rw [if_pos y_9, y_9]; simp (disch := omega) only [up_i, up_s, up_k, up_r, row_r, p_97, q_97, r_97]
                    · rw [if_neg y_9]
                      by_cases y_10 : i = 10
                      · rw [if_pos y_10, y_10]; simp (disch := omega) only [up_i, up_s, up_k, up_r, row_r, p_97, q_97, r_97]
                      · rw [if_neg y_10]
                        by_cases y_11 : i = 11
                        · rw [if_pos y_11, y_11]; simp (disch := omega) only [up_i, up_s, up_k, up_r, row_r, p_97, q_97, r_97]
                        · rw [if_neg y_11]
                          by_cases y_12 : i = 12
                          · rw [if_pos y_12, y_12]; simp (disch := omega) only [up_i, up_s, up_k, up_r, row_r, p_97, q_97, r_97]
                          · rw [if_neg y_12]
                            by_cases y_13 : i = 13
                            · rw [if_pos y_13, y_13]; simp (disch := omega) only [up_i, up_s, up_k, up_r, row_r, p_97, q_97, r_97]
                            · rw [if_neg y_13]
                              by_cases y_14 : i = 14
                              · rw [if_pos y_14, y_14]; simp (disch := omega) only [up_i, up_s, up_k, up_r, row_r, p_97, q_97, r_97]
                              · rw [if_neg y_14]
                                (try (simp (disch := omega) only [up_i, up_s, up_k, up_r, row_r, p_97, q_97, r_97])); rw [hz]
set_option maxRecDepth 100000 in
set_option maxHeartbeats 4000000 in
theorem i_21 {V : VX} {F : Hp} (hz : F 21 = z0 6) : Ct V yX6_init cX6_init 1 none 1 20 0 0 (RSH.take 22) [vr V 21] F (RSH.take 22) 0 (fun _ F' => Ini 21 22 22 F F') := by
  refine Ct.ofI [some (vr V 21)] (by decide) rfl (by simp [lg_sl, vi_cat, vl_cat, vr_cat]) rfl (by simp [asc, lv_args, vi_cat, vl_cat, vr_cat]) (fun X hV hX hin => ?_)
  subst hV
  refine R_aload_0 hX dX6_init_0 ?_
  refine R_objInit hX (by decide) dX6_init_1 oi_X6_3 oi_i oi_c ⟨by decide, by decide, rfl, by decide⟩ ?_
  refine R_vret hX dX6_init_4 ⟨fun a h0 h1 => ?_, fun a h0 h1 => ?_, ?_⟩
  · omega
  · simp (disch := omega) only [up_r, row_r, row_s]
  · funext i
    show _ = INI 21 i
    have hI : INI 21 i = (z0 6 i) := rfl
    rw [hI]
    (try (simp (disch := omega) only [up_i, up_s, up_k, up_r, row_r])); rw [hz]
set_option maxRecDepth 100000 in
set_option maxHeartbeats 4000000 in
theorem i_3 {V : VX} {F : Hp} (hz : F 3 = z0 5) : Ct V yX5_init cX5_init 1 none 3 60 18 206 (RSH.take 4) [vr V 3] F (RSH.take 22) 0 (fun _ F' => Ini 3 4 22 F F') := by
  refine Ct.ofI [some (vr V 3)] (by decide) rfl (by simp [lg_sl, vi_cat, vl_cat, vr_cat]) rfl (by simp [asc, lv_args, vi_cat, vl_cat, vr_cat]) (fun X hV hX hin => ?_)
  subst hV
  refine R_aload_0 hX dX5_init_0 ?_
  refine R_objInit hX (by decide) dX5_init_1 oi_X5_3 oi_i oi_c ⟨by decide, by decide, rfl, by decide⟩ ?_
  refine R_aload_0 hX dX5_init_4 ?_
  refine R_bipush hX dX5_init_5 rfl ?_
  refine R_puti hX dX5_init_7 fl_X5_9 (rs := []) ⟨by decide, rfl⟩ rfl ?_
  refine R_aload_0 hX dX5_init_10 ?_
  refine R_newS hX cf_7 cl_X5_15 is_X7 in_RateLimiter_Setup (by decide) ⟨by decide, by decide⟩ dX5_init_11 (sh2 := RSH.take 5) (n := 4) rfl rfl ?_
  refine R_dup hX c1_r dX5_init_14 ?_
  refine R_cN0 hX dX5_init_15 li_X5_17 mk_X7_init mc_X7_init (rs := []) ⟨by decide, rfl⟩ (i_4 (by simp only [row_s])) ⟨⟨by decide, by decide⟩, by decide, by decide, rfl, Nat.le_of_ble_eq_true rfl, rfl⟩ (fun x_15 G_15 h_15 => ?_)
  obtain ⟨p_15, q_15, r_15⟩ := h_15
  refine R_puto hX dX5_init_18 fl_X5_18 (rs := []) ⟨by decide, rfl⟩ rfl ?_
  refine R_aload_0 hX dX5_init_21 ?_
  refine R_newS hX cf_6 cl_X5_22 is_X6 in_RateLimiter_Scanner (by decide) ⟨by decide, by decide⟩ dX5_init_22 (sh2 := RSH.take 22) (n := 21) rfl rfl ?_
  refine R_dup hX c1_r dX5_init_25 ?_
  refine R_cN0 hX dX5_init_26 li_X5_24 mk_X6_init mc_X6_init (rs := []) ⟨by decide, rfl⟩ (i_21 (by simp only [row_s])) ⟨⟨by decide, by decide⟩, by decide, by decide, rfl, Nat.le_of_ble_eq_true rfl, rfl⟩ (fun x_26 G_26 h_26 => ?_)
  obtain ⟨p_26, q_26, r_26⟩ := h_26
  refine R_putFo hX hin dX5_init_29 fl_X5_25 rfl (rs := []) ⟨by decide, rfl⟩ rfl ?_
  refine R_vret hX dX5_init_32 ⟨fun a h0 h1 => ?_, fun a h0 h1 => ?_, ?_⟩
  · have hc : a = 4 ∨ (5 ≤ a ∧ a < 21) ∨ a = 21 := by omega
    rcases hc with rfl | hc | rfl
    · simp (disch := omega) only [up_r, row_r, row_s, p_15, p_26, q_15, q_26, r_15, r_26]
    · simp (disch := omega) only [up_r, row_r, row_s, p_15, p_26, q_15, q_26, r_15, r_26]
    · simp (disch := omega) only [up_r, row_r, row_s, p_15, p_26, q_15, q_26, r_15, r_26]
  · simp (disch := omega) only [up_r, row_r, row_s, p_15, p_26, q_15, q_26, r_15, r_26]
  · funext i
    show _ = INI 3 i
    have hI : INI 3 i = (if i = 1 then -2 else if i = 2 then 4 else if i = 3 then 21 else z0 5 i) := rfl
    rw [hI]
    by_cases y_1 : i = 1
    · rw [if_pos y_1, y_1]; simp (disch := omega) only [up_i, up_s, up_k, up_r, row_r, p_15, p_26, q_15, q_26, r_15, r_26]
    · rw [if_neg y_1]
      by_cases y_2 : i = 2
      · rw [if_pos y_2, y_2]; simp (disch := omega) only [up_i, up_s, up_k, up_r, row_r, p_15, p_26, q_15, q_26, r_15, r_26]
      · rw [if_neg y_2]
        by_cases y_3 : i = 3
        · rw [if_pos y_3, y_3]; simp (disch := omega) only [up_i, up_s, up_k, up_r, row_r, p_15, p_26, q_15, q_26, r_15, r_26]
        · rw [if_neg y_3]
          (try (simp (disch := omega) only [up_i, up_s, up_k, up_r, row_r, p_15, p_26, q_15, q_26, r_15, r_26])); rw [hz]
set_option maxRecDepth 100000 in
set_option maxHeartbeats 4000000 in
theorem i_22 {V : VX} {F : Hp} (hz : F 22 = z0 10) : Ct V yX10_init cX10_init 1 none 1 20 0 0 (RSH.take 23) [vr V 22] F (RSH.take 23) 0 (fun _ F' => Ini 22 23 23 F F') := by
  refine Ct.ofI [some (vr V 22)] (by decide) rfl (by simp [lg_sl, vi_cat, vl_cat, vr_cat]) rfl (by simp [asc, lv_args, vi_cat, vl_cat, vr_cat]) (fun X hV hX hin => ?_)
  subst hV
  refine R_aload_0 hX dX10_init_0 ?_
  refine R_objInit hX (by decide) dX10_init_1 oi_X10_3 oi_i oi_c ⟨by decide, by decide, rfl, by decide⟩ ?_
  refine R_vret hX dX10_init_4 ⟨fun a h0 h1 => ?_, fun a h0 h1 => ?_, ?_⟩
  · omega
  · simp (disch := omega) only [up_r, row_r, row_s]
  · funext i
    show _ = INI 22 i
    have hI : INI 22 i = (z0 10 i) := rfl
    rw [hI]
    (try (simp (disch := omega) only [up_i, up_s, up_k, up_r, row_r])); rw [hz]
set_option maxRecDepth 100000 in
set_option maxHeartbeats 4000000 in
theorem i_35 {V : VX} {F : Hp} (hz : F 35 = z0 1) : Ct V yX1_init cX1_init 1 none 1 20 4 48 (RSH.take 36) [vr V 35] F (RSH.take 40) 0 (fun _ F' => Ini 35 36 40 F F') := by
  refine Ct.ofI [some (vr V 35)] (by decide) rfl (by simp [lg_sl, vi_cat, vl_cat, vr_cat]) rfl (by simp [asc, lv_args, vi_cat, vl_cat, vr_cat]) (fun X hV hX hin => ?_)
  subst hV
  refine R_aload_0 hX dX1_init_0 ?_
  refine R_objInit hX (by decide) dX1_init_1 oi_X1_3 oi_i oi_c ⟨by decide, by decide, rfl, by decide⟩ ?_
  refine R_aload_0 hX dX1_init_4 ?_
  refine R_bipush hX dX1_init_5 rfl ?_
  refine R_newaS hX (atype := .int) (ty := .int) (n := 12) rfl (Or.inl rfl) ac_int (by decide) ⟨by decide, by decide⟩ dX1_init_7 rfl (sh2 := RSH.take 37) (k := 36) rfl rfl ?_
  refine R_putFa (t := .int) hX (fun _ _ => rfl) hin dX1_init_9 fl_X1_9 rfl (rs := []) ⟨by decide, rfl⟩ rfl ?_
  refine R_aload_0 hX dX1_init_12 ?_
  refine R_bipush hX dX1_init_13 rfl ?_
  refine R_newaS hX (atype := .int) (ty := .int) (n := 12) rfl (Or.inl rfl) ac_int (by decide) ⟨by decide, by decide⟩ dX1_init_15 rfl (sh2 := RSH.take 38) (k := 37) rfl rfl ?_
  refine R_putFa (t := .int) hX (fun _ _ => rfl) hin dX1_init_17 fl_X1_15 rfl (rs := []) ⟨by decide, rfl⟩ rfl ?_
  refine R_aload_0 hX dX1_init_20 ?_
  refine R_bipush hX dX1_init_21 rfl ?_
  refine R_newaS hX (atype := .int) (ty := .int) (n := 12) rfl (Or.inl rfl) ac_int (by decide) ⟨by decide, by decide⟩ dX1_init_23 rfl (sh2 := RSH.take 39) (k := 38) rfl rfl ?_
  refine R_putFa (t := .int) hX (fun _ _ => rfl) hin dX1_init_25 fl_X1_18 rfl (rs := []) ⟨by decide, rfl⟩ rfl ?_
  refine R_aload_0 hX dX1_init_28 ?_
  refine R_bipush hX dX1_init_29 rfl ?_
  refine R_newaS hX (atype := .int) (ty := .int) (n := 12) rfl (Or.inl rfl) ac_int (by decide) ⟨by decide, by decide⟩ dX1_init_31 rfl (sh2 := RSH.take 40) (k := 39) rfl rfl ?_
  refine R_putFa (t := .int) hX (fun _ _ => rfl) hin dX1_init_33 fl_X1_21 rfl (rs := []) ⟨by decide, rfl⟩ rfl ?_
  refine R_vret hX dX1_init_36 ⟨fun a h0 h1 => ?_, fun a h0 h1 => ?_, ?_⟩
  · have hc : a = 36 ∨ a = 37 ∨ a = 38 ∨ a = 39 := by omega
    rcases hc with rfl | rfl | rfl | rfl
    · simp (disch := omega) only [up_r, row_r, row_s]; rfl
    · simp (disch := omega) only [up_r, row_r, row_s]; rfl
    · simp (disch := omega) only [up_r, row_r, row_s]; rfl
    · simp (disch := omega) only [up_r, row_r, row_s]; rfl
  · simp (disch := omega) only [up_r, row_r, row_s]
  · funext i
    show _ = INI 35 i
    have hI : INI 35 i = (if i = 1 then 36 else if i = 2 then 37 else if i = 3 then 38 else if i = 4 then 39 else z0 1 i) := rfl
    rw [hI]
    by_cases y_1 : i = 1
    · rw [if_pos y_1, y_1]; simp (disch := omega) only [up_i, up_s, up_k, up_r, row_r]
    · rw [if_neg y_1]
      by_cases y_2 : i = 2
      · rw [if_pos y_2, y_2]; simp (disch := omega) only [up_i, up_s, up_k, up_r, row_r]
      · rw [if_neg y_2]
        by_cases y_3 : i = 3
        · rw [if_pos y_3, y_3]; simp (disch := omega) only [up_i, up_s, up_k, up_r, row_r]
        · rw [if_neg y_3]
          by_cases y_4 : i = 4
          · rw [if_pos y_4, y_4]; simp (disch := omega) only [up_i, up_s, up_k, up_r, row_r]
          · rw [if_neg y_4]
            (try (simp (disch := omega) only [up_i, up_s, up_k, up_r, row_r])); rw [hz]
set_option maxRecDepth 100000 in
set_option maxHeartbeats 4000000 in
theorem i_23 {V : VX} {F : Hp} (hz : F 23 = z0 7) : Ct V yX7_init cX7_init 1 none 2 40 16 185 (RSH.take 24) [vr V 23] F (RSH.take 40) 0 (fun _ F' => Ini 23 24 40 F F') := by
  refine Ct.ofI [some (vr V 23)] (by decide) rfl (by simp [lg_sl, vi_cat, vl_cat, vr_cat]) rfl (by simp [asc, lv_args, vi_cat, vl_cat, vr_cat]) (fun X hV hX hin => ?_)
  subst hV
  refine R_aload_0 hX dX7_init_0 ?_
  refine R_objInit hX (by decide) dX7_init_1 oi_X7_3 oi_i oi_c ⟨by decide, by decide, rfl, by decide⟩ ?_
  refine R_aload_0 hX dX7_init_4 ?_
  refine R_bipush hX dX7_init_5 rfl ?_
  refine R_newaS hX (atype := .long) (ty := .long) (n := 12) rfl (Or.inr (Or.inl rfl)) ac_long (by decide) ⟨by decide, by decide⟩ dX7_init_7 rfl (sh2 := RSH.take 25) (k := 24) rfl rfl ?_
  refine R_putFa (t := .long) hX (fun _ _ => rfl) hin dX7_init_9 fl_X7_9 rfl (rs := []) ⟨by decide, rfl⟩ rfl ?_
  refine R_aload_0 hX dX7_init_12 ?_
  refine R_bipush hX dX7_init_13 rfl ?_
  refine R_newaS hX (atype := .int) (ty := .int) (n := 12) rfl (Or.inl rfl) ac_int (by decide) ⟨by decide, by decide⟩ dX7_init_15 rfl (sh2 := RSH.take 26) (k := 25) rfl rfl ?_
  refine R_putFa (t := .int) hX (fun _ _ => rfl) hin dX7_init_17 fl_X7_15 rfl (rs := []) ⟨by decide, rfl⟩ rfl ?_
  refine R_aload_0 hX dX7_init_20 ?_
  refine R_bipush hX dX7_init_21 rfl ?_
  refine R_newaS hX (atype := .int) (ty := .int) (n := 12) rfl (Or.inl rfl) ac_int (by decide) ⟨by decide, by decide⟩ dX7_init_23 rfl (sh2 := RSH.take 27) (k := 26) rfl rfl ?_
  refine R_putFa (t := .int) hX (fun _ _ => rfl) hin dX7_init_25 fl_X7_19 rfl (rs := []) ⟨by decide, rfl⟩ rfl ?_
  refine R_aload_0 hX dX7_init_28 ?_
  refine R_bipush hX dX7_init_29 rfl ?_
  refine R_newaS hX (atype := .int) (ty := .int) (n := 12) rfl (Or.inl rfl) ac_int (by decide) ⟨by decide, by decide⟩ dX7_init_31 rfl (sh2 := RSH.take 28) (k := 27) rfl rfl ?_
  refine R_putFa (t := .int) hX (fun _ _ => rfl) hin dX7_init_33 fl_X7_22 rfl (rs := []) ⟨by decide, rfl⟩ rfl ?_
  refine R_aload_0 hX dX7_init_36 ?_
  refine R_bipush hX dX7_init_37 rfl ?_
  refine R_newaS hX (atype := .int) (ty := .int) (n := 12) rfl (Or.inl rfl) ac_int (by decide) ⟨by decide, by decide⟩ dX7_init_39 rfl (sh2 := RSH.take 29) (k := 28) rfl rfl ?_
  refine R_putFa (t := .int) hX (fun _ _ => rfl) hin dX7_init_41 fl_X7_25 rfl (rs := []) ⟨by decide, rfl⟩ rfl ?_
  refine R_aload_0 hX dX7_init_44 ?_
  refine R_bipush hX dX7_init_45 rfl ?_
  refine R_newaS hX (atype := .int) (ty := .int) (n := 12) rfl (Or.inl rfl) ac_int (by decide) ⟨by decide, by decide⟩ dX7_init_47 rfl (sh2 := RSH.take 30) (k := 29) rfl rfl ?_
  refine R_putFa (t := .int) hX (fun _ _ => rfl) hin dX7_init_49 fl_X7_28 rfl (rs := []) ⟨by decide, rfl⟩ rfl ?_
  refine R_aload_0 hX dX7_init_52 ?_
  refine R_bipush hX dX7_init_53 rfl ?_
  refine R_newaS hX (atype := .int) (ty := .int) (n := 12) rfl (Or.inl rfl) ac_int (by decide) ⟨by decide, by decide⟩ dX7_init_55 rfl (sh2 := RSH.take 31) (k := 30) rfl rfl ?_
  refine R_putFa (t := .int) hX (fun _ _ => rfl) hin dX7_init_57 fl_X7_31 rfl (rs := []) ⟨by decide, rfl⟩ rfl ?_
  refine R_aload_0 hX dX7_init_60 ?_
  refine R_bipush hX dX7_init_61 rfl ?_
  refine R_newaS hX (atype := .int) (ty := .int) (n := 12) rfl (Or.inl rfl) ac_int (by decide) ⟨by decide, by decide⟩ dX7_init_63 rfl (sh2 := RSH.take 32) (k := 31) rfl rfl ?_
  refine R_putFa (t := .int) hX (fun _ _ => rfl) hin dX7_init_65 fl_X7_34 rfl (rs := []) ⟨by decide, rfl⟩ rfl ?_
  refine R_aload_0 hX dX7_init_68 ?_
  refine R_bipush hX dX7_init_69 rfl ?_
  refine R_newaS hX (atype := .int) (ty := .int) (n := 12) rfl (Or.inl rfl) ac_int (by decide) ⟨by decide, by decide⟩ dX7_init_71 rfl (sh2 := RSH.take 33) (k := 32) rfl rfl ?_
  refine R_putFa (t := .int) hX (fun _ _ => rfl) hin dX7_init_73 fl_X7_37 rfl (rs := []) ⟨by decide, rfl⟩ rfl ?_
  refine R_aload_0 hX dX7_init_76 ?_
  refine R_bipush hX dX7_init_77 rfl ?_
  refine R_newaS hX (atype := .int) (ty := .int) (n := 12) rfl (Or.inl rfl) ac_int (by decide) ⟨by decide, by decide⟩ dX7_init_79 rfl (sh2 := RSH.take 34) (k := 33) rfl rfl ?_
  refine R_putFa (t := .int) hX (fun _ _ => rfl) hin dX7_init_81 fl_X7_40 rfl (rs := []) ⟨by decide, rfl⟩ rfl ?_
  refine R_aload_0 hX dX7_init_84 ?_
  refine R_bipush hX dX7_init_85 rfl ?_
  refine R_newaS hX (atype := .boolean) (ty := .boolean) (n := 12) rfl (Or.inr (Or.inr (Or.inl rfl))) ac_boolean (by decide) ⟨by decide, by decide⟩ dX7_init_87 rfl (sh2 := RSH.take 35) (k := 34) rfl rfl ?_
  refine R_putFa (t := .boolean) hX (fun _ _ => rfl) hin dX7_init_89 fl_X7_43 rfl (rs := []) ⟨by decide, rfl⟩ rfl ?_
  refine R_aload_0 hX dX7_init_92 ?_
  refine R_newS hX cf_1 cl_X7_47 is_X1 in_RateLimiter_Changes (by decide) ⟨by decide, by decide⟩ dX7_init_93 (sh2 := RSH.take 36) (n := 35) rfl rfl ?_
  refine R_dup hX c1_r dX7_init_96 ?_
  refine R_cN0 hX dX7_init_97 li_X7_49 mk_X1_init mc_X1_init (rs := []) ⟨by decide, rfl⟩ (i_35 (by simp only [row_s])) ⟨⟨by decide, by decide⟩, by decide, by decide, rfl, Nat.le_of_ble_eq_true rfl, rfl⟩ (fun x_97 G_97 h_97 => ?_)
  obtain ⟨p_97, q_97, r_97⟩ := h_97
  refine R_putFo hX hin dX7_init_100 fl_X7_50 rfl (rs := []) ⟨by decide, rfl⟩ rfl ?_
  refine R_aload_0 hX dX7_init_103 ?_
  refine R_bipush hX dX7_init_104 rfl ?_
  refine R_puti hX dX7_init_106 fl_X7_54 (rs := []) ⟨by decide, rfl⟩ rfl ?_
  refine R_aload_0 hX dX7_init_109 ?_
  refine R_iconst hX dX7_init_110 ?_
  refine R_puti hX dX7_init_111 fl_X7_58 (rs := []) ⟨by decide, rfl⟩ rfl ?_
  refine R_vret hX dX7_init_114 ⟨fun a h0 h1 => ?_, fun a h0 h1 => ?_, ?_⟩
  · have hc : a = 24 ∨ a = 25 ∨ a = 26 ∨ a = 27 ∨ a = 28 ∨ a = 29 ∨ a = 30 ∨ a = 31 ∨ a = 32 ∨ a = 33 ∨ a = 34 ∨ a = 35 ∨ (36 ≤ a ∧ a < 40) := by omega
    rcases hc with rfl | rfl | rfl | rfl | rfl | rfl | rfl | rfl | rfl | rfl | rfl | rfl | hc
    · simp (disch := omega) only [up_r, row_r, row_s, p_97, q_97, r_97]; rfl
    · simp (disch := omega) only [up_r, row_r, row_s, p_97, q_97, r_97]; rfl
    · simp (disch := omega) only [up_r, row_r, row_s, p_97, q_97, r_97]; rfl
    · simp (disch := omega) only [up_r, row_r, row_s, p_97, q_97, r_97]; rfl
    · simp (disch := omega) only [up_r, row_r, row_s, p_97, q_97, r_97]; rfl
    · simp (disch := omega) only [up_r, row_r, row_s, p_97, q_97, r_97]; rfl
    · simp (disch := omega) only [up_r, row_r, row_s, p_97, q_97, r_97]; rfl
    · simp (disch := omega) only [up_r, row_r, row_s, p_97, q_97, r_97]; rfl
    · simp (disch := omega) only [up_r, row_r, row_s, p_97, q_97, r_97]; rfl
    · simp (disch := omega) only [up_r, row_r, row_s, p_97, q_97, r_97]; rfl
    · simp (disch := omega) only [up_r, row_r, row_s, p_97, q_97, r_97]; rfl
    · simp (disch := omega) only [up_r, row_r, row_s, p_97, q_97, r_97]
    · simp (disch := omega) only [up_r, row_r, row_s, p_97, q_97, r_97]
  · simp (disch := omega) only [up_r, row_r, row_s, p_97, q_97, r_97]
  · funext i
    show _ = INI 23 i
    have hI : INI 23 i = (if i = 1 then 24 else if i = 2 then 25 else if i = 3 then 26 else if i = 4 then 27 else if i = 5 then 28 else if i = 6 then 29 else if i = 7 then 30 else if i = 8 then 31 else if i = 9 then 32 else if i = 10 then 33 else if i = 11 then 34 else if i = 12 then 35 else if i = 13 then 10 else if i = 14 then -1 else z0 7 i) := rfl
    rw [hI]
    by_cases y_1 : i = 1
    · rw [if_pos y_1, y_1]; simp (disch := omega) only [up_i, up_s, up_k, up_r, row_r, p_97, q_97, r_97]
    · rw [if_neg y_1]
      by_cases y_2 : i = 2
      · rw [if_pos y_2, y_2]; simp (disch := omega) only [up_i, up_s, up_k, up_r, row_r, p_97, q_97, r_97]
      · rw [if_neg y_2]
        by_cases y_3 : i = 3
        · rw [if_pos y_3, y_3]; simp (disch := omega) only [up_i, up_s, up_k, up_r, row_r, p_97, q_97, r_97]
        · rw [if_neg y_3]
          by_cases y_4 : i = 4
          · rw [if_pos y_4, y_4]; simp (disch := omega) only [up_i, up_s, up_k, up_r, row_r, p_97, q_97, r_97]
          · rw [if_neg y_4]
            by_cases y_5 : i = 5
            · rw [if_pos y_5, y_5]; simp (disch := omega) only [up_i, up_s, up_k, up_r, row_r, p_97, q_97, r_97]
            · rw [if_neg y_5]
              by_cases y_6 : i = 6
              · rw [if_pos y_6, y_6]; simp (disch := omega) only [up_i, up_s, up_k, up_r, row_r, p_97, q_97, r_97]
              · rw [if_neg y_6]
                by_cases y_7 : i = 7
                · rw [if_pos y_7, y_7]; simp (disch := omega) only [up_i, up_s, up_k, up_r, row_r, p_97, q_97, r_97]
                · rw [if_neg y_7]
                  by_cases y_8 : i = 8
                  · rw [if_pos y_8, y_8]; simp (disch := omega) only [up_i, up_s, up_k, up_r, row_r, p_97, q_97, r_97]
                  · rw [if_neg y_8]
                    by_cases y_9 : i = 9
                    · rw [if_pos y_9, y_9]; simp (disch := omega) only [up_i, up_s, up_k, up_r, row_r, p_97, q_97, r_97]
                    · rw [if_neg y_9]
                      by_cases y_10 : i = 10
                      · rw [if_pos y_10, y_10]; simp (disch := omega) only [up_i, up_s, up_k, up_r, row_r, p_97, q_97, r_97]
                      · rw [if_neg y_10]
                        by_cases y_11 : i = 11
                        · rw [if_pos y_11, y_11]; simp (disch := omega) only [up_i, up_s, up_k, up_r, row_r, p_97, q_97, r_97]
                        · rw [if_neg y_11]
                          by_cases y_12 : i = 12
                          · rw [if_pos y_12, y_12]; simp (disch := omega) only [up_i, up_s, up_k, up_r, row_r, p_97, q_97, r_97]
                          · rw [if_neg y_12]
                            by_cases y_13 : i = 13
                            · rw [if_pos y_13, y_13]; simp (disch := omega) only [up_i, up_s, up_k, up_r, row_r, p_97, q_97, r_97]
                            · rw [if_neg y_13]
                              by_cases y_14 : i = 14
                              · rw [if_pos y_14, y_14]; simp (disch := omega) only [up_i, up_s, up_k, up_r, row_r, p_97, q_97, r_97]
                              · rw [if_neg y_14]
                                (try (simp (disch := omega) only [up_i, up_s, up_k, up_r, row_r, p_97, q_97, r_97])); rw [hz]
set_option maxRecDepth 100000 in
set_option maxHeartbeats 4000000 in
theorem i_44 {V : VX} {F : Hp} (hz : F 44 = z0 0) : Ct V yX0_init cX0_init 1 none 1 20 3 36 (RSH.take 45) [vr V 44] F (RSH.take 48) 0 (fun _ F' => Ini 44 45 48 F F') := by
  refine Ct.ofI [some (vr V 44)] (by decide) rfl (by simp [lg_sl, vi_cat, vl_cat, vr_cat]) rfl (by simp [asc, lv_args, vi_cat, vl_cat, vr_cat]) (fun X hV hX hin => ?_)
  subst hV
  refine R_aload_0 hX dX0_init_0 ?_
  refine R_objInit hX (by decide) dX0_init_1 oi_X0_3 oi_i oi_c ⟨by decide, by decide, rfl, by decide⟩ ?_
  refine R_aload_0 hX dX0_init_4 ?_
  refine R_bipush hX dX0_init_5 rfl ?_
  refine R_newaS hX (atype := .int) (ty := .int) (n := 12) rfl (Or.inl rfl) ac_int (by decide) ⟨by decide, by decide⟩ dX0_init_7 rfl (sh2 := RSH.take 46) (k := 45) rfl rfl ?_
  refine R_putFa (t := .int) hX (fun _ _ => rfl) hin dX0_init_9 fl_X0_9 rfl (rs := []) ⟨by decide, rfl⟩ rfl ?_
  refine R_aload_0 hX dX0_init_12 ?_
  refine R_bipush hX dX0_init_13 rfl ?_
  refine R_newaS hX (atype := .int) (ty := .int) (n := 12) rfl (Or.inl rfl) ac_int (by decide) ⟨by decide, by decide⟩ dX0_init_15 rfl (sh2 := RSH.take 47) (k := 46) rfl rfl ?_
  refine R_putFa (t := .int) hX (fun _ _ => rfl) hin dX0_init_17 fl_X0_15 rfl (rs := []) ⟨by decide, rfl⟩ rfl ?_
  refine R_aload_0 hX dX0_init_20 ?_
  refine R_bipush hX dX0_init_21 rfl ?_
  refine R_newaS hX (atype := .int) (ty := .int) (n := 12) rfl (Or.inl rfl) ac_int (by decide) ⟨by decide, by decide⟩ dX0_init_23 rfl (sh2 := RSH.take 48) (k := 47) rfl rfl ?_
  refine R_putFa (t := .int) hX (fun _ _ => rfl) hin dX0_init_25 fl_X0_18 rfl (rs := []) ⟨by decide, rfl⟩ rfl ?_
  refine R_vret hX dX0_init_28 ⟨fun a h0 h1 => ?_, fun a h0 h1 => ?_, ?_⟩
  · have hc : a = 45 ∨ a = 46 ∨ a = 47 := by omega
    rcases hc with rfl | rfl | rfl
    · simp (disch := omega) only [up_r, row_r, row_s]; rfl
    · simp (disch := omega) only [up_r, row_r, row_s]; rfl
    · simp (disch := omega) only [up_r, row_r, row_s]; rfl
  · simp (disch := omega) only [up_r, row_r, row_s]
  · funext i
    show _ = INI 44 i
    have hI : INI 44 i = (if i = 0 then 45 else if i = 1 then 46 else if i = 2 then 47 else z0 0 i) := rfl
    rw [hI]
    by_cases y_0 : i = 0
    · rw [if_pos y_0, y_0]; simp (disch := omega) only [up_i, up_s, up_k, up_r, row_r]
    · rw [if_neg y_0]
      by_cases y_1 : i = 1
      · rw [if_pos y_1, y_1]; simp (disch := omega) only [up_i, up_s, up_k, up_r, row_r]
      · rw [if_neg y_1]
        by_cases y_2 : i = 2
        · rw [if_pos y_2, y_2]; simp (disch := omega) only [up_i, up_s, up_k, up_r, row_r]
        · rw [if_neg y_2]
          (try (simp (disch := omega) only [up_i, up_s, up_k, up_r, row_r])); rw [hz]
set_option maxRecDepth 100000 in
set_option maxHeartbeats 4000000 in
theorem i_48 {V : VX} {F : Hp} (hz : F 48 = z0 4) : Ct V yX4_init cX4_init 1 none 1 20 4 588 (RSH.take 49) [vr V 48] F (RSH.take 53) 0 (fun _ F' => Ini 48 49 53 F F') := by
  refine Ct.ofI [some (vr V 48)] (by decide) rfl (by simp [lg_sl, vi_cat, vl_cat, vr_cat]) rfl (by simp [asc, lv_args, vi_cat, vl_cat, vr_cat]) (fun X hV hX hin => ?_)
  subst hV
  refine R_aload_0 hX dX4_init_0 ?_
  refine R_objInit hX (by decide) dX4_init_1 oi_X4_3 oi_i oi_c ⟨by decide, by decide, rfl, by decide⟩ ?_
  refine R_aload_0 hX dX4_init_4 ?_
  refine R_bipush hX dX4_init_5 rfl ?_
  refine R_newaS hX (atype := .int) (ty := .int) (n := 12) rfl (Or.inl rfl) ac_int (by decide) ⟨by decide, by decide⟩ dX4_init_7 rfl (sh2 := RSH.take 50) (k := 49) rfl rfl ?_
  refine R_putFa (t := .int) hX (fun _ _ => rfl) hin dX4_init_9 fl_X4_9 rfl (rs := []) ⟨by decide, rfl⟩ rfl ?_
  refine R_aload_0 hX dX4_init_12 ?_
  refine R_sipush hX dX4_init_13 rfl ?_
  refine R_newaS hX (atype := .int) (ty := .int) (n := 192) rfl (Or.inl rfl) ac_int (by decide) ⟨by decide, by decide⟩ dX4_init_16 rfl (sh2 := RSH.take 51) (k := 50) rfl rfl ?_
  refine R_putFa (t := .int) hX (fun _ _ => rfl) hin dX4_init_18 fl_X4_15 rfl (rs := []) ⟨by decide, rfl⟩ rfl ?_
  refine R_aload_0 hX dX4_init_21 ?_
  refine R_sipush hX dX4_init_22 rfl ?_
  refine R_newaS hX (atype := .int) (ty := .int) (n := 192) rfl (Or.inl rfl) ac_int (by decide) ⟨by decide, by decide⟩ dX4_init_25 rfl (sh2 := RSH.take 52) (k := 51) rfl rfl ?_
  refine R_putFa (t := .int) hX (fun _ _ => rfl) hin dX4_init_27 fl_X4_18 rfl (rs := []) ⟨by decide, rfl⟩ rfl ?_
  refine R_aload_0 hX dX4_init_30 ?_
  refine R_sipush hX dX4_init_31 rfl ?_
  refine R_newaS hX (atype := .int) (ty := .int) (n := 192) rfl (Or.inl rfl) ac_int (by decide) ⟨by decide, by decide⟩ dX4_init_34 rfl (sh2 := RSH.take 53) (k := 52) rfl rfl ?_
  refine R_putFa (t := .int) hX (fun _ _ => rfl) hin dX4_init_36 fl_X4_21 rfl (rs := []) ⟨by decide, rfl⟩ rfl ?_
  refine R_vret hX dX4_init_39 ⟨fun a h0 h1 => ?_, fun a h0 h1 => ?_, ?_⟩
  · have hc : a = 49 ∨ a = 50 ∨ a = 51 ∨ a = 52 := by omega
    rcases hc with rfl | rfl | rfl | rfl
    · simp (disch := omega) only [up_r, row_r, row_s]; rfl
    · simp (disch := omega) only [up_r, row_r, row_s]; rfl
    · simp (disch := omega) only [up_r, row_r, row_s]; rfl
    · simp (disch := omega) only [up_r, row_r, row_s]; rfl
  · simp (disch := omega) only [up_r, row_r, row_s]
  · funext i
    show _ = INI 48 i
    have hI : INI 48 i = (if i = 0 then 49 else if i = 1 then 50 else if i = 2 then 51 else if i = 3 then 52 else z0 4 i) := rfl
    rw [hI]
    by_cases y_0 : i = 0
    · rw [if_pos y_0, y_0]; simp (disch := omega) only [up_i, up_s, up_k, up_r, row_r]
    · rw [if_neg y_0]
      by_cases y_1 : i = 1
      · rw [if_pos y_1, y_1]; simp (disch := omega) only [up_i, up_s, up_k, up_r, row_r]
      · rw [if_neg y_1]
        by_cases y_2 : i = 2
        · rw [if_pos y_2, y_2]; simp (disch := omega) only [up_i, up_s, up_k, up_r, row_r]
        · rw [if_neg y_2]
          by_cases y_3 : i = 3
          · rw [if_pos y_3, y_3]; simp (disch := omega) only [up_i, up_s, up_k, up_r, row_r]
          · rw [if_neg y_3]
            (try (simp (disch := omega) only [up_i, up_s, up_k, up_r, row_r])); rw [hz]
set_option maxRecDepth 100000 in
set_option maxHeartbeats 4000000 in
theorem i_53 {V : VX} {F : Hp} (hz : F 53 = z0 2) : Ct V yX2_init cX2_init 1 none 1 20 5 60 (RSH.take 54) [vr V 53] F (RSH.take 59) 0 (fun _ F' => Ini 53 54 59 F F') := by
  refine Ct.ofI [some (vr V 53)] (by decide) rfl (by simp [lg_sl, vi_cat, vl_cat, vr_cat]) rfl (by simp [asc, lv_args, vi_cat, vl_cat, vr_cat]) (fun X hV hX hin => ?_)
  subst hV
  refine R_aload_0 hX dX2_init_0 ?_
  refine R_objInit hX (by decide) dX2_init_1 oi_X2_3 oi_i oi_c ⟨by decide, by decide, rfl, by decide⟩ ?_
  refine R_aload_0 hX dX2_init_4 ?_
  refine R_bipush hX dX2_init_5 rfl ?_
  refine R_newaS hX (atype := .int) (ty := .int) (n := 12) rfl (Or.inl rfl) ac_int (by decide) ⟨by decide, by decide⟩ dX2_init_7 rfl (sh2 := RSH.take 55) (k := 54) rfl rfl ?_
  refine R_putFa (t := .int) hX (fun _ _ => rfl) hin dX2_init_9 fl_X2_9 rfl (rs := []) ⟨by decide, rfl⟩ rfl ?_
  refine R_aload_0 hX dX2_init_12 ?_
  refine R_bipush hX dX2_init_13 rfl ?_
  refine R_newaS hX (atype := .int) (ty := .int) (n := 12) rfl (Or.inl rfl) ac_int (by decide) ⟨by decide, by decide⟩ dX2_init_15 rfl (sh2 := RSH.take 56) (k := 55) rfl rfl ?_
  refine R_putFa (t := .int) hX (fun _ _ => rfl) hin dX2_init_17 fl_X2_15 rfl (rs := []) ⟨by decide, rfl⟩ rfl ?_
  refine R_aload_0 hX dX2_init_20 ?_
  refine R_bipush hX dX2_init_21 rfl ?_
  refine R_newaS hX (atype := .int) (ty := .int) (n := 12) rfl (Or.inl rfl) ac_int (by decide) ⟨by decide, by decide⟩ dX2_init_23 rfl (sh2 := RSH.take 57) (k := 56) rfl rfl ?_
  refine R_putFa (t := .int) hX (fun _ _ => rfl) hin dX2_init_25 fl_X2_18 rfl (rs := []) ⟨by decide, rfl⟩ rfl ?_
  refine R_aload_0 hX dX2_init_28 ?_
  refine R_bipush hX dX2_init_29 rfl ?_
  refine R_newaS hX (atype := .int) (ty := .int) (n := 12) rfl (Or.inl rfl) ac_int (by decide) ⟨by decide, by decide⟩ dX2_init_31 rfl (sh2 := RSH.take 58) (k := 57) rfl rfl ?_
  refine R_putFa (t := .int) hX (fun _ _ => rfl) hin dX2_init_33 fl_X2_21 rfl (rs := []) ⟨by decide, rfl⟩ rfl ?_
  refine R_aload_0 hX dX2_init_36 ?_
  refine R_bipush hX dX2_init_37 rfl ?_
  refine R_newaS hX (atype := .int) (ty := .int) (n := 12) rfl (Or.inl rfl) ac_int (by decide) ⟨by decide, by decide⟩ dX2_init_39 rfl (sh2 := RSH.take 59) (k := 58) rfl rfl ?_
  refine R_putFa (t := .int) hX (fun _ _ => rfl) hin dX2_init_41 fl_X2_24 rfl (rs := []) ⟨by decide, rfl⟩ rfl ?_
  refine R_vret hX dX2_init_44 ⟨fun a h0 h1 => ?_, fun a h0 h1 => ?_, ?_⟩
  · have hc : a = 54 ∨ a = 55 ∨ a = 56 ∨ a = 57 ∨ a = 58 := by omega
    rcases hc with rfl | rfl | rfl | rfl | rfl
    · simp (disch := omega) only [up_r, row_r, row_s]; rfl
    · simp (disch := omega) only [up_r, row_r, row_s]; rfl
    · simp (disch := omega) only [up_r, row_r, row_s]; rfl
    · simp (disch := omega) only [up_r, row_r, row_s]; rfl
    · simp (disch := omega) only [up_r, row_r, row_s]; rfl
  · simp (disch := omega) only [up_r, row_r, row_s]
  · funext i
    show _ = INI 53 i
    have hI : INI 53 i = (if i = 0 then 54 else if i = 1 then 55 else if i = 2 then 56 else if i = 3 then 57 else if i = 4 then 58 else z0 2 i) := rfl
    rw [hI]
    by_cases y_0 : i = 0
    · rw [if_pos y_0, y_0]; simp (disch := omega) only [up_i, up_s, up_k, up_r, row_r]
    · rw [if_neg y_0]
      by_cases y_1 : i = 1
      · rw [if_pos y_1, y_1]; simp (disch := omega) only [up_i, up_s, up_k, up_r, row_r]
      · rw [if_neg y_1]
        by_cases y_2 : i = 2
        · rw [if_pos y_2, y_2]; simp (disch := omega) only [up_i, up_s, up_k, up_r, row_r]
        · rw [if_neg y_2]
          by_cases y_3 : i = 3
          · rw [if_pos y_3, y_3]; simp (disch := omega) only [up_i, up_s, up_k, up_r, row_r]
          · rw [if_neg y_3]
            by_cases y_4 : i = 4
            · rw [if_pos y_4, y_4]; simp (disch := omega) only [up_i, up_s, up_k, up_r, row_r]
            · rw [if_neg y_4]
              (try (simp (disch := omega) only [up_i, up_s, up_k, up_r, row_r])); rw [hz]
set_option maxRecDepth 100000 in
set_option maxHeartbeats 4000000 in
theorem i_59 {V : VX} {F : Hp} (hz : F 59 = z0 3) : Ct V yX3_init cX3_init 1 none 1 20 4 96 (RSH.take 60) [vr V 59] F (RSH.take 64) 0 (fun _ F' => Ini 59 60 64 F F') := by
  refine Ct.ofI [some (vr V 59)] (by decide) rfl (by simp [lg_sl, vi_cat, vl_cat, vr_cat]) rfl (by simp [asc, lv_args, vi_cat, vl_cat, vr_cat]) (fun X hV hX hin => ?_)
  subst hV
  refine R_aload_0 hX dX3_init_0 ?_
  refine R_objInit hX (by decide) dX3_init_1 oi_X3_3 oi_i oi_c ⟨by decide, by decide, rfl, by decide⟩ ?_
  refine R_aload_0 hX dX3_init_4 ?_
  refine R_bipush hX dX3_init_5 rfl ?_
  refine R_newaS hX (atype := .int) (ty := .int) (n := 24) rfl (Or.inl rfl) ac_int (by decide) ⟨by decide, by decide⟩ dX3_init_7 rfl (sh2 := RSH.take 61) (k := 60) rfl rfl ?_
  refine R_putFa (t := .int) hX (fun _ _ => rfl) hin dX3_init_9 fl_X3_9 rfl (rs := []) ⟨by decide, rfl⟩ rfl ?_
  refine R_aload_0 hX dX3_init_12 ?_
  refine R_bipush hX dX3_init_13 rfl ?_
  refine R_newaS hX (atype := .int) (ty := .int) (n := 24) rfl (Or.inl rfl) ac_int (by decide) ⟨by decide, by decide⟩ dX3_init_15 rfl (sh2 := RSH.take 62) (k := 61) rfl rfl ?_
  refine R_putFa (t := .int) hX (fun _ _ => rfl) hin dX3_init_17 fl_X3_15 rfl (rs := []) ⟨by decide, rfl⟩ rfl ?_
  refine R_aload_0 hX dX3_init_20 ?_
  refine R_bipush hX dX3_init_21 rfl ?_
  refine R_newaS hX (atype := .int) (ty := .int) (n := 24) rfl (Or.inl rfl) ac_int (by decide) ⟨by decide, by decide⟩ dX3_init_23 rfl (sh2 := RSH.take 63) (k := 62) rfl rfl ?_
  refine R_putFa (t := .int) hX (fun _ _ => rfl) hin dX3_init_25 fl_X3_18 rfl (rs := []) ⟨by decide, rfl⟩ rfl ?_
  refine R_aload_0 hX dX3_init_28 ?_
  refine R_bipush hX dX3_init_29 rfl ?_
  refine R_newaS hX (atype := .int) (ty := .int) (n := 24) rfl (Or.inl rfl) ac_int (by decide) ⟨by decide, by decide⟩ dX3_init_31 rfl (sh2 := RSH.take 64) (k := 63) rfl rfl ?_
  refine R_putFa (t := .int) hX (fun _ _ => rfl) hin dX3_init_33 fl_X3_21 rfl (rs := []) ⟨by decide, rfl⟩ rfl ?_
  refine R_vret hX dX3_init_36 ⟨fun a h0 h1 => ?_, fun a h0 h1 => ?_, ?_⟩
  · have hc : a = 60 ∨ a = 61 ∨ a = 62 ∨ a = 63 := by omega
    rcases hc with rfl | rfl | rfl | rfl
    · simp (disch := omega) only [up_r, row_r, row_s]; rfl
    · simp (disch := omega) only [up_r, row_r, row_s]; rfl
    · simp (disch := omega) only [up_r, row_r, row_s]; rfl
    · simp (disch := omega) only [up_r, row_r, row_s]; rfl
  · simp (disch := omega) only [up_r, row_r, row_s]
  · funext i
    show _ = INI 59 i
    have hI : INI 59 i = (if i = 1 then 60 else if i = 2 then 61 else if i = 3 then 62 else if i = 4 then 63 else z0 3 i) := rfl
    rw [hI]
    by_cases y_1 : i = 1
    · rw [if_pos y_1, y_1]; simp (disch := omega) only [up_i, up_s, up_k, up_r, row_r]
    · rw [if_neg y_1]
      by_cases y_2 : i = 2
      · rw [if_pos y_2, y_2]; simp (disch := omega) only [up_i, up_s, up_k, up_r, row_r]
      · rw [if_neg y_2]
        by_cases y_3 : i = 3
        · rw [if_pos y_3, y_3]; simp (disch := omega) only [up_i, up_s, up_k, up_r, row_r]
        · rw [if_neg y_3]
          by_cases y_4 : i = 4
          · rw [if_pos y_4, y_4]; simp (disch := omega) only [up_i, up_s, up_k, up_r, row_r]
          · rw [if_neg y_4]
            (try (simp (disch := omega) only [up_i, up_s, up_k, up_r, row_r])); rw [hz]
set_option maxRecDepth 100000 in
set_option maxHeartbeats 4000000 in
theorem i_40 {V : VX} {F : Hp} (hz : F 40 = z0 8) : Ct V yX8_init cX8_init 1 none 2 40 23 834 (RSH.take 41) [vr V 40] F (RSH.take 64) 0 (fun _ F' => Ini 40 41 64 F F') := by
  refine Ct.ofI [some (vr V 40)] (by decide) rfl (by simp [lg_sl, vi_cat, vl_cat, vr_cat]) rfl (by simp [asc, lv_args, vi_cat, vl_cat, vr_cat]) (fun X hV hX hin => ?_)
  subst hV
  refine R_aload_0 hX dX8_init_0 ?_
  refine R_objInit hX (by decide) dX8_init_1 oi_X8_3 oi_i oi_c ⟨by decide, by decide, rfl, by decide⟩ ?_
  refine R_aload_0 hX dX8_init_4 ?_
  refine R_bipush hX dX8_init_5 rfl ?_
  refine R_newaS hX (atype := .int) (ty := .int) (n := 12) rfl (Or.inl rfl) ac_int (by decide) ⟨by decide, by decide⟩ dX8_init_7 rfl (sh2 := RSH.take 42) (k := 41) rfl rfl ?_
  refine R_putFa (t := .int) hX (fun _ _ => rfl) hin dX8_init_9 fl_X8_9 rfl (rs := []) ⟨by decide, rfl⟩ rfl ?_
  refine R_aload_0 hX dX8_init_12 ?_
  refine R_bipush hX dX8_init_13 rfl ?_
  refine R_newaS hX (atype := .int) (ty := .int) (n := 12) rfl (Or.inl rfl) ac_int (by decide) ⟨by decide, by decide⟩ dX8_init_15 rfl (sh2 := RSH.take 43) (k := 42) rfl rfl ?_
  refine R_putFa (t := .int) hX (fun _ _ => rfl) hin dX8_init_17 fl_X8_15 rfl (rs := []) ⟨by decide, rfl⟩ rfl ?_
  refine R_aload_0 hX dX8_init_20 ?_
  refine R_bipush hX dX8_init_21 rfl ?_
  refine R_newaS hX (atype := .int) (ty := .int) (n := 12) rfl (Or.inl rfl) ac_int (by decide) ⟨by decide, by decide⟩ dX8_init_23 rfl (sh2 := RSH.take 44) (k := 43) rfl rfl ?_
  refine R_putFa (t := .int) hX (fun _ _ => rfl) hin dX8_init_25 fl_X8_18 rfl (rs := []) ⟨by decide, rfl⟩ rfl ?_
  refine R_aload_0 hX dX8_init_28 ?_
  refine R_newS hX cf_0 cl_X8_21 is_X0 in_RateLimiter_Accounts (by decide) ⟨by decide, by decide⟩ dX8_init_29 (sh2 := RSH.take 45) (n := 44) rfl rfl ?_
  refine R_dup hX c1_r dX8_init_32 ?_
  refine R_cN0 hX dX8_init_33 li_X8_23 mk_X0_init mc_X0_init (rs := []) ⟨by decide, rfl⟩ (i_44 (by simp only [row_s])) ⟨⟨by decide, by decide⟩, by decide, by decide, rfl, Nat.le_of_ble_eq_true rfl, rfl⟩ (fun x_33 G_33 h_33 => ?_)
  obtain ⟨p_33, q_33, r_33⟩ := h_33
  refine R_putFo hX hin dX8_init_36 fl_X8_24 rfl (rs := []) ⟨by decide, rfl⟩ rfl ?_
  refine R_aload_0 hX dX8_init_39 ?_
  refine R_newS hX cf_4 cl_X8_28 is_X4 in_RateLimiter_Queues (by decide) ⟨by decide, by decide⟩ dX8_init_40 (sh2 := RSH.take 49) (n := 48) rfl rfl ?_
  refine R_dup hX c1_r dX8_init_43 ?_
  refine R_cN0 hX dX8_init_44 li_X8_30 mk_X4_init mc_X4_init (rs := []) ⟨by decide, rfl⟩ (i_48 (by simp only [row_s])) ⟨⟨by decide, by decide⟩, by decide, by decide, rfl, Nat.le_of_ble_eq_true rfl, rfl⟩ (fun x_44 G_44 h_44 => ?_)
  obtain ⟨p_44, q_44, r_44⟩ := h_44
  refine R_putFo hX hin dX8_init_47 fl_X8_31 rfl (rs := []) ⟨by decide, rfl⟩ rfl ?_
  refine R_aload_0 hX dX8_init_50 ?_
  refine R_newS hX cf_2 cl_X8_35 is_X2 in_RateLimiter_Counts (by decide) ⟨by decide, by decide⟩ dX8_init_51 (sh2 := RSH.take 54) (n := 53) rfl rfl ?_
  refine R_dup hX c1_r dX8_init_54 ?_
  refine R_cN0 hX dX8_init_55 li_X8_37 mk_X2_init mc_X2_init (rs := []) ⟨by decide, rfl⟩ (i_53 (by simp only [row_s])) ⟨⟨by decide, by decide⟩, by decide, by decide, rfl, Nat.le_of_ble_eq_true rfl, rfl⟩ (fun x_55 G_55 h_55 => ?_)
  obtain ⟨p_55, q_55, r_55⟩ := h_55
  refine R_putFo hX hin dX8_init_58 fl_X8_38 rfl (rs := []) ⟨by decide, rfl⟩ rfl ?_
  refine R_aload_0 hX dX8_init_61 ?_
  refine R_newS hX cf_3 cl_X8_42 is_X3 in_RateLimiter_Log (by decide) ⟨by decide, by decide⟩ dX8_init_62 (sh2 := RSH.take 60) (n := 59) rfl rfl ?_
  refine R_dup hX c1_r dX8_init_65 ?_
  refine R_cN0 hX dX8_init_66 li_X8_44 mk_X3_init mc_X3_init (rs := []) ⟨by decide, rfl⟩ (i_59 (by simp only [row_s])) ⟨⟨by decide, by decide⟩, by decide, by decide, rfl, Nat.le_of_ble_eq_true rfl, rfl⟩ (fun x_66 G_66 h_66 => ?_)
  obtain ⟨p_66, q_66, r_66⟩ := h_66
  refine R_putFo hX hin dX8_init_69 fl_X8_45 rfl (rs := []) ⟨by decide, rfl⟩ rfl ?_
  refine R_vret hX dX8_init_72 ⟨fun a h0 h1 => ?_, fun a h0 h1 => ?_, ?_⟩
  · have hc : a = 41 ∨ a = 42 ∨ a = 43 ∨ a = 44 ∨ (45 ≤ a ∧ a < 48) ∨ a = 48 ∨ (49 ≤ a ∧ a < 53) ∨ a = 53 ∨ (54 ≤ a ∧ a < 59) ∨ a = 59 ∨ (60 ≤ a ∧ a < 64) := by omega
    rcases hc with rfl | rfl | rfl | rfl | hc | rfl | hc | rfl | hc | rfl | hc
    · simp (disch := omega) only [up_r, row_r, row_s, p_33, p_44, p_55, p_66, q_33, q_44, q_55, q_66, r_33, r_44, r_55, r_66]; rfl
    · simp (disch := omega) only [up_r, row_r, row_s, p_33, p_44, p_55, p_66, q_33, q_44, q_55, q_66, r_33, r_44, r_55, r_66]; rfl
    · simp (disch := omega) only [up_r, row_r, row_s, p_33, p_44, p_55, p_66, q_33, q_44, q_55, q_66, r_33, r_44, r_55, r_66]; rfl
    · simp (disch := omega) only [up_r, row_r, row_s, p_33, p_44, p_55, p_66, q_33, q_44, q_55, q_66, r_33, r_44, r_55, r_66]
    · simp (disch := omega) only [up_r, row_r, row_s, p_33, p_44, p_55, p_66, q_33, q_44, q_55, q_66, r_33, r_44, r_55, r_66]
    · simp (disch := omega) only [up_r, row_r, row_s, p_33, p_44, p_55, p_66, q_33, q_44, q_55, q_66, r_33, r_44, r_55, r_66]
    · simp (disch := omega) only [up_r, row_r, row_s, p_33, p_44, p_55, p_66, q_33, q_44, q_55, q_66, r_33, r_44, r_55, r_66]
    · simp (disch := omega) only [up_r, row_r, row_s, p_33, p_44, p_55, p_66, q_33, q_44, q_55, q_66, r_33, r_44, r_55, r_66]
    · simp (disch := omega) only [up_r, row_r, row_s, p_33, p_44, p_55, p_66, q_33, q_44, q_55, q_66, r_33, r_44, r_55, r_66]
    · simp (disch := omega) only [up_r, row_r, row_s, p_33, p_44, p_55, p_66, q_33, q_44, q_55, q_66, r_33, r_44, r_55, r_66]
    · simp (disch := omega) only [up_r, row_r, row_s, p_33, p_44, p_55, p_66, q_33, q_44, q_55, q_66, r_33, r_44, r_55, r_66]
  · simp (disch := omega) only [up_r, row_r, row_s, p_33, p_44, p_55, p_66, q_33, q_44, q_55, q_66, r_33, r_44, r_55, r_66]
  · funext i
    show _ = INI 40 i
    have hI : INI 40 i = (if i = 2 then 41 else if i = 3 then 42 else if i = 4 then 43 else if i = 5 then 44 else if i = 6 then 48 else if i = 7 then 53 else if i = 8 then 59 else z0 8 i) := rfl
    rw [hI]
    by_cases y_2 : i = 2
    · rw [if_pos y_2, y_2]; simp (disch := omega) only [up_i, up_s, up_k, up_r, row_r, p_33, p_44, p_55, p_66, q_33, q_44, q_55, q_66, r_33, r_44, r_55, r_66]
    · rw [if_neg y_2]
      by_cases y_3 : i = 3
      · rw [if_pos y_3, y_3]; simp (disch := omega) only [up_i, up_s, up_k, up_r, row_r, p_33, p_44, p_55, p_66, q_33, q_44, q_55, q_66, r_33, r_44, r_55, r_66]
      · rw [if_neg y_3]
        by_cases y_4 : i = 4
        · rw [if_pos y_4, y_4]; simp (disch := omega) only [up_i, up_s, up_k, up_r, row_r, p_33, p_44, p_55, p_66, q_33, q_44, q_55, q_66, r_33, r_44, r_55, r_66]
        · rw [if_neg y_4]
          by_cases y_5 : i = 5
          · rw [if_pos y_5, y_5]; simp (disch := omega) only [up_i, up_s, up_k, up_r, row_r, p_33, p_44, p_55, p_66, q_33, q_44, q_55, q_66, r_33, r_44, r_55, r_66]
          · rw [if_neg y_5]
            by_cases y_6 : i = 6
            · rw [if_pos y_6, y_6]; simp (disch := omega) only [up_i, up_s, up_k, up_r, row_r, p_33, p_44, p_55, p_66, q_33, q_44, q_55, q_66, r_33, r_44, r_55, r_66]
            · rw [if_neg y_6]
              by_cases y_7 : i = 7
              · rw [if_pos y_7, y_7]; simp (disch := omega) only [up_i, up_s, up_k, up_r, row_r, p_33, p_44, p_55, p_66, q_33, q_44, q_55, q_66, r_33, r_44, r_55, r_66]
              · rw [if_neg y_7]
                by_cases y_8 : i = 8
                · rw [if_pos y_8, y_8]; simp (disch := omega) only [up_i, up_s, up_k, up_r, row_r, p_33, p_44, p_55, p_66, q_33, q_44, q_55, q_66, r_33, r_44, r_55, r_66]
                · rw [if_neg y_8]
                  (try (simp (disch := omega) only [up_i, up_s, up_k, up_r, row_r, p_33, p_44, p_55, p_66, q_33, q_44, q_55, q_66, r_33, r_44, r_55, r_66])); rw [hz]
set_option maxRecDepth 100000 in
set_option maxHeartbeats 4000000 in
theorem i_68 {V : VX} {F : Hp} (hz : F 68 = z0 0) : Ct V yX0_init cX0_init 1 none 1 20 3 36 (RSH.take 69) [vr V 68] F (RSH.take 72) 0 (fun _ F' => Ini 68 69 72 F F') := by
  refine Ct.ofI [some (vr V 68)] (by decide) rfl (by simp [lg_sl, vi_cat, vl_cat, vr_cat]) rfl (by simp [asc, lv_args, vi_cat, vl_cat, vr_cat]) (fun X hV hX hin => ?_)
  subst hV
  refine R_aload_0 hX dX0_init_0 ?_
  refine R_objInit hX (by decide) dX0_init_1 oi_X0_3 oi_i oi_c ⟨by decide, by decide, rfl, by decide⟩ ?_
  refine R_aload_0 hX dX0_init_4 ?_
  refine R_bipush hX dX0_init_5 rfl ?_
  refine R_newaS hX (atype := .int) (ty := .int) (n := 12) rfl (Or.inl rfl) ac_int (by decide) ⟨by decide, by decide⟩ dX0_init_7 rfl (sh2 := RSH.take 70) (k := 69) rfl rfl ?_
  refine R_putFa (t := .int) hX (fun _ _ => rfl) hin dX0_init_9 fl_X0_9 rfl (rs := []) ⟨by decide, rfl⟩ rfl ?_
  refine R_aload_0 hX dX0_init_12 ?_
  refine R_bipush hX dX0_init_13 rfl ?_
  refine R_newaS hX (atype := .int) (ty := .int) (n := 12) rfl (Or.inl rfl) ac_int (by decide) ⟨by decide, by decide⟩ dX0_init_15 rfl (sh2 := RSH.take 71) (k := 70) rfl rfl ?_
  refine R_putFa (t := .int) hX (fun _ _ => rfl) hin dX0_init_17 fl_X0_15 rfl (rs := []) ⟨by decide, rfl⟩ rfl ?_
  refine R_aload_0 hX dX0_init_20 ?_
  refine R_bipush hX dX0_init_21 rfl ?_
  refine R_newaS hX (atype := .int) (ty := .int) (n := 12) rfl (Or.inl rfl) ac_int (by decide) ⟨by decide, by decide⟩ dX0_init_23 rfl (sh2 := RSH.take 72) (k := 71) rfl rfl ?_
  refine R_putFa (t := .int) hX (fun _ _ => rfl) hin dX0_init_25 fl_X0_18 rfl (rs := []) ⟨by decide, rfl⟩ rfl ?_
  refine R_vret hX dX0_init_28 ⟨fun a h0 h1 => ?_, fun a h0 h1 => ?_, ?_⟩
  · have hc : a = 69 ∨ a = 70 ∨ a = 71 := by omega
    rcases hc with rfl | rfl | rfl
    · simp (disch := omega) only [up_r, row_r, row_s]; rfl
    · simp (disch := omega) only [up_r, row_r, row_s]; rfl
    · simp (disch := omega) only [up_r, row_r, row_s]; rfl
  · simp (disch := omega) only [up_r, row_r, row_s]
  · funext i
    show _ = INI 68 i
    have hI : INI 68 i = (if i = 0 then 69 else if i = 1 then 70 else if i = 2 then 71 else z0 0 i) := rfl
    rw [hI]
    by_cases y_0 : i = 0
    · rw [if_pos y_0, y_0]; simp (disch := omega) only [up_i, up_s, up_k, up_r, row_r]
    · rw [if_neg y_0]
      by_cases y_1 : i = 1
      · rw [if_pos y_1, y_1]; simp (disch := omega) only [up_i, up_s, up_k, up_r, row_r]
      · rw [if_neg y_1]
        by_cases y_2 : i = 2
        · rw [if_pos y_2, y_2]; simp (disch := omega) only [up_i, up_s, up_k, up_r, row_r]
        · rw [if_neg y_2]
          (try (simp (disch := omega) only [up_i, up_s, up_k, up_r, row_r])); rw [hz]
set_option maxRecDepth 100000 in
set_option maxHeartbeats 4000000 in
theorem i_72 {V : VX} {F : Hp} (hz : F 72 = z0 4) : Ct V yX4_init cX4_init 1 none 1 20 4 588 (RSH.take 73) [vr V 72] F (RSH.take 77) 0 (fun _ F' => Ini 72 73 77 F F') := by
  refine Ct.ofI [some (vr V 72)] (by decide) rfl (by simp [lg_sl, vi_cat, vl_cat, vr_cat]) rfl (by simp [asc, lv_args, vi_cat, vl_cat, vr_cat]) (fun X hV hX hin => ?_)
  subst hV
  refine R_aload_0 hX dX4_init_0 ?_
  refine R_objInit hX (by decide) dX4_init_1 oi_X4_3 oi_i oi_c ⟨by decide, by decide, rfl, by decide⟩ ?_
  refine R_aload_0 hX dX4_init_4 ?_
  refine R_bipush hX dX4_init_5 rfl ?_
  refine R_newaS hX (atype := .int) (ty := .int) (n := 12) rfl (Or.inl rfl) ac_int (by decide) ⟨by decide, by decide⟩ dX4_init_7 rfl (sh2 := RSH.take 74) (k := 73) rfl rfl ?_
  refine R_putFa (t := .int) hX (fun _ _ => rfl) hin dX4_init_9 fl_X4_9 rfl (rs := []) ⟨by decide, rfl⟩ rfl ?_
  refine R_aload_0 hX dX4_init_12 ?_
  refine R_sipush hX dX4_init_13 rfl ?_
  refine R_newaS hX (atype := .int) (ty := .int) (n := 192) rfl (Or.inl rfl) ac_int (by decide) ⟨by decide, by decide⟩ dX4_init_16 rfl (sh2 := RSH.take 75) (k := 74) rfl rfl ?_
  refine R_putFa (t := .int) hX (fun _ _ => rfl) hin dX4_init_18 fl_X4_15 rfl (rs := []) ⟨by decide, rfl⟩ rfl ?_
  refine R_aload_0 hX dX4_init_21 ?_
  refine R_sipush hX dX4_init_22 rfl ?_
  refine R_newaS hX (atype := .int) (ty := .int) (n := 192) rfl (Or.inl rfl) ac_int (by decide) ⟨by decide, by decide⟩ dX4_init_25 rfl (sh2 := RSH.take 76) (k := 75) rfl rfl ?_
  refine R_putFa (t := .int) hX (fun _ _ => rfl) hin dX4_init_27 fl_X4_18 rfl (rs := []) ⟨by decide, rfl⟩ rfl ?_
  refine R_aload_0 hX dX4_init_30 ?_
  refine R_sipush hX dX4_init_31 rfl ?_
  refine R_newaS hX (atype := .int) (ty := .int) (n := 192) rfl (Or.inl rfl) ac_int (by decide) ⟨by decide, by decide⟩ dX4_init_34 rfl (sh2 := RSH.take 77) (k := 76) rfl rfl ?_
  refine R_putFa (t := .int) hX (fun _ _ => rfl) hin dX4_init_36 fl_X4_21 rfl (rs := []) ⟨by decide, rfl⟩ rfl ?_
  refine R_vret hX dX4_init_39 ⟨fun a h0 h1 => ?_, fun a h0 h1 => ?_, ?_⟩
  · have hc : a = 73 ∨ a = 74 ∨ a = 75 ∨ a = 76 := by omega
    rcases hc with rfl | rfl | rfl | rfl
    · simp (disch := omega) only [up_r, row_r, row_s]; rfl
    · simp (disch := omega) only [up_r, row_r, row_s]; rfl
    · simp (disch := omega) only [up_r, row_r, row_s]; rfl
    · simp (disch := omega) only [up_r, row_r, row_s]; rfl
  · simp (disch := omega) only [up_r, row_r, row_s]
  · funext i
    show _ = INI 72 i
    have hI : INI 72 i = (if i = 0 then 73 else if i = 1 then 74 else if i = 2 then 75 else if i = 3 then 76 else z0 4 i) := rfl
    rw [hI]
    by_cases y_0 : i = 0
    · rw [if_pos y_0, y_0]; simp (disch := omega) only [up_i, up_s, up_k, up_r, row_r]
    · rw [if_neg y_0]
      by_cases y_1 : i = 1
      · rw [if_pos y_1, y_1]; simp (disch := omega) only [up_i, up_s, up_k, up_r, row_r]
      · rw [if_neg y_1]
        by_cases y_2 : i = 2
        · rw [if_pos y_2, y_2]; simp (disch := omega) only [up_i, up_s, up_k, up_r, row_r]
        · rw [if_neg y_2]
          by_cases y_3 : i = 3
          · rw [if_pos y_3, y_3]; simp (disch := omega) only [up_i, up_s, up_k, up_r, row_r]
          · rw [if_neg y_3]
            (try (simp (disch := omega) only [up_i, up_s, up_k, up_r, row_r])); rw [hz]
set_option maxRecDepth 100000 in
set_option maxHeartbeats 4000000 in
theorem i_77 {V : VX} {F : Hp} (hz : F 77 = z0 2) : Ct V yX2_init cX2_init 1 none 1 20 5 60 (RSH.take 78) [vr V 77] F (RSH.take 83) 0 (fun _ F' => Ini 77 78 83 F F') := by
  refine Ct.ofI [some (vr V 77)] (by decide) rfl (by simp [lg_sl, vi_cat, vl_cat, vr_cat]) rfl (by simp [asc, lv_args, vi_cat, vl_cat, vr_cat]) (fun X hV hX hin => ?_)
  subst hV
  refine R_aload_0 hX dX2_init_0 ?_
  refine R_objInit hX (by decide) dX2_init_1 oi_X2_3 oi_i oi_c ⟨by decide, by decide, rfl, by decide⟩ ?_
  refine R_aload_0 hX dX2_init_4 ?_
  refine R_bipush hX dX2_init_5 rfl ?_
  refine R_newaS hX (atype := .int) (ty := .int) (n := 12) rfl (Or.inl rfl) ac_int (by decide) ⟨by decide, by decide⟩ dX2_init_7 rfl (sh2 := RSH.take 79) (k := 78) rfl rfl ?_
  refine R_putFa (t := .int) hX (fun _ _ => rfl) hin dX2_init_9 fl_X2_9 rfl (rs := []) ⟨by decide, rfl⟩ rfl ?_
  refine R_aload_0 hX dX2_init_12 ?_
  refine R_bipush hX dX2_init_13 rfl ?_
  refine R_newaS hX (atype := .int) (ty := .int) (n := 12) rfl (Or.inl rfl) ac_int (by decide) ⟨by decide, by decide⟩ dX2_init_15 rfl (sh2 := RSH.take 80) (k := 79) rfl rfl ?_
  refine R_putFa (t := .int) hX (fun _ _ => rfl) hin dX2_init_17 fl_X2_15 rfl (rs := []) ⟨by decide, rfl⟩ rfl ?_
  refine R_aload_0 hX dX2_init_20 ?_
  refine R_bipush hX dX2_init_21 rfl ?_
  refine R_newaS hX (atype := .int) (ty := .int) (n := 12) rfl (Or.inl rfl) ac_int (by decide) ⟨by decide, by decide⟩ dX2_init_23 rfl (sh2 := RSH.take 81) (k := 80) rfl rfl ?_
  refine R_putFa (t := .int) hX (fun _ _ => rfl) hin dX2_init_25 fl_X2_18 rfl (rs := []) ⟨by decide, rfl⟩ rfl ?_
  refine R_aload_0 hX dX2_init_28 ?_
  refine R_bipush hX dX2_init_29 rfl ?_
  refine R_newaS hX (atype := .int) (ty := .int) (n := 12) rfl (Or.inl rfl) ac_int (by decide) ⟨by decide, by decide⟩ dX2_init_31 rfl (sh2 := RSH.take 82) (k := 81) rfl rfl ?_
  refine R_putFa (t := .int) hX (fun _ _ => rfl) hin dX2_init_33 fl_X2_21 rfl (rs := []) ⟨by decide, rfl⟩ rfl ?_
  refine R_aload_0 hX dX2_init_36 ?_
  refine R_bipush hX dX2_init_37 rfl ?_
  refine R_newaS hX (atype := .int) (ty := .int) (n := 12) rfl (Or.inl rfl) ac_int (by decide) ⟨by decide, by decide⟩ dX2_init_39 rfl (sh2 := RSH.take 83) (k := 82) rfl rfl ?_
  refine R_putFa (t := .int) hX (fun _ _ => rfl) hin dX2_init_41 fl_X2_24 rfl (rs := []) ⟨by decide, rfl⟩ rfl ?_
  refine R_vret hX dX2_init_44 ⟨fun a h0 h1 => ?_, fun a h0 h1 => ?_, ?_⟩
  · have hc : a = 78 ∨ a = 79 ∨ a = 80 ∨ a = 81 ∨ a = 82 := by omega
    rcases hc with rfl | rfl | rfl | rfl | rfl
    · simp (disch := omega) only [up_r, row_r, row_s]; rfl
    · simp (disch := omega) only [up_r, row_r, row_s]; rfl
    · simp (disch := omega) only [up_r, row_r, row_s]; rfl
    · simp (disch := omega) only [up_r, row_r, row_s]; rfl
    · simp (disch := omega) only [up_r, row_r, row_s]; rfl
  · simp (disch := omega) only [up_r, row_r, row_s]
  · funext i
    show _ = INI 77 i
    have hI : INI 77 i = (if i = 0 then 78 else if i = 1 then 79 else if i = 2 then 80 else if i = 3 then 81 else if i = 4 then 82 else z0 2 i) := rfl
    rw [hI]
    by_cases y_0 : i = 0
    · rw [if_pos y_0, y_0]; simp (disch := omega) only [up_i, up_s, up_k, up_r, row_r]
    · rw [if_neg y_0]
      by_cases y_1 : i = 1
      · rw [if_pos y_1, y_1]; simp (disch := omega) only [up_i, up_s, up_k, up_r, row_r]
      · rw [if_neg y_1]
        by_cases y_2 : i = 2
        · rw [if_pos y_2, y_2]; simp (disch := omega) only [up_i, up_s, up_k, up_r, row_r]
        · rw [if_neg y_2]
          by_cases y_3 : i = 3
          · rw [if_pos y_3, y_3]; simp (disch := omega) only [up_i, up_s, up_k, up_r, row_r]
          · rw [if_neg y_3]
            by_cases y_4 : i = 4
            · rw [if_pos y_4, y_4]; simp (disch := omega) only [up_i, up_s, up_k, up_r, row_r]
            · rw [if_neg y_4]
              (try (simp (disch := omega) only [up_i, up_s, up_k, up_r, row_r])); rw [hz]
set_option maxRecDepth 100000 in
set_option maxHeartbeats 4000000 in
theorem i_83 {V : VX} {F : Hp} (hz : F 83 = z0 3) : Ct V yX3_init cX3_init 1 none 1 20 4 96 (RSH.take 84) [vr V 83] F (RSH.take 88) 0 (fun _ F' => Ini 83 84 88 F F') := by
  refine Ct.ofI [some (vr V 83)] (by decide) rfl (by simp [lg_sl, vi_cat, vl_cat, vr_cat]) rfl (by simp [asc, lv_args, vi_cat, vl_cat, vr_cat]) (fun X hV hX hin => ?_)
  subst hV
  refine R_aload_0 hX dX3_init_0 ?_
  refine R_objInit hX (by decide) dX3_init_1 oi_X3_3 oi_i oi_c ⟨by decide, by decide, rfl, by decide⟩ ?_
  refine R_aload_0 hX dX3_init_4 ?_
  refine R_bipush hX dX3_init_5 rfl ?_
  refine R_newaS hX (atype := .int) (ty := .int) (n := 24) rfl (Or.inl rfl) ac_int (by decide) ⟨by decide, by decide⟩ dX3_init_7 rfl (sh2 := RSH.take 85) (k := 84) rfl rfl ?_
  refine R_putFa (t := .int) hX (fun _ _ => rfl) hin dX3_init_9 fl_X3_9 rfl (rs := []) ⟨by decide, rfl⟩ rfl ?_
  refine R_aload_0 hX dX3_init_12 ?_
  refine R_bipush hX dX3_init_13 rfl ?_
  refine R_newaS hX (atype := .int) (ty := .int) (n := 24) rfl (Or.inl rfl) ac_int (by decide) ⟨by decide, by decide⟩ dX3_init_15 rfl (sh2 := RSH.take 86) (k := 85) rfl rfl ?_
  refine R_putFa (t := .int) hX (fun _ _ => rfl) hin dX3_init_17 fl_X3_15 rfl (rs := []) ⟨by decide, rfl⟩ rfl ?_
  refine R_aload_0 hX dX3_init_20 ?_
  refine R_bipush hX dX3_init_21 rfl ?_
  refine R_newaS hX (atype := .int) (ty := .int) (n := 24) rfl (Or.inl rfl) ac_int (by decide) ⟨by decide, by decide⟩ dX3_init_23 rfl (sh2 := RSH.take 87) (k := 86) rfl rfl ?_
  refine R_putFa (t := .int) hX (fun _ _ => rfl) hin dX3_init_25 fl_X3_18 rfl (rs := []) ⟨by decide, rfl⟩ rfl ?_
  refine R_aload_0 hX dX3_init_28 ?_
  refine R_bipush hX dX3_init_29 rfl ?_
  refine R_newaS hX (atype := .int) (ty := .int) (n := 24) rfl (Or.inl rfl) ac_int (by decide) ⟨by decide, by decide⟩ dX3_init_31 rfl (sh2 := RSH.take 88) (k := 87) rfl rfl ?_
  refine R_putFa (t := .int) hX (fun _ _ => rfl) hin dX3_init_33 fl_X3_21 rfl (rs := []) ⟨by decide, rfl⟩ rfl ?_
  refine R_vret hX dX3_init_36 ⟨fun a h0 h1 => ?_, fun a h0 h1 => ?_, ?_⟩
  · have hc : a = 84 ∨ a = 85 ∨ a = 86 ∨ a = 87 := by omega
    rcases hc with rfl | rfl | rfl | rfl
    · simp (disch := omega) only [up_r, row_r, row_s]; rfl
    · simp (disch := omega) only [up_r, row_r, row_s]; rfl
    · simp (disch := omega) only [up_r, row_r, row_s]; rfl
    · simp (disch := omega) only [up_r, row_r, row_s]; rfl
  · simp (disch := omega) only [up_r, row_r, row_s]
  · funext i
    show _ = INI 83 i
    have hI : INI 83 i = (if i = 1 then 84 else if i = 2 then 85 else if i = 3 then 86 else if i = 4 then 87 else z0 3 i) := rfl
    rw [hI]
    by_cases y_1 : i = 1
    · rw [if_pos y_1, y_1]; simp (disch := omega) only [up_i, up_s, up_k, up_r, row_r]
    · rw [if_neg y_1]
      by_cases y_2 : i = 2
      · rw [if_pos y_2, y_2]; simp (disch := omega) only [up_i, up_s, up_k, up_r, row_r]
      · rw [if_neg y_2]
        by_cases y_3 : i = 3
        · rw [if_pos y_3, y_3]; simp (disch := omega) only [up_i, up_s, up_k, up_r, row_r]
        · rw [if_neg y_3]
          by_cases y_4 : i = 4
          · rw [if_pos y_4, y_4]; simp (disch := omega) only [up_i, up_s, up_k, up_r, row_r]
          · rw [if_neg y_4]
            (try (simp (disch := omega) only [up_i, up_s, up_k, up_r, row_r])); rw [hz]
set_option maxRecDepth 100000 in
set_option maxHeartbeats 4000000 in
theorem i_64 {V : VX} {F : Hp} (hz : F 64 = z0 8) : Ct V yX8_init cX8_init 1 none 2 40 23 834 (RSH.take 65) [vr V 64] F (RSH.take 88) 0 (fun _ F' => Ini 64 65 88 F F') := by
  refine Ct.ofI [some (vr V 64)] (by decide) rfl (by simp [lg_sl, vi_cat, vl_cat, vr_cat]) rfl (by simp [asc, lv_args, vi_cat, vl_cat, vr_cat]) (fun X hV hX hin => ?_)
  subst hV
  refine R_aload_0 hX dX8_init_0 ?_
  refine R_objInit hX (by decide) dX8_init_1 oi_X8_3 oi_i oi_c ⟨by decide, by decide, rfl, by decide⟩ ?_
  refine R_aload_0 hX dX8_init_4 ?_
  refine R_bipush hX dX8_init_5 rfl ?_
  refine R_newaS hX (atype := .int) (ty := .int) (n := 12) rfl (Or.inl rfl) ac_int (by decide) ⟨by decide, by decide⟩ dX8_init_7 rfl (sh2 := RSH.take 66) (k := 65) rfl rfl ?_
  refine R_putFa (t := .int) hX (fun _ _ => rfl) hin dX8_init_9 fl_X8_9 rfl (rs := []) ⟨by decide, rfl⟩ rfl ?_
  refine R_aload_0 hX dX8_init_12 ?_
  refine R_bipush hX dX8_init_13 rfl ?_
  refine R_newaS hX (atype := .int) (ty := .int) (n := 12) rfl (Or.inl rfl) ac_int (by decide) ⟨by decide, by decide⟩ dX8_init_15 rfl (sh2 := RSH.take 67) (k := 66) rfl rfl ?_
  refine R_putFa (t := .int) hX (fun _ _ => rfl) hin dX8_init_17 fl_X8_15 rfl (rs := []) ⟨by decide, rfl⟩ rfl ?_
  refine R_aload_0 hX dX8_init_20 ?_
  refine R_bipush hX dX8_init_21 rfl ?_
  refine R_newaS hX (atype := .int) (ty := .int) (n := 12) rfl (Or.inl rfl) ac_int (by decide) ⟨by decide, by decide⟩ dX8_init_23 rfl (sh2 := RSH.take 68) (k := 67) rfl rfl ?_
  refine R_putFa (t := .int) hX (fun _ _ => rfl) hin dX8_init_25 fl_X8_18 rfl (rs := []) ⟨by decide, rfl⟩ rfl ?_
  refine R_aload_0 hX dX8_init_28 ?_
  refine R_newS hX cf_0 cl_X8_21 is_X0 in_RateLimiter_Accounts (by decide) ⟨by decide, by decide⟩ dX8_init_29 (sh2 := RSH.take 69) (n := 68) rfl rfl ?_
  refine R_dup hX c1_r dX8_init_32 ?_
  refine R_cN0 hX dX8_init_33 li_X8_23 mk_X0_init mc_X0_init (rs := []) ⟨by decide, rfl⟩ (i_68 (by simp only [row_s])) ⟨⟨by decide, by decide⟩, by decide, by decide, rfl, Nat.le_of_ble_eq_true rfl, rfl⟩ (fun x_33 G_33 h_33 => ?_)
  obtain ⟨p_33, q_33, r_33⟩ := h_33
  refine R_putFo hX hin dX8_init_36 fl_X8_24 rfl (rs := []) ⟨by decide, rfl⟩ rfl ?_
  refine R_aload_0 hX dX8_init_39 ?_
  refine R_newS hX cf_4 cl_X8_28 is_X4 in_RateLimiter_Queues (by decide) ⟨by decide, by decide⟩ dX8_init_40 (sh2 := RSH.take 73) (n := 72) rfl rfl ?_
  refine R_dup hX c1_r dX8_init_43 ?_
  refine R_cN0 hX dX8_init_44 li_X8_30 mk_X4_init mc_X4_init (rs := []) ⟨by decide, rfl⟩ (i_72 (by simp only [row_s])) ⟨⟨by decide, by decide⟩, by decide, by decide, rfl, Nat.le_of_ble_eq_true rfl, rfl⟩ (fun x_44 G_44 h_44 => ?_)
  obtain ⟨p_44, q_44, r_44⟩ := h_44
  refine R_putFo hX hin dX8_init_47 fl_X8_31 rfl (rs := []) ⟨by decide, rfl⟩ rfl ?_
  refine R_aload_0 hX dX8_init_50 ?_
  refine R_newS hX cf_2 cl_X8_35 is_X2 in_RateLimiter_Counts (by decide) ⟨by decide, by decide⟩ dX8_init_51 (sh2 := RSH.take 78) (n := 77) rfl rfl ?_
  refine R_dup hX c1_r dX8_init_54 ?_
  refine R_cN0 hX dX8_init_55 li_X8_37 mk_X2_init mc_X2_init (rs := []) ⟨by decide, rfl⟩ (i_77 (by simp only [row_s])) ⟨⟨by decide, by decide⟩, by decide, by decide, rfl, Nat.le_of_ble_eq_true rfl, rfl⟩ (fun x_55 G_55 h_55 => ?_)
  obtain ⟨p_55, q_55, r_55⟩ := h_55
  refine R_putFo hX hin dX8_init_58 fl_X8_38 rfl (rs := []) ⟨by decide, rfl⟩ rfl ?_
  refine R_aload_0 hX dX8_init_61 ?_
  refine R_newS hX cf_3 cl_X8_42 is_X3 in_RateLimiter_Log (by decide) ⟨by decide, by decide⟩ dX8_init_62 (sh2 := RSH.take 84) (n := 83) rfl rfl ?_
  refine R_dup hX c1_r dX8_init_65 ?_
  refine R_cN0 hX dX8_init_66 li_X8_44 mk_X3_init mc_X3_init (rs := []) ⟨by decide, rfl⟩ (i_83 (by simp only [row_s])) ⟨⟨by decide, by decide⟩, by decide, by decide, rfl, Nat.le_of_ble_eq_true rfl, rfl⟩ (fun x_66 G_66 h_66 => ?_)
  obtain ⟨p_66, q_66, r_66⟩ := h_66
  refine R_putFo hX hin dX8_init_69 fl_X8_45 rfl (rs := []) ⟨by decide, rfl⟩ rfl ?_
  refine R_vret hX dX8_init_72 ⟨fun a h0 h1 => ?_, fun a h0 h1 => ?_, ?_⟩
  · have hc : a = 65 ∨ a = 66 ∨ a = 67 ∨ a = 68 ∨ (69 ≤ a ∧ a < 72) ∨ a = 72 ∨ (73 ≤ a ∧ a < 77) ∨ a = 77 ∨ (78 ≤ a ∧ a < 83) ∨ a = 83 ∨ (84 ≤ a ∧ a < 88) := by omega
    rcases hc with rfl | rfl | rfl | rfl | hc | rfl | hc | rfl | hc | rfl | hc
    · simp (disch := omega) only [up_r, row_r, row_s, p_33, p_44, p_55, p_66, q_33, q_44, q_55, q_66, r_33, r_44, r_55, r_66]; rfl
    · simp (disch := omega) only [up_r, row_r, row_s, p_33, p_44, p_55, p_66, q_33, q_44, q_55, q_66, r_33, r_44, r_55, r_66]; rfl
    · simp (disch := omega) only [up_r, row_r, row_s, p_33, p_44, p_55, p_66, q_33, q_44, q_55, q_66, r_33, r_44, r_55, r_66]; rfl
    · simp (disch := omega) only [up_r, row_r, row_s, p_33, p_44, p_55, p_66, q_33, q_44, q_55, q_66, r_33, r_44, r_55, r_66]
    · simp (disch := omega) only [up_r, row_r, row_s, p_33, p_44, p_55, p_66, q_33, q_44, q_55, q_66, r_33, r_44, r_55, r_66]
    · simp (disch := omega) only [up_r, row_r, row_s, p_33, p_44, p_55, p_66, q_33, q_44, q_55, q_66, r_33, r_44, r_55, r_66]
    · simp (disch := omega) only [up_r, row_r, row_s, p_33, p_44, p_55, p_66, q_33, q_44, q_55, q_66, r_33, r_44, r_55, r_66]
    · simp (disch := omega) only [up_r, row_r, row_s, p_33, p_44, p_55, p_66, q_33, q_44, q_55, q_66, r_33, r_44, r_55, r_66]
    · simp (disch := omega) only [up_r, row_r, row_s, p_33, p_44, p_55, p_66, q_33, q_44, q_55, q_66, r_33, r_44, r_55, r_66]
    · simp (disch := omega) only [up_r, row_r, row_s, p_33, p_44, p_55, p_66, q_33, q_44, q_55, q_66, r_33, r_44, r_55, r_66]
    · simp (disch := omega) only [up_r, row_r, row_s, p_33, p_44, p_55, p_66, q_33, q_44, q_55, q_66, r_33, r_44, r_55, r_66]
  · simp (disch := omega) only [up_r, row_r, row_s, p_33, p_44, p_55, p_66, q_33, q_44, q_55, q_66, r_33, r_44, r_55, r_66]
  · funext i
    show _ = INI 64 i
    have hI : INI 64 i = (if i = 2 then 65 else if i = 3 then 66 else if i = 4 then 67 else if i = 5 then 68 else if i = 6 then 72 else if i = 7 then 77 else if i = 8 then 83 else z0 8 i) := rfl
    rw [hI]
    by_cases y_2 : i = 2
    · rw [if_pos y_2, y_2]; simp (disch := omega) only [up_i, up_s, up_k, up_r, row_r, p_33, p_44, p_55, p_66, q_33, q_44, q_55, q_66, r_33, r_44, r_55, r_66]
    · rw [if_neg y_2]
      by_cases y_3 : i = 3
      · rw [if_pos y_3, y_3]; simp (disch := omega) only [up_i, up_s, up_k, up_r, row_r, p_33, p_44, p_55, p_66, q_33, q_44, q_55, q_66, r_33, r_44, r_55, r_66]
      · rw [if_neg y_3]
        by_cases y_4 : i = 4
        · rw [if_pos y_4, y_4]; simp (disch := omega) only [up_i, up_s, up_k, up_r, row_r, p_33, p_44, p_55, p_66, q_33, q_44, q_55, q_66, r_33, r_44, r_55, r_66]
        · rw [if_neg y_4]
          by_cases y_5 : i = 5
          · rw [if_pos y_5, y_5]; simp (disch := omega) only [up_i, up_s, up_k, up_r, row_r, p_33, p_44, p_55, p_66, q_33, q_44, q_55, q_66, r_33, r_44, r_55, r_66]
          · rw [if_neg y_5]
            by_cases y_6 : i = 6
            · rw [if_pos y_6, y_6]; simp (disch := omega) only [up_i, up_s, up_k, up_r, row_r, p_33, p_44, p_55, p_66, q_33, q_44, q_55, q_66, r_33, r_44, r_55, r_66]
            · rw [if_neg y_6]
              by_cases y_7 : i = 7
              · rw [if_pos y_7, y_7]; simp (disch := omega) only [up_i, up_s, up_k, up_r, row_r, p_33, p_44, p_55, p_66, q_33, q_44, q_55, q_66, r_33, r_44, r_55, r_66]
              · rw [if_neg y_7]
                by_cases y_8 : i = 8
                · rw [if_pos y_8, y_8]; simp (disch := omega) only [up_i, up_s, up_k, up_r, row_r, p_33, p_44, p_55, p_66, q_33, q_44, q_55, q_66, r_33, r_44, r_55, r_66]
                · rw [if_neg y_8]
                  (try (simp (disch := omega) only [up_i, up_s, up_k, up_r, row_r, p_33, p_44, p_55, p_66, q_33, q_44, q_55, q_66, r_33, r_44, r_55, r_66])); rw [hz]
set_option maxRecDepth 100000 in
set_option maxHeartbeats 4000000 in
theorem i_92 {V : VX} {F : Hp} (hz : F 92 = z0 0) : Ct V yX0_init cX0_init 1 none 1 20 3 36 (RSH.take 93) [vr V 92] F (RSH.take 96) 0 (fun _ F' => Ini 92 93 96 F F') := by
  refine Ct.ofI [some (vr V 92)] (by decide) rfl (by simp [lg_sl, vi_cat, vl_cat, vr_cat]) rfl (by simp [asc, lv_args, vi_cat, vl_cat, vr_cat]) (fun X hV hX hin => ?_)
  subst hV
  refine R_aload_0 hX dX0_init_0 ?_
  refine R_objInit hX (by decide) dX0_init_1 oi_X0_3 oi_i oi_c ⟨by decide, by decide, rfl, by decide⟩ ?_
  refine R_aload_0 hX dX0_init_4 ?_
  refine R_bipush hX dX0_init_5 rfl ?_
  refine R_newaS hX (atype := .int) (ty := .int) (n := 12) rfl (Or.inl rfl) ac_int (by decide) ⟨by decide, by decide⟩ dX0_init_7 rfl (sh2 := RSH.take 94) (k := 93) rfl rfl ?_
  refine R_putFa (t := .int) hX (fun _ _ => rfl) hin dX0_init_9 fl_X0_9 rfl (rs := []) ⟨by decide, rfl⟩ rfl ?_
  refine R_aload_0 hX dX0_init_12 ?_
  refine R_bipush hX dX0_init_13 rfl ?_
  refine R_newaS hX (atype := .int) (ty := .int) (n := 12) rfl (Or.inl rfl) ac_int (by decide) ⟨by decide, by decide⟩ dX0_init_15 rfl (sh2 := RSH.take 95) (k := 94) rfl rfl ?_
  refine R_putFa (t := .int) hX (fun _ _ => rfl) hin dX0_init_17 fl_X0_15 rfl (rs := []) ⟨by decide, rfl⟩ rfl ?_
  refine R_aload_0 hX dX0_init_20 ?_
  refine R_bipush hX dX0_init_21 rfl ?_
  refine R_newaS hX (atype := .int) (ty := .int) (n := 12) rfl (Or.inl rfl) ac_int (by decide) ⟨by decide, by decide⟩ dX0_init_23 rfl (sh2 := RSH.take 96) (k := 95) rfl rfl ?_
  refine R_putFa (t := .int) hX (fun _ _ => rfl) hin dX0_init_25 fl_X0_18 rfl (rs := []) ⟨by decide, rfl⟩ rfl ?_
  refine R_vret hX dX0_init_28 ⟨fun a h0 h1 => ?_, fun a h0 h1 => ?_, ?_⟩
  · have hc : a = 93 ∨ a = 94 ∨ a = 95 := by omega
    rcases hc with rfl | rfl | rfl
    · simp (disch := omega) only [up_r, row_r, row_s]; rfl
    · simp (disch := omega) only [up_r, row_r, row_s]; rfl
    · simp (disch := omega) only [up_r, row_r, row_s]; rfl
  · simp (disch := omega) only [up_r, row_r, row_s]
  · funext i
    show _ = INI 92 i
    have hI : INI 92 i = (if i = 0 then 93 else if i = 1 then 94 else if i = 2 then 95 else z0 0 i) := rfl
    rw [hI]
    by_cases y_0 : i = 0
    · rw [if_pos y_0, y_0]; simp (disch := omega) only [up_i, up_s, up_k, up_r, row_r]
    · rw [if_neg y_0]
      by_cases y_1 : i = 1
      · rw [if_pos y_1, y_1]; simp (disch := omega) only [up_i, up_s, up_k, up_r, row_r]
      · rw [if_neg y_1]
        by_cases y_2 : i = 2
        · rw [if_pos y_2, y_2]; simp (disch := omega) only [up_i, up_s, up_k, up_r, row_r]
        · rw [if_neg y_2]
          (try (simp (disch := omega) only [up_i, up_s, up_k, up_r, row_r])); rw [hz]
set_option maxRecDepth 100000 in
set_option maxHeartbeats 4000000 in
theorem i_96 {V : VX} {F : Hp} (hz : F 96 = z0 4) : Ct V yX4_init cX4_init 1 none 1 20 4 588 (RSH.take 97) [vr V 96] F (RSH.take 101) 0 (fun _ F' => Ini 96 97 101 F F') := by
  refine Ct.ofI [some (vr V 96)] (by decide) rfl (by simp [lg_sl, vi_cat, vl_cat, vr_cat]) rfl (by simp [asc, lv_args, vi_cat, vl_cat, vr_cat]) (fun X hV hX hin => ?_)
  subst hV
  refine R_aload_0 hX dX4_init_0 ?_
  refine R_objInit hX (by decide) dX4_init_1 oi_X4_3 oi_i oi_c ⟨by decide, by decide, rfl, by decide⟩ ?_
  refine R_aload_0 hX dX4_init_4 ?_
  refine R_bipush hX dX4_init_5 rfl ?_
  refine R_newaS hX (atype := .int) (ty := .int) (n := 12) rfl (Or.inl rfl) ac_int (by decide) ⟨by decide, by decide⟩ dX4_init_7 rfl (sh2 := RSH.take 98) (k := 97) rfl rfl ?_
  refine R_putFa (t := .int) hX (fun _ _ => rfl) hin dX4_init_9 fl_X4_9 rfl (rs := []) ⟨by decide, rfl⟩ rfl ?_
  refine R_aload_0 hX dX4_init_12 ?_
  refine R_sipush hX dX4_init_13 rfl ?_
  refine R_newaS hX (atype := .int) (ty := .int) (n := 192) rfl (Or.inl rfl) ac_int (by decide) ⟨by decide, by decide⟩ dX4_init_16 rfl (sh2 := RSH.take 99) (k := 98) rfl rfl ?_
  refine R_putFa (t := .int) hX (fun _ _ => rfl) hin dX4_init_18 fl_X4_15 rfl (rs := []) ⟨by decide, rfl⟩ rfl ?_
  refine R_aload_0 hX dX4_init_21 ?_
  refine R_sipush hX dX4_init_22 rfl ?_
  refine R_newaS hX (atype := .int) (ty := .int) (n := 192) rfl (Or.inl rfl) ac_int (by decide) ⟨by decide, by decide⟩ dX4_init_25 rfl (sh2 := RSH.take 100) (k := 99) rfl rfl ?_
  refine R_putFa (t := .int) hX (fun _ _ => rfl) hin dX4_init_27 fl_X4_18 rfl (rs := []) ⟨by decide, rfl⟩ rfl ?_
  refine R_aload_0 hX dX4_init_30 ?_
  refine R_sipush hX dX4_init_31 rfl ?_
  refine R_newaS hX (atype := .int) (ty := .int) (n := 192) rfl (Or.inl rfl) ac_int (by decide) ⟨by decide, by decide⟩ dX4_init_34 rfl (sh2 := RSH.take 101) (k := 100) rfl rfl ?_
  refine R_putFa (t := .int) hX (fun _ _ => rfl) hin dX4_init_36 fl_X4_21 rfl (rs := []) ⟨by decide, rfl⟩ rfl ?_
  refine R_vret hX dX4_init_39 ⟨fun a h0 h1 => ?_, fun a h0 h1 => ?_, ?_⟩
  · have hc : a = 97 ∨ a = 98 ∨ a = 99 ∨ a = 100 := by omega
    rcases hc with rfl | rfl | rfl | rfl
    · simp (disch := omega) only [up_r, row_r, row_s]; rfl
    · simp (disch := omega) only [up_r, row_r, row_s]; rfl
    · simp (disch := omega) only [up_r, row_r, row_s]; rfl
    · simp (disch := omega) only [up_r, row_r, row_s]; rfl
  · simp (disch := omega) only [up_r, row_r, row_s]
  · funext i
    show _ = INI 96 i
    have hI : INI 96 i = (if i = 0 then 97 else if i = 1 then 98 else if i = 2 then 99 else if i = 3 then 100 else z0 4 i) := rfl
    rw [hI]
    by_cases y_0 : i = 0
    · rw [if_pos y_0, y_0]; simp (disch := omega) only [up_i, up_s, up_k, up_r, row_r]
    · rw [if_neg y_0]
      by_cases y_1 : i = 1
      · rw [if_pos y_1, y_1]; simp (disch := omega) only [up_i, up_s, up_k, up_r, row_r]
      · rw [if_neg y_1]
        by_cases y_2 : i = 2
        · rw [if_pos y_2, y_2]; simp (disch := omega) only [up_i, up_s, up_k, up_r, row_r]
        · rw [if_neg y_2]
          by_cases y_3 : i = 3
          · rw [if_pos y_3, y_3]; simp (disch := omega) only [up_i, up_s, up_k, up_r, row_r]
          · rw [if_neg y_3]
            (try (simp (disch := omega) only [up_i, up_s, up_k, up_r, row_r])); rw [hz]
set_option maxRecDepth 100000 in
set_option maxHeartbeats 4000000 in
theorem i_101 {V : VX} {F : Hp} (hz : F 101 = z0 2) : Ct V yX2_init cX2_init 1 none 1 20 5 60 (RSH.take 102) [vr V 101] F (RSH.take 107) 0 (fun _ F' => Ini 101 102 107 F F') := by
  refine Ct.ofI [some (vr V 101)] (by decide) rfl (by simp [lg_sl, vi_cat, vl_cat, vr_cat]) rfl (by simp [asc, lv_args, vi_cat, vl_cat, vr_cat]) (fun X hV hX hin => ?_)
  subst hV
  refine R_aload_0 hX dX2_init_0 ?_
  refine R_objInit hX (by decide) dX2_init_1 oi_X2_3 oi_i oi_c ⟨by decide, by decide, rfl, by decide⟩ ?_
  refine R_aload_0 hX dX2_init_4 ?_
  refine R_bipush hX dX2_init_5 rfl ?_
  refine R_newaS hX (atype := .int) (ty := .int) (n := 12) rfl (Or.inl rfl) ac_int (by decide) ⟨by decide, by decide⟩ dX2_init_7 rfl (sh2 := RSH.take 103) (k := 102) rfl rfl ?_
  refine R_putFa (t := .int) hX (fun _ _ => rfl) hin dX2_init_9 fl_X2_9 rfl (rs := []) ⟨by decide, rfl⟩ rfl ?_
  refine R_aload_0 hX dX2_init_12 ?_
  refine R_bipush hX dX2_init_13 rfl ?_
  refine R_newaS hX (atype := .int) (ty := .int) (n := 12) rfl (Or.inl rfl) ac_int (by decide) ⟨by decide, by decide⟩ dX2_init_15 rfl (sh2 := RSH.take 104) (k := 103) rfl rfl ?_
  refine R_putFa (t := .int) hX (fun _ _ => rfl) hin dX2_init_17 fl_X2_15 rfl (rs := []) ⟨by decide, rfl⟩ rfl ?_
  refine R_aload_0 hX dX2_init_20 ?_
  refine R_bipush hX dX2_init_21 rfl ?_
  refine R_newaS hX (atype := .int) (ty := .int) (n := 12) rfl (Or.inl rfl) ac_int (by decide) ⟨by decide, by decide⟩ dX2_init_23 rfl (sh2 := RSH.take 105) (k := 104) rfl rfl ?_
  refine R_putFa (t := .int) hX (fun _ _ => rfl) hin dX2_init_25 fl_X2_18 rfl (rs := []) ⟨by decide, rfl⟩ rfl ?_
  refine R_aload_0 hX dX2_init_28 ?_
  refine R_bipush hX dX2_init_29 rfl ?_
  refine R_newaS hX (atype := .int) (ty := .int) (n := 12) rfl (Or.inl rfl) ac_int (by decide) ⟨by decide, by decide⟩ dX2_init_31 rfl (sh2 := RSH.take 106) (k := 105) rfl rfl ?_
  refine R_putFa (t := .int) hX (fun _ _ => rfl) hin dX2_init_33 fl_X2_21 rfl (rs := []) ⟨by decide, rfl⟩ rfl ?_
  refine R_aload_0 hX dX2_init_36 ?_
  refine R_bipush hX dX2_init_37 rfl ?_
  refine R_newaS hX (atype := .int) (ty := .int) (n := 12) rfl (Or.inl rfl) ac_int (by decide) ⟨by decide, by decide⟩ dX2_init_39 rfl (sh2 := RSH.take 107) (k := 106) rfl rfl ?_
  refine R_putFa (t := .int) hX (fun _ _ => rfl) hin dX2_init_41 fl_X2_24 rfl (rs := []) ⟨by decide, rfl⟩ rfl ?_
  refine R_vret hX dX2_init_44 ⟨fun a h0 h1 => ?_, fun a h0 h1 => ?_, ?_⟩
  · have hc : a = 102 ∨ a = 103 ∨ a = 104 ∨ a = 105 ∨ a = 106 := by omega
    rcases hc with rfl | rfl | rfl | rfl | rfl
    · simp (disch := omega) only [up_r, row_r, row_s]; rfl
    · simp (disch := omega) only [up_r, row_r, row_s]; rfl
    · simp (disch := omega) only [up_r, row_r, row_s]; rfl
    · simp (disch := omega) only [up_r, row_r, row_s]; rfl
    · simp (disch := omega) only [up_r, row_r, row_s]; rfl
  · simp (disch := omega) only [up_r, row_r, row_s]
  · funext i
    show _ = INI 101 i
    have hI : INI 101 i = (if i = 0 then 102 else if i = 1 then 103 else if i = 2 then 104 else if i = 3 then 105 else if i = 4 then 106 else z0 2 i) := rfl
    rw [hI]
    by_cases y_0 : i = 0
    · rw [if_pos y_0, y_0]; simp (disch := omega) only [up_i, up_s, up_k, up_r, row_r]
    · rw [if_neg y_0]
      by_cases y_1 : i = 1
      · rw [if_pos y_1, y_1]; simp (disch := omega) only [up_i, up_s, up_k, up_r, row_r]
      · rw [if_neg y_1]
        by_cases y_2 : i = 2
        · rw [if_pos y_2, y_2]; simp (disch := omega) only [up_i, up_s, up_k, up_r, row_r]
        · rw [if_neg y_2]
          by_cases y_3 : i = 3
          · rw [if_pos y_3, y_3]; simp (disch := omega) only [up_i, up_s, up_k, up_r, row_r]
          · rw [if_neg y_3]
            by_cases y_4 : i = 4
            · rw [if_pos y_4, y_4]; simp (disch := omega) only [up_i, up_s, up_k, up_r, row_r]
            · rw [if_neg y_4]
              (try (simp (disch := omega) only [up_i, up_s, up_k, up_r, row_r])); rw [hz]
set_option maxRecDepth 100000 in
set_option maxHeartbeats 4000000 in
theorem i_107 {V : VX} {F : Hp} (hz : F 107 = z0 3) : Ct V yX3_init cX3_init 1 none 1 20 4 96 (RSH.take 108) [vr V 107] F (RSH.take 112) 0 (fun _ F' => Ini 107 108 112 F F') := by
  refine Ct.ofI [some (vr V 107)] (by decide) rfl (by simp [lg_sl, vi_cat, vl_cat, vr_cat]) rfl (by simp [asc, lv_args, vi_cat, vl_cat, vr_cat]) (fun X hV hX hin => ?_)
  subst hV
  refine R_aload_0 hX dX3_init_0 ?_
  refine R_objInit hX (by decide) dX3_init_1 oi_X3_3 oi_i oi_c ⟨by decide, by decide, rfl, by decide⟩ ?_
  refine R_aload_0 hX dX3_init_4 ?_
  refine R_bipush hX dX3_init_5 rfl ?_
  refine R_newaS hX (atype := .int) (ty := .int) (n := 24) rfl (Or.inl rfl) ac_int (by decide) ⟨by decide, by decide⟩ dX3_init_7 rfl (sh2 := RSH.take 109) (k := 108) rfl rfl ?_
  refine R_putFa (t := .int) hX (fun _ _ => rfl) hin dX3_init_9 fl_X3_9 rfl (rs := []) ⟨by decide, rfl⟩ rfl ?_
  refine R_aload_0 hX dX3_init_12 ?_
  refine R_bipush hX dX3_init_13 rfl ?_
  refine R_newaS hX (atype := .int) (ty := .int) (n := 24) rfl (Or.inl rfl) ac_int (by decide) ⟨by decide, by decide⟩ dX3_init_15 rfl (sh2 := RSH.take 110) (k := 109) rfl rfl ?_
  refine R_putFa (t := .int) hX (fun _ _ => rfl) hin dX3_init_17 fl_X3_15 rfl (rs := []) ⟨by decide, rfl⟩ rfl ?_
  refine R_aload_0 hX dX3_init_20 ?_
  refine R_bipush hX dX3_init_21 rfl ?_
  refine R_newaS hX (atype := .int) (ty := .int) (n := 24) rfl (Or.inl rfl) ac_int (by decide) ⟨by decide, by decide⟩ dX3_init_23 rfl (sh2 := RSH.take 111) (k := 110) rfl rfl ?_
  refine R_putFa (t := .int) hX (fun _ _ => rfl) hin dX3_init_25 fl_X3_18 rfl (rs := []) ⟨by decide, rfl⟩ rfl ?_
  refine R_aload_0 hX dX3_init_28 ?_
  refine R_bipush hX dX3_init_29 rfl ?_
  refine R_newaS hX (atype := .int) (ty := .int) (n := 24) rfl (Or.inl rfl) ac_int (by decide) ⟨by decide, by decide⟩ dX3_init_31 rfl (sh2 := RSH.take 112) (k := 111) rfl rfl ?_
  refine R_putFa (t := .int) hX (fun _ _ => rfl) hin dX3_init_33 fl_X3_21 rfl (rs := []) ⟨by decide, rfl⟩ rfl ?_
  refine R_vret hX dX3_init_36 ⟨fun a h0 h1 => ?_, fun a h0 h1 => ?_, ?_⟩
  · have hc : a = 108 ∨ a = 109 ∨ a = 110 ∨ a = 111 := by omega
    rcases hc with rfl | rfl | rfl | rfl
    · simp (disch := omega) only [up_r, row_r, row_s]; rfl
    · simp (disch := omega) only [up_r, row_r, row_s]; rfl
    · simp (disch := omega) only [up_r, row_r, row_s]; rfl
    · simp (disch := omega) only [up_r, row_r, row_s]; rfl
  · simp (disch := omega) only [up_r, row_r, row_s]
  · funext i
    show _ = INI 107 i
    have hI : INI 107 i = (if i = 1 then 108 else if i = 2 then 109 else if i = 3 then 110 else if i = 4 then 111 else z0 3 i) := rfl
    rw [hI]
    by_cases y_1 : i = 1
    · rw [if_pos y_1, y_1]; simp (disch := omega) only [up_i, up_s, up_k, up_r, row_r]
    · rw [if_neg y_1]
      by_cases y_2 : i = 2
      · rw [if_pos y_2, y_2]; simp (disch := omega) only [up_i, up_s, up_k, up_r, row_r]
      · rw [if_neg y_2]
        by_cases y_3 : i = 3
        · rw [if_pos y_3, y_3]; simp (disch := omega) only [up_i, up_s, up_k, up_r, row_r]
        · rw [if_neg y_3]
          by_cases y_4 : i = 4
          · rw [if_pos y_4, y_4]; simp (disch := omega) only [up_i, up_s, up_k, up_r, row_r]
          · rw [if_neg y_4]
            (try (simp (disch := omega) only [up_i, up_s, up_k, up_r, row_r])); rw [hz]
set_option maxRecDepth 100000 in
set_option maxHeartbeats 4000000 in
theorem i_88 {V : VX} {F : Hp} (hz : F 88 = z0 8) : Ct V yX8_init cX8_init 1 none 2 40 23 834 (RSH.take 89) [vr V 88] F (RSH.take 112) 0 (fun _ F' => Ini 88 89 112 F F') := by
  refine Ct.ofI [some (vr V 88)] (by decide) rfl (by simp [lg_sl, vi_cat, vl_cat, vr_cat]) rfl (by simp [asc, lv_args, vi_cat, vl_cat, vr_cat]) (fun X hV hX hin => ?_)
  subst hV
  refine R_aload_0 hX dX8_init_0 ?_
  refine R_objInit hX (by decide) dX8_init_1 oi_X8_3 oi_i oi_c ⟨by decide, by decide, rfl, by decide⟩ ?_
  refine R_aload_0 hX dX8_init_4 ?_
  refine R_bipush hX dX8_init_5 rfl ?_
  refine R_newaS hX (atype := .int) (ty := .int) (n := 12) rfl (Or.inl rfl) ac_int (by decide) ⟨by decide, by decide⟩ dX8_init_7 rfl (sh2 := RSH.take 90) (k := 89) rfl rfl ?_
  refine R_putFa (t := .int) hX (fun _ _ => rfl) hin dX8_init_9 fl_X8_9 rfl (rs := []) ⟨by decide, rfl⟩ rfl ?_
  refine R_aload_0 hX dX8_init_12 ?_
  refine R_bipush hX dX8_init_13 rfl ?_
  refine R_newaS hX (atype := .int) (ty := .int) (n := 12) rfl (Or.inl rfl) ac_int (by decide) ⟨by decide, by decide⟩ dX8_init_15 rfl (sh2 := RSH.take 91) (k := 90) rfl rfl ?_
  refine R_putFa (t := .int) hX (fun _ _ => rfl) hin dX8_init_17 fl_X8_15 rfl (rs := []) ⟨by decide, rfl⟩ rfl ?_
  refine R_aload_0 hX dX8_init_20 ?_
  refine R_bipush hX dX8_init_21 rfl ?_
  refine R_newaS hX (atype := .int) (ty := .int) (n := 12) rfl (Or.inl rfl) ac_int (by decide) ⟨by decide, by decide⟩ dX8_init_23 rfl (sh2 := RSH.take 92) (k := 91) rfl rfl ?_
  refine R_putFa (t := .int) hX (fun _ _ => rfl) hin dX8_init_25 fl_X8_18 rfl (rs := []) ⟨by decide, rfl⟩ rfl ?_
  refine R_aload_0 hX dX8_init_28 ?_
  refine R_newS hX cf_0 cl_X8_21 is_X0 in_RateLimiter_Accounts (by decide) ⟨by decide, by decide⟩ dX8_init_29 (sh2 := RSH.take 93) (n := 92) rfl rfl ?_
  refine R_dup hX c1_r dX8_init_32 ?_
  refine R_cN0 hX dX8_init_33 li_X8_23 mk_X0_init mc_X0_init (rs := []) ⟨by decide, rfl⟩ (i_92 (by simp only [row_s])) ⟨⟨by decide, by decide⟩, by decide, by decide, rfl, Nat.le_of_ble_eq_true rfl, rfl⟩ (fun x_33 G_33 h_33 => ?_)
  obtain ⟨p_33, q_33, r_33⟩ := h_33
  refine R_putFo hX hin dX8_init_36 fl_X8_24 rfl (rs := []) ⟨by decide, rfl⟩ rfl ?_
  refine R_aload_0 hX dX8_init_39 ?_
  refine R_newS hX cf_4 cl_X8_28 is_X4 in_RateLimiter_Queues (by decide) ⟨by decide, by decide⟩ dX8_init_40 (sh2 := RSH.take 97) (n := 96) rfl rfl ?_
  refine R_dup hX c1_r dX8_init_43 ?_
  refine R_cN0 hX dX8_init_44 li_X8_30 mk_X4_init mc_X4_init (rs := []) ⟨by decide, rfl⟩ (i_96 (by simp only [row_s])) ⟨⟨by decide, by decide⟩, by decide, by decide, rfl, Nat.le_of_ble_eq_true rfl, rfl⟩ (fun x_44 G_44 h_44 => ?_)
  obtain ⟨p_44, q_44, r_44⟩ := h_44
  refine R_putFo hX hin dX8_init_47 fl_X8_31 rfl (rs := []) ⟨by decide, rfl⟩ rfl ?_
  refine R_aload_0 hX dX8_init_50 ?_
  refine R_newS hX cf_2 cl_X8_35 is_X2 in_RateLimiter_Counts (by decide) ⟨by decide, by decide⟩ dX8_init_51 (sh2 := RSH.take 102) (n := 101) rfl rfl ?_
  refine R_dup hX c1_r dX8_init_54 ?_
  refine R_cN0 hX dX8_init_55 li_X8_37 mk_X2_init mc_X2_init (rs := []) ⟨by decide, rfl⟩ (i_101 (by simp only [row_s])) ⟨⟨by decide, by decide⟩, by decide, by decide, rfl, Nat.le_of_ble_eq_true rfl, rfl⟩ (fun x_55 G_55 h_55 => ?_)
  obtain ⟨p_55, q_55, r_55⟩ := h_55
  refine R_putFo hX hin dX8_init_58 fl_X8_38 rfl (rs := []) ⟨by decide, rfl⟩ rfl ?_
  refine R_aload_0 hX dX8_init_61 ?_
  refine R_newS hX cf_3 cl_X8_42 is_X3 in_RateLimiter_Log (by decide) ⟨by decide, by decide⟩ dX8_init_62 (sh2 := RSH.take 108) (n := 107) rfl rfl ?_
  refine R_dup hX c1_r dX8_init_65 ?_
  refine R_cN0 hX dX8_init_66 li_X8_44 mk_X3_init mc_X3_init (rs := []) ⟨by decide, rfl⟩ (i_107 (by simp only [row_s])) ⟨⟨by decide, by decide⟩, by decide, by decide, rfl, Nat.le_of_ble_eq_true rfl, rfl⟩ (fun x_66 G_66 h_66 => ?_)
  obtain ⟨p_66, q_66, r_66⟩ := h_66
  refine R_putFo hX hin dX8_init_69 fl_X8_45 rfl (rs := []) ⟨by decide, rfl⟩ rfl ?_
  refine R_vret hX dX8_init_72 ⟨fun a h0 h1 => ?_, fun a h0 h1 => ?_, ?_⟩
  · have hc : a = 89 ∨ a = 90 ∨ a = 91 ∨ a = 92 ∨ (93 ≤ a ∧ a < 96) ∨ a = 96 ∨ (97 ≤ a ∧ a < 101) ∨ a = 101 ∨ (102 ≤ a ∧ a < 107) ∨ a = 107 ∨ (108 ≤ a ∧ a < 112) := by omega
    rcases hc with rfl | rfl | rfl | rfl | hc | rfl | hc | rfl | hc | rfl | hc
    · simp (disch := omega) only [up_r, row_r, row_s, p_33, p_44, p_55, p_66, q_33, q_44, q_55, q_66, r_33, r_44, r_55, r_66]; rfl
    · simp (disch := omega) only [up_r, row_r, row_s, p_33, p_44, p_55, p_66, q_33, q_44, q_55, q_66, r_33, r_44, r_55, r_66]; rfl
    · simp (disch := omega) only [up_r, row_r, row_s, p_33, p_44, p_55, p_66, q_33, q_44, q_55, q_66, r_33, r_44, r_55, r_66]; rfl
    · simp (disch := omega) only [up_r, row_r, row_s, p_33, p_44, p_55, p_66, q_33, q_44, q_55, q_66, r_33, r_44, r_55, r_66]
    · simp (disch := omega) only [up_r, row_r, row_s, p_33, p_44, p_55, p_66, q_33, q_44, q_55, q_66, r_33, r_44, r_55, r_66]
    · simp (disch := omega) only [up_r, row_r, row_s, p_33, p_44, p_55, p_66, q_33, q_44, q_55, q_66, r_33, r_44, r_55, r_66]
    · simp (disch := omega) only [up_r, row_r, row_s, p_33, p_44, p_55, p_66, q_33, q_44, q_55, q_66, r_33, r_44, r_55, r_66]
    · simp (disch := omega) only [up_r, row_r, row_s, p_33, p_44, p_55, p_66, q_33, q_44, q_55, q_66, r_33, r_44, r_55, r_66]
    · simp (disch := omega) only [up_r, row_r, row_s, p_33, p_44, p_55, p_66, q_33, q_44, q_55, q_66, r_33, r_44, r_55, r_66]
    · simp (disch := omega) only [up_r, row_r, row_s, p_33, p_44, p_55, p_66, q_33, q_44, q_55, q_66, r_33, r_44, r_55, r_66]
    · simp (disch := omega) only [up_r, row_r, row_s, p_33, p_44, p_55, p_66, q_33, q_44, q_55, q_66, r_33, r_44, r_55, r_66]
  · simp (disch := omega) only [up_r, row_r, row_s, p_33, p_44, p_55, p_66, q_33, q_44, q_55, q_66, r_33, r_44, r_55, r_66]
  · funext i
    show _ = INI 88 i
    have hI : INI 88 i = (if i = 2 then 89 else if i = 3 then 90 else if i = 4 then 91 else if i = 5 then 92 else if i = 6 then 96 else if i = 7 then 101 else if i = 8 then 107 else z0 8 i) := rfl
    rw [hI]
    by_cases y_2 : i = 2
    · rw [if_pos y_2, y_2]; simp (disch := omega) only [up_i, up_s, up_k, up_r, row_r, p_33, p_44, p_55, p_66, q_33, q_44, q_55, q_66, r_33, r_44, r_55, r_66]
    · rw [if_neg y_2]
      by_cases y_3 : i = 3
      · rw [if_pos y_3, y_3]; simp (disch := omega) only [up_i, up_s, up_k, up_r, row_r, p_33, p_44, p_55, p_66, q_33, q_44, q_55, q_66, r_33, r_44, r_55, r_66]
      · rw [if_neg y_3]
        by_cases y_4 : i = 4
        · rw [if_pos y_4, y_4]; simp (disch := omega) only [up_i, up_s, up_k, up_r, row_r, p_33, p_44, p_55, p_66, q_33, q_44, q_55, q_66, r_33, r_44, r_55, r_66]
        · rw [if_neg y_4]
          by_cases y_5 : i = 5
          · rw [if_pos y_5, y_5]; simp (disch := omega) only [up_i, up_s, up_k, up_r, row_r, p_33, p_44, p_55, p_66, q_33, q_44, q_55, q_66, r_33, r_44, r_55, r_66]
          · rw [if_neg y_5]
            by_cases y_6 : i = 6
            · rw [if_pos y_6, y_6]; simp (disch := omega) only [up_i, up_s, up_k, up_r, row_r, p_33, p_44, p_55, p_66, q_33, q_44, q_55, q_66, r_33, r_44, r_55, r_66]
            · rw [if_neg y_6]
              by_cases y_7 : i = 7
              · rw [if_pos y_7, y_7]; simp (disch := omega) only [up_i, up_s, up_k, up_r, row_r, p_33, p_44, p_55, p_66, q_33, q_44, q_55, q_66, r_33, r_44, r_55, r_66]
              · rw [if_neg y_7]
                by_cases y_8 : i = 8
                · rw [if_pos y_8, y_8]; simp (disch := omega) only [up_i, up_s, up_k, up_r, row_r, p_33, p_44, p_55, p_66, q_33, q_44, q_55, q_66, r_33, r_44, r_55, r_66]
                · rw [if_neg y_8]
                  (try (simp (disch := omega) only [up_i, up_s, up_k, up_r, row_r, p_33, p_44, p_55, p_66, q_33, q_44, q_55, q_66, r_33, r_44, r_55, r_66])); rw [hz]
set_option maxRecDepth 100000 in
set_option maxHeartbeats 4000000 in
theorem i_116 {V : VX} {F : Hp} (hz : F 116 = z0 0) : Ct V yX0_init cX0_init 1 none 1 20 3 36 (RSH.take 117) [vr V 116] F (RSH.take 120) 0 (fun _ F' => Ini 116 117 120 F F') := by
  refine Ct.ofI [some (vr V 116)] (by decide) rfl (by simp [lg_sl, vi_cat, vl_cat, vr_cat]) rfl (by simp [asc, lv_args, vi_cat, vl_cat, vr_cat]) (fun X hV hX hin => ?_)
  subst hV
  refine R_aload_0 hX dX0_init_0 ?_
  refine R_objInit hX (by decide) dX0_init_1 oi_X0_3 oi_i oi_c ⟨by decide, by decide, rfl, by decide⟩ ?_
  refine R_aload_0 hX dX0_init_4 ?_
  refine R_bipush hX dX0_init_5 rfl ?_
  refine R_newaS hX (atype := .int) (ty := .int) (n := 12) rfl (Or.inl rfl) ac_int (by decide) ⟨by decide, by decide⟩ dX0_init_7 rfl (sh2 := RSH.take 118) (k := 117) rfl rfl ?_
  refine R_putFa (t := .int) hX (fun _ _ => rfl) hin dX0_init_9 fl_X0_9 rfl (rs := []) ⟨by decide, rfl⟩ rfl ?_
  refine R_aload_0 hX dX0_init_12 ?_
  refine R_bipush hX dX0_init_13 rfl ?_
  refine R_newaS hX (atype := .int) (ty := .int) (n := 12) rfl (Or.inl rfl) ac_int (by decide) ⟨by decide, by decide⟩ dX0_init_15 rfl (sh2 := RSH.take 119) (k := 118) rfl rfl ?_
  refine R_putFa (t := .int) hX (fun _ _ => rfl) hin dX0_init_17 fl_X0_15 rfl (rs := []) ⟨by decide, rfl⟩ rfl ?_
  refine R_aload_0 hX dX0_init_20 ?_
  refine R_bipush hX dX0_init_21 rfl ?_
  refine R_newaS hX (atype := .int) (ty := .int) (n := 12) rfl (Or.inl rfl) ac_int (by decide) ⟨by decide, by decide⟩ dX0_init_23 rfl (sh2 := RSH.take 120) (k := 119) rfl rfl ?_
  refine R_putFa (t := .int) hX (fun _ _ => rfl) hin dX0_init_25 fl_X0_18 rfl (rs := []) ⟨by decide, rfl⟩ rfl ?_
  refine R_vret hX dX0_init_28 ⟨fun a h0 h1 => ?_, fun a h0 h1 => ?_, ?_⟩
  · have hc : a = 117 ∨ a = 118 ∨ a = 119 := by omega
    rcases hc with rfl | rfl | rfl
    · simp (disch := omega) only [up_r, row_r, row_s]; rfl
    · simp (disch := omega) only [up_r, row_r, row_s]; rfl
    · simp (disch := omega) only [up_r, row_r, row_s]; rfl
  · simp (disch := omega) only [up_r, row_r, row_s]
  · funext i
    show _ = INI 116 i
    have hI : INI 116 i = (if i = 0 then 117 else if i = 1 then 118 else if i = 2 then 119 else z0 0 i) := rfl
    rw [hI]
    by_cases y_0 : i = 0
    · rw [if_pos y_0, y_0]; simp (disch := omega) only [up_i, up_s, up_k, up_r, row_r]
    · rw [if_neg y_0]
      by_cases y_1 : i = 1
      · rw [if_pos y_1, y_1]; simp (disch := omega) only [up_i, up_s, up_k, up_r, row_r]
      · rw [if_neg y_1]
        by_cases y_2 : i = 2
        · rw [if_pos y_2, y_2]; simp (disch := omega) only [up_i, up_s, up_k, up_r, row_r]
        · rw [if_neg y_2]
          (try (simp (disch := omega) only [up_i, up_s, up_k, up_r, row_r])); rw [hz]
set_option maxRecDepth 100000 in
set_option maxHeartbeats 4000000 in
theorem i_120 {V : VX} {F : Hp} (hz : F 120 = z0 4) : Ct V yX4_init cX4_init 1 none 1 20 4 588 (RSH.take 121) [vr V 120] F (RSH.take 125) 0 (fun _ F' => Ini 120 121 125 F F') := by
  refine Ct.ofI [some (vr V 120)] (by decide) rfl (by simp [lg_sl, vi_cat, vl_cat, vr_cat]) rfl (by simp [asc, lv_args, vi_cat, vl_cat, vr_cat]) (fun X hV hX hin => ?_)
  subst hV
  refine R_aload_0 hX dX4_init_0 ?_
  refine R_objInit hX (by decide) dX4_init_1 oi_X4_3 oi_i oi_c ⟨by decide, by decide, rfl, by decide⟩ ?_
  refine R_aload_0 hX dX4_init_4 ?_
  refine R_bipush hX dX4_init_5 rfl ?_
  refine R_newaS hX (atype := .int) (ty := .int) (n := 12) rfl (Or.inl rfl) ac_int (by decide) ⟨by decide, by decide⟩ dX4_init_7 rfl (sh2 := RSH.take 122) (k := 121) rfl rfl ?_
  refine R_putFa (t := .int) hX (fun _ _ => rfl) hin dX4_init_9 fl_X4_9 rfl (rs := []) ⟨by decide, rfl⟩ rfl ?_
  refine R_aload_0 hX dX4_init_12 ?_
  refine R_sipush hX dX4_init_13 rfl ?_
  refine R_newaS hX (atype := .int) (ty := .int) (n := 192) rfl (Or.inl rfl) ac_int (by decide) ⟨by decide, by decide⟩ dX4_init_16 rfl (sh2 := RSH.take 123) (k := 122) rfl rfl ?_
  refine R_putFa (t := .int) hX (fun _ _ => rfl) hin dX4_init_18 fl_X4_15 rfl (rs := []) ⟨by decide, rfl⟩ rfl ?_
  refine R_aload_0 hX dX4_init_21 ?_
  refine R_sipush hX dX4_init_22 rfl ?_
  refine R_newaS hX (atype := .int) (ty := .int) (n := 192) rfl (Or.inl rfl) ac_int (by decide) ⟨by decide, by decide⟩ dX4_init_25 rfl (sh2 := RSH.take 124) (k := 123) rfl rfl ?_
  refine R_putFa (t := .int) hX (fun _ _ => rfl) hin dX4_init_27 fl_X4_18 rfl (rs := []) ⟨by decide, rfl⟩ rfl ?_
  refine R_aload_0 hX dX4_init_30 ?_
  refine R_sipush hX dX4_init_31 rfl ?_
  refine R_newaS hX (atype := .int) (ty := .int) (n := 192) rfl (Or.inl rfl) ac_int (by decide) ⟨by decide, by decide⟩ dX4_init_34 rfl (sh2 := RSH.take 125) (k := 124) rfl rfl ?_
  refine R_putFa (t := .int) hX (fun _ _ => rfl) hin dX4_init_36 fl_X4_21 rfl (rs := []) ⟨by decide, rfl⟩ rfl ?_
  refine R_vret hX dX4_init_39 ⟨fun a h0 h1 => ?_, fun a h0 h1 => ?_, ?_⟩
  · have hc : a = 121 ∨ a = 122 ∨ a = 123 ∨ a = 124 := by omega
    rcases hc with rfl | rfl | rfl | rfl
    · simp (disch := omega) only [up_r, row_r, row_s]; rfl
    · simp (disch := omega) only [up_r, row_r, row_s]; rfl
    · simp (disch := omega) only [up_r, row_r, row_s]; rfl
    · simp (disch := omega) only [up_r, row_r, row_s]; rfl
  · simp (disch := omega) only [up_r, row_r, row_s]
  · funext i
    show _ = INI 120 i
    have hI : INI 120 i = (if i = 0 then 121 else if i = 1 then 122 else if i = 2 then 123 else if i = 3 then 124 else z0 4 i) := rfl
    rw [hI]
    by_cases y_0 : i = 0
    · rw [if_pos y_0, y_0]; simp (disch := omega) only [up_i, up_s, up_k, up_r, row_r]
    · rw [if_neg y_0]
      by_cases y_1 : i = 1
      · rw [if_pos y_1, y_1]; simp (disch := omega) only [up_i, up_s, up_k, up_r, row_r]
      · rw [if_neg y_1]
        by_cases y_2 : i = 2
        · rw [if_pos y_2, y_2]; simp (disch := omega) only [up_i, up_s, up_k, up_r, row_r]
        · rw [if_neg y_2]
          by_cases y_3 : i = 3
          · rw [if_pos y_3, y_3]; simp (disch := omega) only [up_i, up_s, up_k, up_r, row_r]
          · rw [if_neg y_3]
            (try (simp (disch := omega) only [up_i, up_s, up_k, up_r, row_r])); rw [hz]
set_option maxRecDepth 100000 in
set_option maxHeartbeats 4000000 in
theorem i_125 {V : VX} {F : Hp} (hz : F 125 = z0 2) : Ct V yX2_init cX2_init 1 none 1 20 5 60 (RSH.take 126) [vr V 125] F (RSH.take 131) 0 (fun _ F' => Ini 125 126 131 F F') := by
  refine Ct.ofI [some (vr V 125)] (by decide) rfl (by simp [lg_sl, vi_cat, vl_cat, vr_cat]) rfl (by simp [asc, lv_args, vi_cat, vl_cat, vr_cat]) (fun X hV hX hin => ?_)
  subst hV
  refine R_aload_0 hX dX2_init_0 ?_
  refine R_objInit hX (by decide) dX2_init_1 oi_X2_3 oi_i oi_c ⟨by decide, by decide, rfl, by decide⟩ ?_
  refine R_aload_0 hX dX2_init_4 ?_
  refine R_bipush hX dX2_init_5 rfl ?_
  refine R_newaS hX (atype := .int) (ty := .int) (n := 12) rfl (Or.inl rfl) ac_int (by decide) ⟨by decide, by decide⟩ dX2_init_7 rfl (sh2 := RSH.take 127) (k := 126) rfl rfl ?_
  refine R_putFa (t := .int) hX (fun _ _ => rfl) hin dX2_init_9 fl_X2_9 rfl (rs := []) ⟨by decide, rfl⟩ rfl ?_
  refine R_aload_0 hX dX2_init_12 ?_
  refine R_bipush hX dX2_init_13 rfl ?_
  refine R_newaS hX (atype := .int) (ty := .int) (n := 12) rfl (Or.inl rfl) ac_int (by decide) ⟨by decide, by decide⟩ dX2_init_15 rfl (sh2 := RSH.take 128) (k := 127) rfl rfl ?_
  refine R_putFa (t := .int) hX (fun _ _ => rfl) hin dX2_init_17 fl_X2_15 rfl (rs := []) ⟨by decide, rfl⟩ rfl ?_
  refine R_aload_0 hX dX2_init_20 ?_
  refine R_bipush hX dX2_init_21 rfl ?_
  refine R_newaS hX (atype := .int) (ty := .int) (n := 12) rfl (Or.inl rfl) ac_int (by decide) ⟨by decide, by decide⟩ dX2_init_23 rfl (sh2 := RSH.take 129) (k := 128) rfl rfl ?_
  refine R_putFa (t := .int) hX (fun _ _ => rfl) hin dX2_init_25 fl_X2_18 rfl (rs := []) ⟨by decide, rfl⟩ rfl ?_
  refine R_aload_0 hX dX2_init_28 ?_
  refine R_bipush hX dX2_init_29 rfl ?_
  refine R_newaS hX (atype := .int) (ty := .int) (n := 12) rfl (Or.inl rfl) ac_int (by decide) ⟨by decide, by decide⟩ dX2_init_31 rfl (sh2 := RSH.take 130) (k := 129) rfl rfl ?_
  refine R_putFa (t := .int) hX (fun _ _ => rfl) hin dX2_init_33 fl_X2_21 rfl (rs := []) ⟨by decide, rfl⟩ rfl ?_
  refine R_aload_0 hX dX2_init_36 ?_
  refine R_bipush hX dX2_init_37 rfl ?_
  refine R_newaS hX (atype := .int) (ty := .int) (n := 12) rfl (Or.inl rfl) ac_int (by decide) ⟨by decide, by decide⟩ dX2_init_39 rfl (sh2 := RSH.take 131) (k := 130) rfl rfl ?_
  refine R_putFa (t := .int) hX (fun _ _ => rfl) hin dX2_init_41 fl_X2_24 rfl (rs := []) ⟨by decide, rfl⟩ rfl ?_
  refine R_vret hX dX2_init_44 ⟨fun a h0 h1 => ?_, fun a h0 h1 => ?_, ?_⟩
  · have hc : a = 126 ∨ a = 127 ∨ a = 128 ∨ a = 129 ∨ a = 130 := by omega
    rcases hc with rfl | rfl | rfl | rfl | rfl
    · simp (disch := omega) only [up_r, row_r, row_s]; rfl
    · simp (disch := omega) only [up_r, row_r, row_s]; rfl
    · simp (disch := omega) only [up_r, row_r, row_s]; rfl
    · simp (disch := omega) only [up_r, row_r, row_s]; rfl
    · simp (disch := omega) only [up_r, row_r, row_s]; rfl
  · simp (disch := omega) only [up_r, row_r, row_s]
  · funext i
    show _ = INI 125 i
    have hI : INI 125 i = (if i = 0 then 126 else if i = 1 then 127 else if i = 2 then 128 else if i = 3 then 129 else if i = 4 then 130 else z0 2 i) := rfl
    rw [hI]
    by_cases y_0 : i = 0
    · rw [if_pos y_0, y_0]; simp (disch := omega) only [up_i, up_s, up_k, up_r, row_r]
    · rw [if_neg y_0]
      by_cases y_1 : i = 1
      · rw [if_pos y_1, y_1]; simp (disch := omega) only [up_i, up_s, up_k, up_r, row_r]
      · rw [if_neg y_1]
        by_cases y_2 : i = 2
        · rw [if_pos y_2, y_2]; simp (disch := omega) only [up_i, up_s, up_k, up_r, row_r]
        · rw [if_neg y_2]
          by_cases y_3 : i = 3
          · rw [if_pos y_3, y_3]; simp (disch := omega) only [up_i, up_s, up_k, up_r, row_r]
          · rw [if_neg y_3]
            by_cases y_4 : i = 4
            · rw [if_pos y_4, y_4]; simp (disch := omega) only [up_i, up_s, up_k, up_r, row_r]
            · rw [if_neg y_4]
              (try (simp (disch := omega) only [up_i, up_s, up_k, up_r, row_r])); rw [hz]
set_option maxRecDepth 100000 in
set_option maxHeartbeats 4000000 in
theorem i_131 {V : VX} {F : Hp} (hz : F 131 = z0 3) : Ct V yX3_init cX3_init 1 none 1 20 4 96 (RSH.take 132) [vr V 131] F (RSH.take 136) 0 (fun _ F' => Ini 131 132 136 F F') := by
  refine Ct.ofI [some (vr V 131)] (by decide) rfl (by simp [lg_sl, vi_cat, vl_cat, vr_cat]) rfl (by simp [asc, lv_args, vi_cat, vl_cat, vr_cat]) (fun X hV hX hin => ?_)
  subst hV
  refine R_aload_0 hX dX3_init_0 ?_
  refine R_objInit hX (by decide) dX3_init_1 oi_X3_3 oi_i oi_c ⟨by decide, by decide, rfl, by decide⟩ ?_
  refine R_aload_0 hX dX3_init_4 ?_
  refine R_bipush hX dX3_init_5 rfl ?_
  refine R_newaS hX (atype := .int) (ty := .int) (n := 24) rfl (Or.inl rfl) ac_int (by decide) ⟨by decide, by decide⟩ dX3_init_7 rfl (sh2 := RSH.take 133) (k := 132) rfl rfl ?_
  refine R_putFa (t := .int) hX (fun _ _ => rfl) hin dX3_init_9 fl_X3_9 rfl (rs := []) ⟨by decide, rfl⟩ rfl ?_
  refine R_aload_0 hX dX3_init_12 ?_
  refine R_bipush hX dX3_init_13 rfl ?_
  refine R_newaS hX (atype := .int) (ty := .int) (n := 24) rfl (Or.inl rfl) ac_int (by decide) ⟨by decide, by decide⟩ dX3_init_15 rfl (sh2 := RSH.take 134) (k := 133) rfl rfl ?_
  refine R_putFa (t := .int) hX (fun _ _ => rfl) hin dX3_init_17 fl_X3_15 rfl (rs := []) ⟨by decide, rfl⟩ rfl ?_
  refine R_aload_0 hX dX3_init_20 ?_
  refine R_bipush hX dX3_init_21 rfl ?_
  refine R_newaS hX (atype := .int) (ty := .int) (n := 24) rfl (Or.inl rfl) ac_int (by decide) ⟨by decide, by decide⟩ dX3_init_23 rfl (sh2 := RSH.take 135) (k := 134) rfl rfl ?_
  refine R_putFa (t := .int) hX (fun _ _ => rfl) hin dX3_init_25 fl_X3_18 rfl (rs := []) ⟨by decide, rfl⟩ rfl ?_
  refine R_aload_0 hX dX3_init_28 ?_
  refine R_bipush hX dX3_init_29 rfl ?_
  refine R_newaS hX (atype := .int) (ty := .int) (n := 24) rfl (Or.inl rfl) ac_int (by decide) ⟨by decide, by decide⟩ dX3_init_31 rfl (sh2 := RSH.take 136) (k := 135) rfl rfl ?_
  refine R_putFa (t := .int) hX (fun _ _ => rfl) hin dX3_init_33 fl_X3_21 rfl (rs := []) ⟨by decide, rfl⟩ rfl ?_
  refine R_vret hX dX3_init_36 ⟨fun a h0 h1 => ?_, fun a h0 h1 => ?_, ?_⟩
  · have hc : a = 132 ∨ a = 133 ∨ a = 134 ∨ a = 135 := by omega
    rcases hc with rfl | rfl | rfl | rfl
    · simp (disch := omega) only [up_r, row_r, row_s]; rfl
    · simp (disch := omega) only [up_r, row_r, row_s]; rfl
    · simp (disch := omega) only [up_r, row_r, row_s]; rfl
    · simp (disch := omega) only [up_r, row_r, row_s]; rfl
  · simp (disch := omega) only [up_r, row_r, row_s]
  · funext i
    show _ = INI 131 i
    have hI : INI 131 i = (if i = 1 then 132 else if i = 2 then 133 else if i = 3 then 134 else if i = 4 then 135 else z0 3 i) := rfl
    rw [hI]
    by_cases y_1 : i = 1
    · rw [if_pos y_1, y_1]; simp (disch := omega) only [up_i, up_s, up_k, up_r, row_r]
    · rw [if_neg y_1]
      by_cases y_2 : i = 2
      · rw [if_pos y_2, y_2]; simp (disch := omega) only [up_i, up_s, up_k, up_r, row_r]
      · rw [if_neg y_2]
        by_cases y_3 : i = 3
        · rw [if_pos y_3, y_3]; simp (disch := omega) only [up_i, up_s, up_k, up_r, row_r]
        · rw [if_neg y_3]
          by_cases y_4 : i = 4
          · rw [if_pos y_4, y_4]; simp (disch := omega) only [up_i, up_s, up_k, up_r, row_r]
          · rw [if_neg y_4]
            (try (simp (disch := omega) only [up_i, up_s, up_k, up_r, row_r])); rw [hz]
set_option maxRecDepth 100000 in
set_option maxHeartbeats 4000000 in
theorem i_112 {V : VX} {F : Hp} (hz : F 112 = z0 8) : Ct V yX8_init cX8_init 1 none 2 40 23 834 (RSH.take 113) [vr V 112] F (RSH.take 136) 0 (fun _ F' => Ini 112 113 136 F F') := by
  refine Ct.ofI [some (vr V 112)] (by decide) rfl (by simp [lg_sl, vi_cat, vl_cat, vr_cat]) rfl (by simp [asc, lv_args, vi_cat, vl_cat, vr_cat]) (fun X hV hX hin => ?_)
  subst hV
  refine R_aload_0 hX dX8_init_0 ?_
  refine R_objInit hX (by decide) dX8_init_1 oi_X8_3 oi_i oi_c ⟨by decide, by decide, rfl, by decide⟩ ?_
  refine R_aload_0 hX dX8_init_4 ?_
  refine R_bipush hX dX8_init_5 rfl ?_
  refine R_newaS hX (atype := .int) (ty := .int) (n := 12) rfl (Or.inl rfl) ac_int (by decide) ⟨by decide, by decide⟩ dX8_init_7 rfl (sh2 := RSH.take 114) (k := 113) rfl rfl ?_
  refine R_putFa (t := .int) hX (fun _ _ => rfl) hin dX8_init_9 fl_X8_9 rfl (rs := []) ⟨by decide, rfl⟩ rfl ?_
  refine R_aload_0 hX dX8_init_12 ?_
  refine R_bipush hX dX8_init_13 rfl ?_
  refine R_newaS hX (atype := .int) (ty := .int) (n := 12) rfl (Or.inl rfl) ac_int (by decide) ⟨by decide, by decide⟩ dX8_init_15 rfl (sh2 := RSH.take 115) (k := 114) rfl rfl ?_
  refine R_putFa (t := .int) hX (fun _ _ => rfl) hin dX8_init_17 fl_X8_15 rfl (rs := []) ⟨by decide, rfl⟩ rfl ?_
  refine R_aload_0 hX dX8_init_20 ?_
  refine R_bipush hX dX8_init_21 rfl ?_
  refine R_newaS hX (atype := .int) (ty := .int) (n := 12) rfl (Or.inl rfl) ac_int (by decide) ⟨by decide, by decide⟩ dX8_init_23 rfl (sh2 := RSH.take 116) (k := 115) rfl rfl ?_
  refine R_putFa (t := .int) hX (fun _ _ => rfl) hin dX8_init_25 fl_X8_18 rfl (rs := []) ⟨by decide, rfl⟩ rfl ?_
  refine R_aload_0 hX dX8_init_28 ?_
  refine R_newS hX cf_0 cl_X8_21 is_X0 in_RateLimiter_Accounts (by decide) ⟨by decide, by decide⟩ dX8_init_29 (sh2 := RSH.take 117) (n := 116) rfl rfl ?_
  refine R_dup hX c1_r dX8_init_32 ?_
  refine R_cN0 hX dX8_init_33 li_X8_23 mk_X0_init mc_X0_init (rs := []) ⟨by decide, rfl⟩ (i_116 (by simp only [row_s])) ⟨⟨by decide, by decide⟩, by decide, by decide, rfl, Nat.le_of_ble_eq_true rfl, rfl⟩ (fun x_33 G_33 h_33 => ?_)
  obtain ⟨p_33, q_33, r_33⟩ := h_33
  refine R_putFo hX hin dX8_init_36 fl_X8_24 rfl (rs := []) ⟨by decide, rfl⟩ rfl ?_
  refine R_aload_0 hX dX8_init_39 ?_
  refine R_newS hX cf_4 cl_X8_28 is_X4 in_RateLimiter_Queues (by decide) ⟨by decide, by decide⟩ dX8_init_40 (sh2 := RSH.take 121) (n := 120) rfl rfl ?_
  refine R_dup hX c1_r dX8_init_43 ?_
  refine R_cN0 hX dX8_init_44 li_X8_30 mk_X4_init mc_X4_init (rs := []) ⟨by decide, rfl⟩ (i_120 (by simp only [row_s])) ⟨⟨by decide, by decide⟩, by decide, by decide, rfl, Nat.le_of_ble_eq_true rfl, rfl⟩ (fun x_44 G_44 h_44 => ?_)
  obtain ⟨p_44, q_44, r_44⟩ := h_44
  refine R_putFo hX hin dX8_init_47 fl_X8_31 rfl (rs := []) ⟨by decide, rfl⟩ rfl ?_
  refine R_aload_0 hX dX8_init_50 ?_
  refine R_newS hX cf_2 cl_X8_35 is_X2 in_RateLimiter_Counts (by decide) ⟨by decide, by decide⟩ dX8_init_51 (sh2 := RSH.take 126) (n := 125) rfl rfl ?_
  refine R_dup hX c1_r dX8_init_54 ?_
  refine R_cN0 hX dX8_init_55 li_X8_37 mk_X2_init mc_X2_init (rs := []) ⟨by decide, rfl⟩ (i_125 (by simp only [row_s])) ⟨⟨by decide, by decide⟩, by decide, by decide, rfl, Nat.le_of_ble_eq_true rfl, rfl⟩ (fun x_55 G_55 h_55 => ?_)
  obtain ⟨p_55, q_55, r_55⟩ := h_55
  refine R_putFo hX hin dX8_init_58 fl_X8_38 rfl (rs := []) ⟨by decide, rfl⟩ rfl ?_
  refine R_aload_0 hX dX8_init_61 ?_
  refine R_newS hX cf_3 cl_X8_42 is_X3 in_RateLimiter_Log (by decide) ⟨by decide, by decide⟩ dX8_init_62 (sh2 := RSH.take 132) (n := 131) rfl rfl ?_
  refine R_dup hX c1_r dX8_init_65 ?_
  refine R_cN0 hX dX8_init_66 li_X8_44 mk_X3_init mc_X3_init (rs := []) ⟨by decide, rfl⟩ (i_131 (by simp only [row_s])) ⟨⟨by decide, by decide⟩, by decide, by decide, rfl, Nat.le_of_ble_eq_true rfl, rfl⟩ (fun x_66 G_66 h_66 => ?_)
  obtain ⟨p_66, q_66, r_66⟩ := h_66
  refine R_putFo hX hin dX8_init_69 fl_X8_45 rfl (rs := []) ⟨by decide, rfl⟩ rfl ?_
  refine R_vret hX dX8_init_72 ⟨fun a h0 h1 => ?_, fun a h0 h1 => ?_, ?_⟩
  · have hc : a = 113 ∨ a = 114 ∨ a = 115 ∨ a = 116 ∨ (117 ≤ a ∧ a < 120) ∨ a = 120 ∨ (121 ≤ a ∧ a < 125) ∨ a = 125 ∨ (126 ≤ a ∧ a < 131) ∨ a = 131 ∨ (132 ≤ a ∧ a < 136) := by omega
    rcases hc with rfl | rfl | rfl | rfl | hc | rfl | hc | rfl | hc | rfl | hc
    · simp (disch := omega) only [up_r, row_r, row_s, p_33, p_44, p_55, p_66, q_33, q_44, q_55, q_66, r_33, r_44, r_55, r_66]; rfl
    · simp (disch := omega) only [up_r, row_r, row_s, p_33, p_44, p_55, p_66, q_33, q_44, q_55, q_66, r_33, r_44, r_55, r_66]; rfl
    · simp (disch := omega) only [up_r, row_r, row_s, p_33, p_44, p_55, p_66, q_33, q_44, q_55, q_66, r_33, r_44, r_55, r_66]; rfl
    · simp (disch := omega) only [up_r, row_r, row_s, p_33, p_44, p_55, p_66, q_33, q_44, q_55, q_66, r_33, r_44, r_55, r_66]
    · simp (disch := omega) only [up_r, row_r, row_s, p_33, p_44, p_55, p_66, q_33, q_44, q_55, q_66, r_33, r_44, r_55, r_66]
    · simp (disch := omega) only [up_r, row_r, row_s, p_33, p_44, p_55, p_66, q_33, q_44, q_55, q_66, r_33, r_44, r_55, r_66]
    · simp (disch := omega) only [up_r, row_r, row_s, p_33, p_44, p_55, p_66, q_33, q_44, q_55, q_66, r_33, r_44, r_55, r_66]
    · simp (disch := omega) only [up_r, row_r, row_s, p_33, p_44, p_55, p_66, q_33, q_44, q_55, q_66, r_33, r_44, r_55, r_66]
    · simp (disch := omega) only [up_r, row_r, row_s, p_33, p_44, p_55, p_66, q_33, q_44, q_55, q_66, r_33, r_44, r_55, r_66]
    · simp (disch := omega) only [up_r, row_r, row_s, p_33, p_44, p_55, p_66, q_33, q_44, q_55, q_66, r_33, r_44, r_55, r_66]
    · simp (disch := omega) only [up_r, row_r, row_s, p_33, p_44, p_55, p_66, q_33, q_44, q_55, q_66, r_33, r_44, r_55, r_66]
  · simp (disch := omega) only [up_r, row_r, row_s, p_33, p_44, p_55, p_66, q_33, q_44, q_55, q_66, r_33, r_44, r_55, r_66]
  · funext i
    show _ = INI 112 i
    have hI : INI 112 i = (if i = 2 then 113 else if i = 3 then 114 else if i = 4 then 115 else if i = 5 then 116 else if i = 6 then 120 else if i = 7 then 125 else if i = 8 then 131 else z0 8 i) := rfl
    rw [hI]
    by_cases y_2 : i = 2
    · rw [if_pos y_2, y_2]; simp (disch := omega) only [up_i, up_s, up_k, up_r, row_r, p_33, p_44, p_55, p_66, q_33, q_44, q_55, q_66, r_33, r_44, r_55, r_66]
    · rw [if_neg y_2]
      by_cases y_3 : i = 3
      · rw [if_pos y_3, y_3]; simp (disch := omega) only [up_i, up_s, up_k, up_r, row_r, p_33, p_44, p_55, p_66, q_33, q_44, q_55, q_66, r_33, r_44, r_55, r_66]
      · rw [if_neg y_3]
        by_cases y_4 : i = 4
        · rw [if_pos y_4, y_4]; simp (disch := omega) only [up_i, up_s, up_k, up_r, row_r, p_33, p_44, p_55, p_66, q_33, q_44, q_55, q_66, r_33, r_44, r_55, r_66]
        · rw [if_neg y_4]
          by_cases y_5 : i = 5
          · rw [if_pos y_5, y_5]; simp (disch := omega) only [up_i, up_s, up_k, up_r, row_r, p_33, p_44, p_55, p_66, q_33, q_44, q_55, q_66, r_33, r_44, r_55, r_66]
          · rw [if_neg y_5]
            by_cases y_6 : i = 6
            · rw [if_pos y_6, y_6]; simp (disch := omega) only [up_i, up_s, up_k, up_r, row_r, p_33, p_44, p_55, p_66, q_33, q_44, q_55, q_66, r_33, r_44, r_55, r_66]
            · rw [if_neg y_6]
              by_cases y_7 : i = 7
              · rw [if_pos y_7, y_7]; simp (disch := omega) only [up_i, up_s, up_k, up_r, row_r, p_33, p_44, p_55, p_66, q_33, q_44, q_55, q_66, r_33, r_44, r_55, r_66]
              · rw [if_neg y_7]
                by_cases y_8 : i = 8
                · rw [if_pos y_8, y_8]; simp (disch := omega) only [up_i, up_s, up_k, up_r, row_r, p_33, p_44, p_55, p_66, q_33, q_44, q_55, q_66, r_33, r_44, r_55, r_66]
                · rw [if_neg y_8]
                  (try (simp (disch := omega) only [up_i, up_s, up_k, up_r, row_r, p_33, p_44, p_55, p_66, q_33, q_44, q_55, q_66, r_33, r_44, r_55, r_66])); rw [hz]
set_option maxRecDepth 100000 in
set_option maxHeartbeats 4000000 in
theorem i_0 {V : VX} {F : Hp} (hz : F 0 = z0 11) : Ct V yX11_init cX11_init 1 none 4 80 135 4695 (RSH.take 1) [vr V 0] F (RSH.take 136) 0 (fun _ F' => Ini 0 1 136 F F') := by
  refine Ct.ofI [some (vr V 0)] (by decide) rfl (by simp [lg_sl, vi_cat, vl_cat, vr_cat]) rfl (by simp [asc, lv_args, vi_cat, vl_cat, vr_cat]) (fun X hV hX hin => ?_)
  subst hV
  refine R_aload_0 hX dX11_init_0 ?_
  refine R_objInit hX (by decide) dX11_init_1 oi_X11_1 oi_i oi_c ⟨by decide, by decide, rfl, by decide⟩ ?_
  refine R_aload_0 hX dX11_init_4 ?_
  refine R_newS hX cf_9 cl_X11_7 is_X9 in_RateLimiter_Text (by decide) ⟨by decide, by decide⟩ dX11_init_5 (sh2 := RSH.take 2) (n := 1) rfl rfl ?_
  refine R_dup hX c1_r dX11_init_8 ?_
  refine R_cN0 hX dX11_init_9 li_X11_9 mk_X9_init mc_X9_init (rs := []) ⟨by decide, rfl⟩ (i_1 (by simp only [row_s])) ⟨⟨by decide, by decide⟩, by decide, by decide, rfl, Nat.le_of_ble_eq_true rfl, rfl⟩ (fun x_9 G_9 h_9 => ?_)
  obtain ⟨p_9, q_9, r_9⟩ := h_9
  refine R_putFo hX hin dX11_init_12 fl_X11_10 rfl (rs := []) ⟨by decide, rfl⟩ rfl ?_
  refine R_aload_0 hX dX11_init_15 ?_
  refine R_newS hX cf_5 cl_X11_16 is_X5 in_RateLimiter_Reader (by decide) ⟨by decide, by decide⟩ dX11_init_16 (sh2 := RSH.take 4) (n := 3) rfl rfl ?_
  refine R_dup hX c1_r dX11_init_19 ?_
  refine R_cN0 hX dX11_init_20 li_X11_18 mk_X5_init mc_X5_init (rs := []) ⟨by decide, rfl⟩ (i_3 (by simp only [row_s])) ⟨⟨by decide, by decide⟩, by decide, by decide, rfl, Nat.le_of_ble_eq_true rfl, rfl⟩ (fun x_20 G_20 h_20 => ?_)
  obtain ⟨p_20, q_20, r_20⟩ := h_20
  refine R_putFo hX hin dX11_init_23 fl_X11_19 rfl (rs := []) ⟨by decide, rfl⟩ rfl ?_
  refine R_aload_0 hX dX11_init_26 ?_
  refine R_newS hX cf_10 cl_X11_23 is_X10 in_RateLimiter_Writer (by decide) ⟨by decide, by decide⟩ dX11_init_27 (sh2 := RSH.take 23) (n := 22) rfl rfl ?_
  refine R_dup hX c1_r dX11_init_30 ?_
  refine R_cN0 hX dX11_init_31 li_X11_25 mk_X10_init mc_X10_init (rs := []) ⟨by decide, rfl⟩ (i_22 (by simp only [row_s])) ⟨⟨by decide, by decide⟩, by decide, by decide, rfl, Nat.le_of_ble_eq_true rfl, rfl⟩ (fun x_31 G_31 h_31 => ?_)
  obtain ⟨p_31, q_31, r_31⟩ := h_31
  refine R_putFo hX hin dX11_init_34 fl_X11_26 rfl (rs := []) ⟨by decide, rfl⟩ rfl ?_
  refine R_aload_0 hX dX11_init_37 ?_
  refine R_newS hX cf_7 cl_X11_30 is_X7 in_RateLimiter_Setup (by decide) ⟨by decide, by decide⟩ dX11_init_38 (sh2 := RSH.take 24) (n := 23) rfl rfl ?_
  refine R_dup hX c1_r dX11_init_41 ?_
  refine R_cN0 hX dX11_init_42 li_X11_32 mk_X7_init mc_X7_init (rs := []) ⟨by decide, rfl⟩ (i_23 (by simp only [row_s])) ⟨⟨by decide, by decide⟩, by decide, by decide, rfl, Nat.le_of_ble_eq_true rfl, rfl⟩ (fun x_42 G_42 h_42 => ?_)
  obtain ⟨p_42, q_42, r_42⟩ := h_42
  refine R_puto hX dX11_init_45 fl_X11_33 (rs := []) ⟨by decide, rfl⟩ rfl ?_
  refine R_aload_0 hX dX11_init_48 ?_
  refine R_newS hX cf_8 cl_X11_37 is_X8 in_RateLimiter_State (by decide) ⟨by decide, by decide⟩ dX11_init_49 (sh2 := RSH.take 41) (n := 40) rfl rfl ?_
  refine R_dup hX c1_r dX11_init_52 ?_
  refine R_cN0 hX dX11_init_53 li_X11_39 mk_X8_init mc_X8_init (rs := []) ⟨by decide, rfl⟩ (i_40 (by simp only [row_s])) ⟨⟨by decide, by decide⟩, by decide, by decide, rfl, Nat.le_of_ble_eq_true rfl, rfl⟩ (fun x_53 G_53 h_53 => ?_)
  obtain ⟨p_53, q_53, r_53⟩ := h_53
  refine R_putFo hX hin dX11_init_56 fl_X11_40 rfl (rs := []) ⟨by decide, rfl⟩ rfl ?_
  refine R_aload_0 hX dX11_init_59 ?_
  refine R_newS hX cf_8 cl_X11_37 is_X8 in_RateLimiter_State (by decide) ⟨by decide, by decide⟩ dX11_init_60 (sh2 := RSH.take 65) (n := 64) rfl rfl ?_
  refine R_dup hX c1_r dX11_init_63 ?_
  refine R_cN0 hX dX11_init_64 li_X11_39 mk_X8_init mc_X8_init (rs := []) ⟨by decide, rfl⟩ (i_64 (by simp only [row_s])) ⟨⟨by decide, by decide⟩, by decide, by decide, rfl, Nat.le_of_ble_eq_true rfl, rfl⟩ (fun x_64 G_64 h_64 => ?_)
  obtain ⟨p_64, q_64, r_64⟩ := h_64
  refine R_putFo hX hin dX11_init_67 fl_X11_44 rfl (rs := []) ⟨by decide, rfl⟩ rfl ?_
  refine R_aload_0 hX dX11_init_70 ?_
  refine R_newS hX cf_8 cl_X11_37 is_X8 in_RateLimiter_State (by decide) ⟨by decide, by decide⟩ dX11_init_71 (sh2 := RSH.take 89) (n := 88) rfl rfl ?_
  refine R_dup hX c1_r dX11_init_74 ?_
  refine R_cN0 hX dX11_init_75 li_X11_39 mk_X8_init mc_X8_init (rs := []) ⟨by decide, rfl⟩ (i_88 (by simp only [row_s])) ⟨⟨by decide, by decide⟩, by decide, by decide, rfl, Nat.le_of_ble_eq_true rfl, rfl⟩ (fun x_75 G_75 h_75 => ?_)
  obtain ⟨p_75, q_75, r_75⟩ := h_75
  refine R_putFo hX hin dX11_init_78 fl_X11_47 rfl (rs := []) ⟨by decide, rfl⟩ rfl ?_
  refine R_aload_0 hX dX11_init_81 ?_
  refine R_newS hX cf_8 cl_X11_37 is_X8 in_RateLimiter_State (by decide) ⟨by decide, by decide⟩ dX11_init_82 (sh2 := RSH.take 113) (n := 112) rfl rfl ?_
  refine R_dup hX c1_r dX11_init_85 ?_
  refine R_cN0 hX dX11_init_86 li_X11_39 mk_X8_init mc_X8_init (rs := []) ⟨by decide, rfl⟩ (i_112 (by simp only [row_s])) ⟨⟨by decide, by decide⟩, by decide, by decide, rfl, Nat.le_of_ble_eq_true rfl, rfl⟩ (fun x_86 G_86 h_86 => ?_)
  obtain ⟨p_86, q_86, r_86⟩ := h_86
  refine R_putFo hX hin dX11_init_89 fl_X11_50 rfl (rs := []) ⟨by decide, rfl⟩ rfl ?_
  refine R_vret hX dX11_init_92 ⟨fun a h0 h1 => ?_, fun a h0 h1 => ?_, ?_⟩
  · have hc : a = 1 ∨ (2 ≤ a ∧ a < 3) ∨ a = 3 ∨ (4 ≤ a ∧ a < 22) ∨ a = 22 ∨ a = 23 ∨ (24 ≤ a ∧ a < 40) ∨ a = 40 ∨ (41 ≤ a ∧ a < 64) ∨ a = 64 ∨ (65 ≤ a ∧ a < 88) ∨ a = 88 ∨ (89 ≤ a ∧ a < 112) ∨ a = 112 ∨ (113 ≤ a ∧ a < 136) := by omega
    rcases hc with rfl | hc | rfl | hc | rfl | rfl | hc | rfl | hc | rfl | hc | rfl | hc | rfl | hc
    · simp (disch := omega) only [up_r, row_r, row_s, p_9, p_20, p_31, p_42, p_53, p_64, p_75, p_86, q_9, q_20, q_31, q_42, q_53, q_64, q_75, q_86, r_9, r_20, r_31, r_42, r_53, r_64, r_75, r_86]
    · simp (disch := omega) only [up_r, row_r, row_s, p_9, p_20, p_31, p_42, p_53, p_64, p_75, p_86, q_9, q_20, q_31, q_42, q_53, q_64, q_75, q_86, r_9, r_20, r_31, r_42, r_53, r_64, r_75, r_86]
    · simp (disch := omega) only [up_r, row_r, row_s, p_9, p_20, p_31, p_42, p_53, p_64, p_75, p_86, q_9, q_20, q_31, q_42, q_53, q_64, q_75, q_86, r_9, r_20, r_31, r_42, r_53, r_64, r_75, r_86]
    · simp (disch := omega) only [up_r, row_r, row_s, p_9, p_20, p_31, p_42, p_53, p_64, p_75, p_86, q_9, q_20, q_31, q_42, q_53, q_64, q_75, q_86, r_9, r_20, r_31, r_42, r_53, r_64, r_75, r_86]
    · simp (disch := omega) only [up_r, row_r, row_s, p_9, p_20, p_31, p_42, p_53, p_64, p_75, p_86, q_9, q_20, q_31, q_42, q_53, q_64, q_75, q_86, r_9, r_20, r_31, r_42, r_53, r_64, r_75, r_86]
    · simp (disch := omega) only [up_r, row_r, row_s, p_9, p_20, p_31, p_42, p_53, p_64, p_75, p_86, q_9, q_20, q_31, q_42, q_53, q_64, q_75, q_86, r_9, r_20, r_31, r_42, r_53, r_64, r_75, r_86]
    · simp (disch := omega) only [up_r, row_r, row_s, p_9, p_20, p_31, p_42, p_53, p_64, p_75, p_86, q_9, q_20, q_31, q_42, q_53, q_64, q_75, q_86, r_9, r_20, r_31, r_42, r_53, r_64, r_75, r_86]
    · simp (disch := omega) only [up_r, row_r, row_s, p_9, p_20, p_31, p_42, p_53, p_64, p_75, p_86, q_9, q_20, q_31, q_42, q_53, q_64, q_75, q_86, r_9, r_20, r_31, r_42, r_53, r_64, r_75, r_86]
    · simp (disch := omega) only [up_r, row_r, row_s, p_9, p_20, p_31, p_42, p_53, p_64, p_75, p_86, q_9, q_20, q_31, q_42, q_53, q_64, q_75, q_86, r_9, r_20, r_31, r_42, r_53, r_64, r_75, r_86]
    · simp (disch := omega) only [up_r, row_r, row_s, p_9, p_20, p_31, p_42, p_53, p_64, p_75, p_86, q_9, q_20, q_31, q_42, q_53, q_64, q_75, q_86, r_9, r_20, r_31, r_42, r_53, r_64, r_75, r_86]
    · simp (disch := omega) only [up_r, row_r, row_s, p_9, p_20, p_31, p_42, p_53, p_64, p_75, p_86, q_9, q_20, q_31, q_42, q_53, q_64, q_75, q_86, r_9, r_20, r_31, r_42, r_53, r_64, r_75, r_86]
    · simp (disch := omega) only [up_r, row_r, row_s, p_9, p_20, p_31, p_42, p_53, p_64, p_75, p_86, q_9, q_20, q_31, q_42, q_53, q_64, q_75, q_86, r_9, r_20, r_31, r_42, r_53, r_64, r_75, r_86]
    · simp (disch := omega) only [up_r, row_r, row_s, p_9, p_20, p_31, p_42, p_53, p_64, p_75, p_86, q_9, q_20, q_31, q_42, q_53, q_64, q_75, q_86, r_9, r_20, r_31, r_42, r_53, r_64, r_75, r_86]
    · simp (disch := omega) only [up_r, row_r, row_s, p_9, p_20, p_31, p_42, p_53, p_64, p_75, p_86, q_9, q_20, q_31, q_42, q_53, q_64, q_75, q_86, r_9, r_20, r_31, r_42, r_53, r_64, r_75, r_86]
    · simp (disch := omega) only [up_r, row_r, row_s, p_9, p_20, p_31, p_42, p_53, p_64, p_75, p_86, q_9, q_20, q_31, q_42, q_53, q_64, q_75, q_86, r_9, r_20, r_31, r_42, r_53, r_64, r_75, r_86]
  · simp (disch := omega) only [up_r, row_r, row_s, p_9, p_20, p_31, p_42, p_53, p_64, p_75, p_86, q_9, q_20, q_31, q_42, q_53, q_64, q_75, q_86, r_9, r_20, r_31, r_42, r_53, r_64, r_75, r_86]
  · funext i
    show _ = INI 0 i
    have hI : INI 0 i = (if i = 0 then 1 else if i = 1 then 3 else if i = 2 then 22 else if i = 3 then 23 else if i = 4 then 40 else if i = 5 then 64 else if i = 6 then 88 else if i = 7 then 112 else z0 11 i) := rfl
    rw [hI]
    by_cases y_0 : i = 0
    · rw [if_pos y_0, y_0]; simp (disch := omega) only [up_i, up_s, up_k, up_r, row_r, p_9, p_20, p_31, p_42, p_53, p_64, p_75, p_86, q_9, q_20, q_31, q_42, q_53, q_64, q_75, q_86, r_9, r_20, r_31, r_42, r_53, r_64, r_75, r_86]
    · rw [if_neg y_0]
      by_cases y_1 : i = 1
      · rw [if_pos y_1, y_1]; simp (disch := omega) only [up_i, up_s, up_k, up_r, row_r, p_9, p_20, p_31, p_42, p_53, p_64, p_75, p_86, q_9, q_20, q_31, q_42, q_53, q_64, q_75, q_86, r_9, r_20, r_31, r_42, r_53, r_64, r_75, r_86]
      · rw [if_neg y_1]
        by_cases y_2 : i = 2
        · rw [if_pos y_2, y_2]; simp (disch := omega) only [up_i, up_s, up_k, up_r, row_r, p_9, p_20, p_31, p_42, p_53, p_64, p_75, p_86, q_9, q_20, q_31, q_42, q_53, q_64, q_75, q_86, r_9, r_20, r_31, r_42, r_53, r_64, r_75, r_86]
        · rw [if_neg y_2]
          by_cases y_3 : i = 3
          · rw [if_pos y_3, y_3]; simp (disch := omega) only [up_i, up_s, up_k, up_r, row_r, p_9, p_20, p_31, p_42, p_53, p_64, p_75, p_86, q_9, q_20, q_31, q_42, q_53, q_64, q_75, q_86, r_9, r_20, r_31, r_42, r_53, r_64, r_75, r_86]
          · rw [if_neg y_3]
            by_cases y_4 : i = 4
            · rw [if_pos y_4, y_4]; simp (disch := omega) only [up_i, up_s, up_k, up_r, row_r, p_9, p_20, p_31, p_42, p_53, p_64, p_75, p_86, q_9, q_20, q_31, q_42, q_53, q_64, q_75, q_86, r_9, r_20, r_31, r_42, r_53, r_64, r_75, r_86]
            · rw [if_neg y_4]
              by_cases y_5 : i = 5
              · rw [if_pos y_5, y_5]; simp (disch := omega) only [up_i, up_s, up_k, up_r, row_r, p_9, p_20, p_31, p_42, p_53, p_64, p_75, p_86, q_9, q_20, q_31, q_42, q_53, q_64, q_75, q_86, r_9, r_20, r_31, r_42, r_53, r_64, r_75, r_86]
              · rw [if_neg y_5]
                by_cases y_6 : i = 6
                · rw [if_pos y_6, y_6]; simp (disch := omega) only [up_i, up_s, up_k, up_r, row_r, p_9, p_20, p_31, p_42, p_53, p_64, p_75, p_86, q_9, q_20, q_31, q_42, q_53, q_64, q_75, q_86, r_9, r_20, r_31, r_42, r_53, r_64, r_75, r_86]
                · rw [if_neg y_6]
                  by_cases y_7 : i = 7
                  · rw [if_pos y_7, y_7]; simp (disch := omega) only [up_i, up_s, up_k, up_r, row_r, p_9, p_20, p_31, p_42, p_53, p_64, p_75, p_86, q_9, q_20, q_31, q_42, q_53, q_64, q_75, q_86, r_9, r_20, r_31, r_42, r_53, r_64, r_75, r_86]
                  · rw [if_neg y_7]
                    (try (simp (disch := omega) only [up_i, up_s, up_k, up_r, row_r, p_9, p_20, p_31, p_42, p_53, p_64, p_75, p_86, q_9, q_20, q_31, q_42, q_53, q_64, q_75, q_86, r_9, r_20, r_31, r_42, r_53, r_64, r_75, r_86])); rw [hz]

