set_option maxRecDepth 100000 in
set_option maxHeartbeats 4000000 in
theorem c_coBegin {V : VX} {T : Shp} {F : Hp} {b : Int} (hb : isSt b) : Ct V yX2_begin cX2_begin 1 none 1 21 0 0 (SH T) [vr V (b + 13)] F (SH T) 0 (fun r F' => F' = fillz (fillz (fillz (fillz (fillz F (b + 14) 12) (b + 15) 12) (b + 16) 12) (b + 17) 12) (b + 18) 12) := by
  refine Ct.of [some (vr V (b + 13))] (by decide) (by simp [lg_sl, vi_cat, vl_cat, vr_cat]) rfl (by simp [asc, lv_args, vi_cat, vl_cat, vr_cat]) (fun X hV hX => ?_)
  subst hV
  refine R_aload_0 hX dX2_begin_0 ?_
  refine R_getq (v := b + 14) hX dX2_begin_1 fl_X2_9 (so_13 hb) rfl (by omega) ?_
  refine R_sN1v hX dX2_begin_4 li_X2_27 mk_X11_clearRow ms_X11_clearRow (c_clearRow (nn := 12) (sa_14 hb) rfl) ⟨⟨by decide, by decide⟩, by decide, by decide, rfl, Nat.le_of_ble_eq_true rfl, rfl⟩ (fun x_4 F_4 h_4 => ?_)
  subst h_4
  refine R_aload_0 hX dX2_begin_7 ?_
  refine R_getq (v := b + 15) hX dX2_begin_8 fl_X2_15 (so_13 hb) rfl (by omega) ?_
  refine R_sN1v hX dX2_begin_11 li_X2_27 mk_X11_clearRow ms_X11_clearRow (c_clearRow (nn := 12) (sa_15 hb) rfl) ⟨⟨by decide, by decide⟩, by decide, by decide, rfl, Nat.le_of_ble_eq_true rfl, rfl⟩ (fun x_11 F_11 h_11 => ?_)
  subst h_11
  refine R_aload_0 hX dX2_begin_14 ?_
  refine R_getq (v := b + 16) hX dX2_begin_15 fl_X2_18 (so_13 hb) rfl (by omega) ?_
  refine R_sN1v hX dX2_begin_18 li_X2_27 mk_X11_clearRow ms_X11_clearRow (c_clearRow (nn := 12) (sa_16 hb) rfl) ⟨⟨by decide, by decide⟩, by decide, by decide, rfl, Nat.le_of_ble_eq_true rfl, rfl⟩ (fun x_18 F_18 h_18 => ?_)
  subst h_18
  refine R_aload_0 hX dX2_begin_21 ?_
  refine R_getq (v := b + 17) hX dX2_begin_22 fl_X2_21 (so_13 hb) rfl (by omega) ?_
  refine R_sN1v hX dX2_begin_25 li_X2_27 mk_X11_clearRow ms_X11_clearRow (c_clearRow (nn := 12) (sa_17 hb) rfl) ⟨⟨by decide, by decide⟩, by decide, by decide, rfl, Nat.le_of_ble_eq_true rfl, rfl⟩ (fun x_25 F_25 h_25 => ?_)
  subst h_25
  refine R_aload_0 hX dX2_begin_28 ?_
  refine R_getq (v := b + 18) hX dX2_begin_29 fl_X2_24 (so_13 hb) rfl (by omega) ?_
  refine R_sN1v hX dX2_begin_32 li_X2_27 mk_X11_clearRow ms_X11_clearRow (c_clearRow (nn := 12) (sa_18 hb) rfl) ⟨⟨by decide, by decide⟩, by decide, by decide, rfl, Nat.le_of_ble_eq_true rfl, rfl⟩ (fun x_32 F_32 h_32 => ?_)
  subst h_32
  exact R_vret hX dX2_begin_35 rfl
set_option maxRecDepth 100000 in
set_option maxHeartbeats 4000000 in
theorem c_countSent {V : VX} {T : Shp} {F : Hp} {b : Int} (hb : isSt b) {leaf lender cost : Int} (hl : 0 ≤ leaf ∧ leaf < 12) (hv : 0 ≤ lender ∧ lender < 12) : Ct V yX2_countSent cX2_countSent 4 none 0 0 0 0 (SH T) [vr V (b + 13), vi leaf, vi lender, vi cost] F (SH T) 0 (fun r F' => F' = if lender = leaf then (up (up F (b + 14) leaf (F (b + 14) leaf + cost)) (b + 15) leaf (F (b + 15) leaf + 1)) else up (up (up (up F (b + 14) leaf (F (b + 14) leaf + cost)) (b + 15) leaf (F (b + 15) leaf + 1)) (b + 16) leaf (F (b + 16) leaf + cost)) (b + 17) lender (F (b + 17) lender + cost)) := by
  refine Ct.of [some (vr V (b + 13)), some (vi leaf), some (vi lender), some (vi cost)] (by decide) (by simp [lg_sl, vi_cat, vl_cat, vr_cat]) rfl (by simp [asc, lv_args, vi_cat, vl_cat, vr_cat]) (fun X hV hX => ?_)
  subst hV
  refine R_aload_0 hX dX2_countSent_0 ?_
  refine R_getq (v := b + 14) hX dX2_countSent_1 fl_X2_9 (so_13 hb) rfl (by omega) ?_
  refine R_iload_1 hX dX2_countSent_4 ?_
  refine R_dup2 hX c1_i c1_r dX2_countSent_5 ?_
  refine R_iald hX dX2_countSent_6 (sa_14 hb) ⟨by omega, by omega⟩ ?_
  refine R_iload_3 hX dX2_countSent_7 ?_
  refine R_iadd hX dX2_countSent_8 ?_
  refine R_iast hX dX2_countSent_9 (sa_14 hb) ⟨by omega, by omega⟩ ?_
  refine R_aload_0 hX dX2_countSent_10 ?_
  refine R_getq (v := b + 15) hX dX2_countSent_11 fl_X2_15 (so_13 hb) rfl (by omega) ?_
  refine R_iload_1 hX dX2_countSent_14 ?_
  refine R_dup2 hX c1_i c1_r dX2_countSent_15 ?_
  refine R_iald hX dX2_countSent_16 (sa_15 hb) ⟨by omega, by omega⟩ ?_
  refine R_iconst hX dX2_countSent_17 ?_
  refine R_iadd hX dX2_countSent_18 ?_
  refine R_iast hX dX2_countSent_19 (sa_15 hb) ⟨by omega, by omega⟩ ?_
  refine R_iload_2 hX dX2_countSent_20 ?_
  refine R_iload_1 hX dX2_countSent_21 ?_
  refine R_icmpeq (tgt := 45) hX dX2_countSent_22 (by decide) ⟨by omega, by omega⟩ ⟨by omega, by omega⟩ (fun c_22 => ?_) (fun c_22 => ?_)
  · skip
    exact R_vret hX dX2_countSent_45 (by first | (rw [if_pos (by omega)]; simp (disch := omega) only [up_k, up_i, up_s]) | (rw [if_neg (by omega)]; simp (disch := omega) only [up_k, up_i, up_s]))
  · skip
    refine R_aload_0 hX dX2_countSent_25 ?_
    refine R_getq (v := b + 16) hX dX2_countSent_26 fl_X2_18 (so_13 hb) rfl (by omega) ?_
    refine R_iload_1 hX dX2_countSent_29 ?_
    refine R_dup2 hX c1_i c1_r dX2_countSent_30 ?_
    refine R_iald hX dX2_countSent_31 (sa_16 hb) ⟨by omega, by omega⟩ ?_
    refine R_iload_3 hX dX2_countSent_32 ?_
    refine R_iadd hX dX2_countSent_33 ?_
    refine R_iast hX dX2_countSent_34 (sa_16 hb) ⟨by omega, by omega⟩ ?_
    refine R_aload_0 hX dX2_countSent_35 ?_
    refine R_getq (v := b + 17) hX dX2_countSent_36 fl_X2_21 (so_13 hb) rfl (by omega) ?_
    refine R_iload_2 hX dX2_countSent_39 ?_
    refine R_dup2 hX c1_i c1_r dX2_countSent_40 ?_
    refine R_iald hX dX2_countSent_41 (sa_17 hb) ⟨by omega, by omega⟩ ?_
    refine R_iload_3 hX dX2_countSent_42 ?_
    refine R_iadd hX dX2_countSent_43 ?_
    refine R_iast hX dX2_countSent_44 (sa_17 hb) ⟨by omega, by omega⟩ ?_
    exact R_vret hX dX2_countSent_45 (by first | (rw [if_pos (by omega)]; simp (disch := omega) only [up_k, up_i, up_s]) | (rw [if_neg (by omega)]; simp (disch := omega) only [up_k, up_i, up_s]))
set_option maxRecDepth 100000 in
set_option maxHeartbeats 4000000 in
theorem c_putFirst {V : VX} {T : Shp} {F : Hp} {t v : Int} (ht : isA (SH T) t .int 24) : Ct V yX3_putFirst cX3_putFirst 2 none 1 60 0 0 (SH T) [vr V t, vi v] F (SH T) 0 (fun r F' => F' = pf F t v) := by
  refine Ct.of [some (vr V t), some (vi v)] (by decide) (by simp [lg_sl, vi_cat, vl_cat, vr_cat]) rfl (by simp [asc, lv_args, vi_cat, vl_cat, vr_cat]) (fun X hV hX => ?_)
  subst hV
  refine R_aload_0 hX dX3_putFirst_0 ?_
  refine R_iconst hX dX3_putFirst_1 ?_
  refine R_aload_0 hX dX3_putFirst_2 ?_
  refine R_iconst hX dX3_putFirst_3 ?_
  refine R_bipush hX dX3_putFirst_4 (by decide) ?_
  refine R_acopy hX dX3_putFirst_6 ay_X3_42 ay_n ay_s in_java_lang_System ht ht (by omega) (by omega) (by omega) (by omega) (by omega) ⟨by decide, by decide⟩ rfl (Nat.le_of_ble_eq_true rfl) ?_
  refine R_aload_0 hX dX3_putFirst_9 ?_
  refine R_iconst hX dX3_putFirst_10 ?_
  refine R_iload_1 hX dX3_putFirst_11 ?_
  refine R_iast hX dX3_putFirst_12 ht ⟨by omega, by omega⟩ ?_
  exact R_vret hX dX3_putFirst_13 rfl
set_option maxRecDepth 100000 in
set_option maxHeartbeats 4000000 in
theorem c_logAdd {V : VX} {T : Shp} {F : Hp} {b : Int} (hb : isSt b) {lf co le ti : Int} (hc : 0 ≤ F (b + 19) 0 ∧ F (b + 19) 0 ≤ 24) : Ct V yX3_add cX3_add 5 none 2 81 0 0 (SH T) [vr V (b + 19), vi lf, vi co, vi le, vi ti] F (SH T) 0 (fun r F' => F' = up (pf (pf (pf (pf F (b + 20) lf) (b + 21) co) (b + 22) le) (b + 23) ti) (b + 19) 0 (min 24 (F (b + 19) 0 + 1))) := by
  refine Ct.of [some (vr V (b + 19)), some (vi lf), some (vi co), some (vi le), some (vi ti)] (by decide) (by simp [lg_sl, vi_cat, vl_cat, vr_cat]) rfl (by simp [asc, lv_args, vi_cat, vl_cat, vr_cat]) (fun X hV hX => ?_)
  subst hV
  refine R_aload_0 hX dX3_add_0 ?_
  refine R_getq (v := b + 20) hX dX3_add_1 fl_X3_9 (so_19 hb) rfl (by omega) ?_
  refine R_iload_1 hX dX3_add_4 ?_
  refine R_s2v hX dX3_add_5 li_X3_32 mk_X3_putFirst ms_X3_putFirst (c_putFirst (sa_20 hb)) ⟨⟨by decide, by decide⟩, by decide, by decide, rfl, Nat.le_of_ble_eq_true rfl, rfl⟩ (fun x_5 F_5 h_5 => ?_)
  subst h_5
  refine R_aload_0 hX dX3_add_8 ?_
  refine R_getq (v := b + 21) hX dX3_add_9 fl_X3_15 (so_19 hb) rfl (by omega) ?_
  refine R_iload_2 hX dX3_add_12 ?_
  refine R_s2v hX dX3_add_13 li_X3_32 mk_X3_putFirst ms_X3_putFirst (c_putFirst (sa_21 hb)) ⟨⟨by decide, by decide⟩, by decide, by decide, rfl, Nat.le_of_ble_eq_true rfl, rfl⟩ (fun x_13 F_13 h_13 => ?_)
  subst h_13
  refine R_aload_0 hX dX3_add_16 ?_
  refine R_getq (v := b + 22) hX dX3_add_17 fl_X3_18 (so_19 hb) rfl (by omega) ?_
  refine R_iload_3 hX dX3_add_20 ?_
  refine R_s2v hX dX3_add_21 li_X3_32 mk_X3_putFirst ms_X3_putFirst (c_putFirst (sa_22 hb)) ⟨⟨by decide, by decide⟩, by decide, by decide, rfl, Nat.le_of_ble_eq_true rfl, rfl⟩ (fun x_21 F_21 h_21 => ?_)
  subst h_21
  refine R_aload_0 hX dX3_add_24 ?_
  refine R_getq (v := b + 23) hX dX3_add_25 fl_X3_21 (so_19 hb) rfl (by omega) ?_
  refine R_iload_4 hX dX3_add_28 ?_
  refine R_s2v hX dX3_add_30 li_X3_32 mk_X3_putFirst ms_X3_putFirst (c_putFirst (sa_23 hb)) ⟨⟨by decide, by decide⟩, by decide, by decide, rfl, Nat.le_of_ble_eq_true rfl, rfl⟩ (fun x_30 F_30 h_30 => ?_)
  subst h_30
  refine R_aload_0 hX dX3_add_33 ?_
  refine R_bipush hX dX3_add_34 (by decide) ?_
  refine R_aload_0 hX dX3_add_36 ?_
  refine R_geti hX dX3_add_37 fl_X3_24 (so_19 hb) rfl ?_
  refine R_iconst hX dX3_add_40 ?_
  refine R_iadd hX dX3_add_41 ?_
  refine R_mmin hX dX3_add_42 mm_X3_36 mm_s_min in_java_lang_Math mm_c_min ⟨by omega, by omega⟩ (by simp (disch := omega) only [pf_k]; constructor <;> omega) ⟨by decide, by decide, by decide, by decide⟩ rfl (Nat.le_of_ble_eq_true rfl) ?_
  refine R_puti hX dX3_add_45 fl_X3_24 (so_19 hb) rfl ?_
  exact R_vret hX dX3_add_48 (by simp (disch := omega) only [pf_k])
