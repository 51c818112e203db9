set_option maxRecDepth 100000 in
set_option maxHeartbeats 4000000 in
theorem c_coBegin {V : VX} {F : Hp} {b : Int} (hb : isSt b) : Ct V yX2_begin cX2_begin 1 none 1 21 0 0 SH [vr V (b + 13)] F SH 0 (fun r F' => F' = fillz (fillz (fillz (fillz (fillz F (b + 14) 12) (b + 15) 12) (b + 16) 12) (b + 17) 12) (b + 18) 12) := by
  refine Ct.of [some (vr V (b + 13))] (by decide) (by simp [lg_sl, vi_cat, vl_cat, vr_cat]) rfl (by simp [asc, lv_args, vi_cat, vl_cat, vr_cat]) (fun X hV hX => ?_)
  subst hV
  refine R_aload_0 hX dX2_begin_0 ?_
  refine R_getq (v := b + 14) hX dX2_begin_1 fl_X2_9 (so_13 hb) rfl (by omega) ?_
  refine R_sN1v hX dX2_begin_4 li_X2_27 mk_X11_clearRow ms_X11_clearRow (c_clearRow (nn := 12) (sa_14 hb) rfl) ⟨⟨by decide, by decide⟩, by decide, by decide, rfl, Nat.le_of_ble_eq_true rfl, rfl⟩ (fun x_4 F_4 h_4 => ?_)
  subst h_4
  refine R_aload_0 hX dX2_begin_7 ?_
  refine R_getq (v := b + 15) hX dX2_begin_8 fl_X2_15 (so_13 hb) rfl (by omega) ?_
  refine R_sN1v hX dX2_begin_11 li_X2_27 mk_X11_clearRow ms_X11_clearRow (c_clearRow (nn := 12) (sa_15 hb) rfl) ⟨⟨by decide, by decide⟩, by decide, by decide, rfl, Nat.le_of_ble_eq_true rfl, rfl⟩ (fun x_11 F_11 h_11 => ?_)
  subst h_11
  refine R_aload_0 hX dX2_begin_14 ?_
  refine R_getq (v := b + 16) hX dX2_begin_15 fl_X2_18 (so_13 hb) rfl (by omega) ?_
  refine R_sN1v hX dX2_begin_18 li_X2_27 mk_X11_clearRow ms_X11_clearRow (c_clearRow (nn := 12) (sa_16 hb) rfl) ⟨⟨by decide, by decide⟩, by decide, by decide, rfl, Nat.le_of_ble_eq_true rfl, rfl⟩ (fun x_18 F_18 h_18 => ?_)
  subst h_18
  refine R_aload_0 hX dX2_begin_21 ?_
  refine R_getq (v := b + 17) hX dX2_begin_22 fl_X2_21 (so_13 hb) rfl (by omega) ?_
  refine R_sN1v hX dX2_begin_25 li_X2_27 mk_X11_clearRow ms_X11_clearRow (c_clearRow (nn := 12) (sa_17 hb) rfl) ⟨⟨by decide, by decide⟩, by decide, by decide, rfl, Nat.le_of_ble_eq_true rfl, rfl⟩ (fun x_25 F_25 h_25 => ?_)
  subst h_25
  refine R_aload_0 hX dX2_begin_28 ?_
  refine R_getq (v := b + 18) hX dX2_begin_29 fl_X2_24 (so_13 hb) rfl (by omega) ?_
  refine R_sN1v hX dX2_begin_32 li_X2_27 mk_X11_clearRow ms_X11_clearRow (c_clearRow (nn := 12) (sa_18 hb) rfl) ⟨⟨by decide, by decide⟩, by decide, by decide, rfl, Nat.le_of_ble_eq_true rfl, rfl⟩ (fun x_32 F_32 h_32 => ?_)
  subst h_32
  exact R_vret hX dX2_begin_35 rfl
set_option maxRecDepth 100000 in
set_option maxHeartbeats 4000000 in
theorem c_coCopy {V : VX} {F : Hp} {b e : Int} (hb : isSt b) (he : isSt e) : Ct V yX2_copyFrom cX2_copyFrom 2 none 2 81 0 0 SH [vr V (b + 13), vr V (e + 13)] F SH 0 (fun r F' => F' = cpy (cpy (cpy (cpy (cpy (F) (e + 14) 0 (b + 14) 0 12) (e + 15) 0 (b + 15) 0 12) (e + 16) 0 (b + 16) 0 12) (e + 17) 0 (b + 17) 0 12) (e + 18) 0 (b + 18) 0 12) := by
  refine Ct.of [some (vr V (b + 13)), some (vr V (e + 13))] (by decide) (by simp [lg_sl, vi_cat, vl_cat, vr_cat]) rfl (by simp [asc, lv_args, vi_cat, vl_cat, vr_cat]) (fun X hV hX => ?_)
  subst hV
  refine R_aload_1 hX dX2_copyFrom_0 ?_
  refine R_getq (v := e + 14) hX dX2_copyFrom_1 fl_X2_9 (so_13 he) rfl (by omega) ?_
  refine R_aload_0 hX dX2_copyFrom_4 ?_
  refine R_getq (v := b + 14) hX dX2_copyFrom_5 fl_X2_9 (so_13 hb) rfl (by omega) ?_
  refine R_sN2v hX dX2_copyFrom_8 li_X2_31 mk_X11_copyRow ms_X11_copyRow (c_copyRow (nn := 12) (sa_14 he) (sa_14 hb) rfl) ⟨⟨by decide, by decide⟩, by decide, by decide, rfl, Nat.le_of_ble_eq_true rfl, rfl⟩ (fun x_8 F_8 h_8 => ?_)
  subst h_8
  refine R_aload_1 hX dX2_copyFrom_11 ?_
  refine R_getq (v := e + 15) hX dX2_copyFrom_12 fl_X2_15 (so_13 he) rfl (by omega) ?_
  refine R_aload_0 hX dX2_copyFrom_15 ?_
  refine R_getq (v := b + 15) hX dX2_copyFrom_16 fl_X2_15 (so_13 hb) rfl (by omega) ?_
  refine R_sN2v hX dX2_copyFrom_19 li_X2_31 mk_X11_copyRow ms_X11_copyRow (c_copyRow (nn := 12) (sa_15 he) (sa_15 hb) rfl) ⟨⟨by decide, by decide⟩, by decide, by decide, rfl, Nat.le_of_ble_eq_true rfl, rfl⟩ (fun x_19 F_19 h_19 => ?_)
  subst h_19
  refine R_aload_1 hX dX2_copyFrom_22 ?_
  refine R_getq (v := e + 16) hX dX2_copyFrom_23 fl_X2_18 (so_13 he) rfl (by omega) ?_
  refine R_aload_0 hX dX2_copyFrom_26 ?_
  refine R_getq (v := b + 16) hX dX2_copyFrom_27 fl_X2_18 (so_13 hb) rfl (by omega) ?_
  refine R_sN2v hX dX2_copyFrom_30 li_X2_31 mk_X11_copyRow ms_X11_copyRow (c_copyRow (nn := 12) (sa_16 he) (sa_16 hb) rfl) ⟨⟨by decide, by decide⟩, by decide, by decide, rfl, Nat.le_of_ble_eq_true rfl, rfl⟩ (fun x_30 F_30 h_30 => ?_)
  subst h_30
  refine R_aload_1 hX dX2_copyFrom_33 ?_
  refine R_getq (v := e + 17) hX dX2_copyFrom_34 fl_X2_21 (so_13 he) rfl (by omega) ?_
  refine R_aload_0 hX dX2_copyFrom_37 ?_
  refine R_getq (v := b + 17) hX dX2_copyFrom_38 fl_X2_21 (so_13 hb) rfl (by omega) ?_
  refine R_sN2v hX dX2_copyFrom_41 li_X2_31 mk_X11_copyRow ms_X11_copyRow (c_copyRow (nn := 12) (sa_17 he) (sa_17 hb) rfl) ⟨⟨by decide, by decide⟩, by decide, by decide, rfl, Nat.le_of_ble_eq_true rfl, rfl⟩ (fun x_41 F_41 h_41 => ?_)
  subst h_41
  refine R_aload_1 hX dX2_copyFrom_44 ?_
  refine R_getq (v := e + 18) hX dX2_copyFrom_45 fl_X2_24 (so_13 he) rfl (by omega) ?_
  refine R_aload_0 hX dX2_copyFrom_48 ?_
  refine R_getq (v := b + 18) hX dX2_copyFrom_49 fl_X2_24 (so_13 hb) rfl (by omega) ?_
  refine R_sN2v hX dX2_copyFrom_52 li_X2_31 mk_X11_copyRow ms_X11_copyRow (c_copyRow (nn := 12) (sa_18 he) (sa_18 hb) rfl) ⟨⟨by decide, by decide⟩, by decide, by decide, rfl, Nat.le_of_ble_eq_true rfl, rfl⟩ (fun x_52 F_52 h_52 => ?_)
  subst h_52
  exact R_vret hX dX2_copyFrom_55 rfl
set_option maxRecDepth 100000 in
set_option maxHeartbeats 4000000 in
theorem c_countSent {V : VX} {F : Hp} {b : Int} (hb : isSt b) {leaf lender cost : Int} (hl : 0 ≤ leaf ∧ leaf < 12) (hv : 0 ≤ lender ∧ lender < 12) : Ct V yX2_countSent cX2_countSent 4 none 0 0 0 0 SH [vr V (b + 13), vi leaf, vi lender, vi cost] F SH 0 (fun r F' => F' = if lender = leaf then (up (up F (b + 14) leaf (F (b + 14) leaf + cost)) (b + 15) leaf (F (b + 15) leaf + 1)) else up (up (up (up F (b + 14) leaf (F (b + 14) leaf + cost)) (b + 15) leaf (F (b + 15) leaf + 1)) (b + 16) leaf (F (b + 16) leaf + cost)) (b + 17) lender (F (b + 17) lender + cost)) := by
  refine Ct.of [some (vr V (b + 13)), some (vi leaf), some (vi lender), some (vi cost)] (by decide) (by simp [lg_sl, vi_cat, vl_cat, vr_cat]) rfl (by simp [asc, lv_args, vi_cat, vl_cat, vr_cat]) (fun X hV hX => ?_)
  subst hV
  refine R_aload_0 hX dX2_countSent_0 ?_
  refine R_getq (v := b + 14) hX dX2_countSent_1 fl_X2_9 (so_13 hb) rfl (by omega) ?_
  refine R_iload_1 hX dX2_countSent_4 ?_
  refine R_dup2 hX c1_i c1_r dX2_countSent_5 ?_
  refine R_iald hX dX2_countSent_6 (sa_14 hb) ⟨by omega, by omega⟩ ?_
  refine R_iload_3 hX dX2_countSent_7 ?_
  refine R_iadd hX dX2_countSent_8 ?_
  refine R_iast hX dX2_countSent_9 (sa_14 hb) ⟨by omega, by omega⟩ ?_
  refine R_aload_0 hX dX2_countSent_10 ?_
  refine R_getq (v := b + 15) hX dX2_countSent_11 fl_X2_15 (so_13 hb) rfl (by omega) ?_
  refine R_iload_1 hX dX2_countSent_14 ?_
  refine R_dup2 hX c1_i c1_r dX2_countSent_15 ?_
  refine R_iald hX dX2_countSent_16 (sa_15 hb) ⟨by omega, by omega⟩ ?_
  refine R_iconst hX dX2_countSent_17 ?_
  refine R_iadd hX dX2_countSent_18 ?_
  refine R_iast hX dX2_countSent_19 (sa_15 hb) ⟨by omega, by omega⟩ ?_
  refine R_iload_2 hX dX2_countSent_20 ?_
  refine R_iload_1 hX dX2_countSent_21 ?_
  refine R_icmpeq (tgt := 45) hX dX2_countSent_22 (by decide) ⟨by omega, by omega⟩ ⟨by omega, by omega⟩ (fun c_22 => ?_) (fun c_22 => ?_)
  · skip
    exact R_vret hX dX2_countSent_45 (by first | (rw [if_pos (by omega)]; simp (disch := omega) only [up_k, up_i, up_s]) | (rw [if_neg (by omega)]; simp (disch := omega) only [up_k, up_i, up_s]))
  · skip
    refine R_aload_0 hX dX2_countSent_25 ?_
    refine R_getq (v := b + 16) hX dX2_countSent_26 fl_X2_18 (so_13 hb) rfl (by omega) ?_
    refine R_iload_1 hX dX2_countSent_29 ?_
    refine R_dup2 hX c1_i c1_r dX2_countSent_30 ?_
    refine R_iald hX dX2_countSent_31 (sa_16 hb) ⟨by omega, by omega⟩ ?_
    refine R_iload_3 hX dX2_countSent_32 ?_
    refine R_iadd hX dX2_countSent_33 ?_
    refine R_iast hX dX2_countSent_34 (sa_16 hb) ⟨by omega, by omega⟩ ?_
    refine R_aload_0 hX dX2_countSent_35 ?_
    refine R_getq (v := b + 17) hX dX2_countSent_36 fl_X2_21 (so_13 hb) rfl (by omega) ?_
    refine R_iload_2 hX dX2_countSent_39 ?_
    refine R_dup2 hX c1_i c1_r dX2_countSent_40 ?_
    refine R_iald hX dX2_countSent_41 (sa_17 hb) ⟨by omega, by omega⟩ ?_
    refine R_iload_3 hX dX2_countSent_42 ?_
    refine R_iadd hX dX2_countSent_43 ?_
    refine R_iast hX dX2_countSent_44 (sa_17 hb) ⟨by omega, by omega⟩ ?_
    exact R_vret hX dX2_countSent_45 (by first | (rw [if_pos (by omega)]; simp (disch := omega) only [up_k, up_i, up_s]) | (rw [if_neg (by omega)]; simp (disch := omega) only [up_k, up_i, up_s]))
set_option maxRecDepth 100000 in
set_option maxHeartbeats 4000000 in
theorem c_loCopy {V : VX} {F : Hp} {b e : Int} (hb : isSt b) (he : isSt e) : Ct V yX3_copyFrom cX3_copyFrom 2 none 2 81 0 0 SH [vr V (b + 19), vr V (e + 19)] F SH 0 (fun r F' => F' = cpy (cpy (cpy (cpy (up F (b + 19) 0 (F (e + 19) 0)) (e + 20) 0 (b + 20) 0 24) (e + 21) 0 (b + 21) 0 24) (e + 22) 0 (b + 22) 0 24) (e + 23) 0 (b + 23) 0 24) := by
  refine Ct.of [some (vr V (b + 19)), some (vr V (e + 19))] (by decide) (by simp [lg_sl, vi_cat, vl_cat, vr_cat]) rfl (by simp [asc, lv_args, vi_cat, vl_cat, vr_cat]) (fun X hV hX => ?_)
  subst hV
  refine R_aload_0 hX dX3_copyFrom_0 ?_
  refine R_aload_1 hX dX3_copyFrom_1 ?_
  refine R_geti hX dX3_copyFrom_2 fl_X3_24 (so_19 he) rfl ?_
  refine R_puti hX dX3_copyFrom_5 fl_X3_24 (so_19 hb) rfl ?_
  refine R_aload_1 hX dX3_copyFrom_8 ?_
  refine R_getq (v := e + 20) hX dX3_copyFrom_9 fl_X3_9 (so_19 he) rfl (by omega) ?_
  refine R_aload_0 hX dX3_copyFrom_12 ?_
  refine R_getq (v := b + 20) hX dX3_copyFrom_13 fl_X3_9 (so_19 hb) rfl (by omega) ?_
  refine R_sN2v hX dX3_copyFrom_16 li_X3_28 mk_X11_copyRow ms_X11_copyRow (c_copyRow (nn := 24) (sa_20 he) (sa_20 hb) rfl) ⟨⟨by decide, by decide⟩, by decide, by decide, rfl, Nat.le_of_ble_eq_true rfl, rfl⟩ (fun x_16 F_16 h_16 => ?_)
  subst h_16
  refine R_aload_1 hX dX3_copyFrom_19 ?_
  refine R_getq (v := e + 21) hX dX3_copyFrom_20 fl_X3_15 (so_19 he) rfl (by omega) ?_
  refine R_aload_0 hX dX3_copyFrom_23 ?_
  refine R_getq (v := b + 21) hX dX3_copyFrom_24 fl_X3_15 (so_19 hb) rfl (by omega) ?_
  refine R_sN2v hX dX3_copyFrom_27 li_X3_28 mk_X11_copyRow ms_X11_copyRow (c_copyRow (nn := 24) (sa_21 he) (sa_21 hb) rfl) ⟨⟨by decide, by decide⟩, by decide, by decide, rfl, Nat.le_of_ble_eq_true rfl, rfl⟩ (fun x_27 F_27 h_27 => ?_)
  subst h_27
  refine R_aload_1 hX dX3_copyFrom_30 ?_
  refine R_getq (v := e + 22) hX dX3_copyFrom_31 fl_X3_18 (so_19 he) rfl (by omega) ?_
  refine R_aload_0 hX dX3_copyFrom_34 ?_
  refine R_getq (v := b + 22) hX dX3_copyFrom_35 fl_X3_18 (so_19 hb) rfl (by omega) ?_
  refine R_sN2v hX dX3_copyFrom_38 li_X3_28 mk_X11_copyRow ms_X11_copyRow (c_copyRow (nn := 24) (sa_22 he) (sa_22 hb) rfl) ⟨⟨by decide, by decide⟩, by decide, by decide, rfl, Nat.le_of_ble_eq_true rfl, rfl⟩ (fun x_38 F_38 h_38 => ?_)
  subst h_38
  refine R_aload_1 hX dX3_copyFrom_41 ?_
  refine R_getq (v := e + 23) hX dX3_copyFrom_42 fl_X3_21 (so_19 he) rfl (by omega) ?_
  refine R_aload_0 hX dX3_copyFrom_45 ?_
  refine R_getq (v := b + 23) hX dX3_copyFrom_46 fl_X3_21 (so_19 hb) rfl (by omega) ?_
  refine R_sN2v hX dX3_copyFrom_49 li_X3_28 mk_X11_copyRow ms_X11_copyRow (c_copyRow (nn := 24) (sa_23 he) (sa_23 hb) rfl) ⟨⟨by decide, by decide⟩, by decide, by decide, rfl, Nat.le_of_ble_eq_true rfl, rfl⟩ (fun x_49 F_49 h_49 => ?_)
  subst h_49
  exact R_vret hX dX3_copyFrom_52 rfl
set_option maxRecDepth 100000 in
set_option maxHeartbeats 4000000 in
theorem c_putFirst {V : VX} {F : Hp} {t v : Int} (ht : isA SH t .int 24) : Ct V yX3_putFirst cX3_putFirst 2 none 1 60 0 0 SH [vr V t, vi v] F SH 0 (fun r F' => F' = pf F t v) := by
  refine Ct.of [some (vr V t), some (vi v)] (by decide) (by simp [lg_sl, vi_cat, vl_cat, vr_cat]) rfl (by simp [asc, lv_args, vi_cat, vl_cat, vr_cat]) (fun X hV hX => ?_)
  subst hV
  refine R_aload_0 hX dX3_putFirst_0 ?_
  refine R_iconst hX dX3_putFirst_1 ?_
  refine R_aload_0 hX dX3_putFirst_2 ?_
  refine R_iconst hX dX3_putFirst_3 ?_
  refine R_bipush hX dX3_putFirst_4 (by decide) ?_
  refine R_acopy hX dX3_putFirst_6 ay_X3_42 ay_n ay_s in_java_lang_System ht ht (by omega) (by omega) (by omega) (by omega) (by omega) ⟨by decide, by decide⟩ rfl (Nat.le_of_ble_eq_true rfl) ?_
  refine R_aload_0 hX dX3_putFirst_9 ?_
  refine R_iconst hX dX3_putFirst_10 ?_
  refine R_iload_1 hX dX3_putFirst_11 ?_
  refine R_iast hX dX3_putFirst_12 ht ⟨by omega, by omega⟩ ?_
  exact R_vret hX dX3_putFirst_13 rfl
set_option maxRecDepth 100000 in
set_option maxHeartbeats 4000000 in
theorem c_logAdd {V : VX} {F : Hp} {b : Int} (hb : isSt b) {lf co le ti : Int} (hc : 0 ≤ F (b + 19) 0 ∧ F (b + 19) 0 ≤ 24) : Ct V yX3_add cX3_add 5 none 2 81 0 0 SH [vr V (b + 19), vi lf, vi co, vi le, vi ti] F SH 0 (fun r F' => F' = up (pf (pf (pf (pf F (b + 20) lf) (b + 21) co) (b + 22) le) (b + 23) ti) (b + 19) 0 (min 24 (F (b + 19) 0 + 1))) := by
  refine Ct.of [some (vr V (b + 19)), some (vi lf), some (vi co), some (vi le), some (vi ti)] (by decide) (by simp [lg_sl, vi_cat, vl_cat, vr_cat]) rfl (by simp [asc, lv_args, vi_cat, vl_cat, vr_cat]) (fun X hV hX => ?_)
  subst hV
  refine R_aload_0 hX dX3_add_0 ?_
  refine R_getq (v := b + 20) hX dX3_add_1 fl_X3_9 (so_19 hb) rfl (by omega) ?_
  refine R_iload_1 hX dX3_add_4 ?_
  refine R_s2v hX dX3_add_5 li_X3_32 mk_X3_putFirst ms_X3_putFirst (c_putFirst (sa_20 hb)) ⟨⟨by decide, by decide⟩, by decide, by decide, rfl, Nat.le_of_ble_eq_true rfl, rfl⟩ (fun x_5 F_5 h_5 => ?_)
  subst h_5
  refine R_aload_0 hX dX3_add_8 ?_
  refine R_getq (v := b + 21) hX dX3_add_9 fl_X3_15 (so_19 hb) rfl (by omega) ?_
  refine R_iload_2 hX dX3_add_12 ?_
  refine R_s2v hX dX3_add_13 li_X3_32 mk_X3_putFirst ms_X3_putFirst (c_putFirst (sa_21 hb)) ⟨⟨by decide, by decide⟩, by decide, by decide, rfl, Nat.le_of_ble_eq_true rfl, rfl⟩ (fun x_13 F_13 h_13 => ?_)
  subst h_13
  refine R_aload_0 hX dX3_add_16 ?_
  refine R_getq (v := b + 22) hX dX3_add_17 fl_X3_18 (so_19 hb) rfl (by omega) ?_
  refine R_iload_3 hX dX3_add_20 ?_
  refine R_s2v hX dX3_add_21 li_X3_32 mk_X3_putFirst ms_X3_putFirst (c_putFirst (sa_22 hb)) ⟨⟨by decide, by decide⟩, by decide, by decide, rfl, Nat.le_of_ble_eq_true rfl, rfl⟩ (fun x_21 F_21 h_21 => ?_)
  subst h_21
  refine R_aload_0 hX dX3_add_24 ?_
  refine R_getq (v := b + 23) hX dX3_add_25 fl_X3_21 (so_19 hb) rfl (by omega) ?_
  refine R_iload_4 hX dX3_add_28 ?_
  refine R_s2v hX dX3_add_30 li_X3_32 mk_X3_putFirst ms_X3_putFirst (c_putFirst (sa_23 hb)) ⟨⟨by decide, by decide⟩, by decide, by decide, rfl, Nat.le_of_ble_eq_true rfl, rfl⟩ (fun x_30 F_30 h_30 => ?_)
  subst h_30
  refine R_aload_0 hX dX3_add_33 ?_
  refine R_bipush hX dX3_add_34 (by decide) ?_
  refine R_aload_0 hX dX3_add_36 ?_
  refine R_geti hX dX3_add_37 fl_X3_24 (so_19 hb) rfl ?_
  refine R_iconst hX dX3_add_40 ?_
  refine R_iadd hX dX3_add_41 ?_
  refine R_mmin hX dX3_add_42 mm_X3_36 mm_s_min in_java_lang_Math mm_c_min ⟨by omega, by omega⟩ (by simp (disch := omega) only [pf_k]; constructor <;> omega) ⟨by decide, by decide, by decide, by decide⟩ rfl (Nat.le_of_ble_eq_true rfl) ?_
  refine R_puti hX dX3_add_45 fl_X3_24 (so_19 hb) rfl ?_
  exact R_vret hX dX3_add_48 (by simp (disch := omega) only [pf_k])
set_option maxRecDepth 100000 in
set_option maxHeartbeats 4000000 in
theorem c_sumSince {V : VX} {F : Hp} {b : Int} (hb : isSt b) (hL : (0 ≤ F (b + 19) 0 ∧ F (b + 19) 0 ≤ 24) ∧ ∀ k : Int, 0 ≤ k → k < F (b + 19) 0 → (0 ≤ F (b + 23) k ∧ F (b + 23) k ≤ 5000) ∧ (0 ≤ F (b + 21) k ∧ F (b + 21) k ≤ 99)) {en ti : Int} (he : 0 ≤ en ∧ en ≤ 5000) (ht : I32 ti) : Ct V yX3_sumSince cX3_sumSince 6 (some .int) 0 0 0 0 SH [vr V (b + 19), vi en, vi ti] F SH 1 (fun r F' => r = sumN (fun k => if 0 ≤ en - F (b + 23) k ∧ en - F (b + 23) k < ti then F (b + 21) k else 0) (F (b + 19) 0).toNat ∧ F' = F) := by
  refine Ct.of [some (vr V (b + 19)), some (vi en), some (vi ti), none, none, none] (by decide) (by simp [lg_sl, vi_cat, vl_cat, vr_cat]) rfl (by simp [asc, lv_args, vi_cat, vl_cat, vr_cat]) (fun X hV hX => ?_)
  subst hV
  refine R_iconst hX dX3_sumSince_0 ?_
  refine R_istore_3 hX c1_i dX3_sumSince_1 ?_
  refine R_iconst hX dX3_sumSince_2 ?_
  refine R_istore_4 hX c1_i dX3_sumSince_3 ?_
  have lp_5 : ∀ (n : Nat) (sum : Int) (i : Int), (0 ≤ i ∧ i ≤ F (b + 19) 0) → (sum = sumN (fun k => if 0 ≤ en - F (b + 23) k ∧ en - F (b + 23) k < ti then F (b + 21) k else 0) i.toNat) → (25 - i).toNat < n → R X SH 0 0 5 [some (vr (xV X) (b + 19)), some (vi en), some (vi ti), some (vi sum), some (vi i), none] [] F (Zq X SH 1 (fun r F' => r = sumN (fun k => if 0 ≤ en - F (b + 23) k ∧ en - F (b + 23) k < ti then F (b + 21) k else 0) (F (b + 19) 0).toNat ∧ F' = F) 0 0) := by
    intro n
    induction n with
    | zero => intro sum i iv5_0 iv5_1 hm; exact absurd hm (Nat.not_lt_zero _)
    | succ n ih_5 =>
      intro sum i iv5_0 iv5_1 hm_5
      refine R_iload_4 hX dX3_sumSince_5 ?_
      refine R_aload_0 hX dX3_sumSince_7 ?_
      refine R_geti hX dX3_sumSince_8 fl_X3_24 (so_19 hb) rfl ?_
      refine R_icmpge (tgt := 52) hX dX3_sumSince_11 (by decide) ⟨by omega, by omega⟩ ⟨by omega, by omega⟩ (fun c_11 => ?_) (fun c_11 => ?_)
      · skip
        refine R_iload_3 hX dX3_sumSince_52 ?_
        exact R_iret hX dX3_sumSince_53 ⟨by rw [iv5_1, show i = F (b + 19) 0 by omega], rfl⟩
      · skip
        have hl := hL.2 i (by omega) (by omega)
        refine R_iload_1 hX dX3_sumSince_14 ?_
        refine R_aload_0 hX dX3_sumSince_15 ?_
        refine R_getq (v := b + 23) hX dX3_sumSince_16 fl_X3_21 (so_19 hb) rfl (by omega) ?_
        refine R_iload_4 hX dX3_sumSince_19 ?_
        refine R_iald hX dX3_sumSince_21 (sa_23 hb) ⟨by omega, by omega⟩ ?_
        refine R_isub hX dX3_sumSince_22 ?_
        refine R_istore_5 hX c1_i dX3_sumSince_23 ?_
        refine R_iload_5 hX dX3_sumSince_25 ?_
        refine R_iflt (tgt := 46) hX dX3_sumSince_27 (by decide) ⟨by omega, by omega⟩ (fun c_27 => ?_) (fun c_27 => ?_)
        · skip
          refine R_iinc_4 hX c1_i dX3_sumSince_46 ?_
          refine R_goto (tgt := 5) hX dX3_sumSince_49 (by decide) ?_
          refine R_drop_5 ?_
          exact ih_5 _ _ (by omega) (by rw [sumN_s (by omega), iv5_1]; first | (rw [if_pos (by omega)]) | (rw [if_neg (by omega), Int.add_zero])) (by omega)
        · skip
          refine R_iload_5 hX dX3_sumSince_30 ?_
          refine R_iload_2 hX dX3_sumSince_32 ?_
          refine R_icmpge (tgt := 46) hX dX3_sumSince_33 (by decide) ⟨by omega, by omega⟩ ⟨by omega, by omega⟩ (fun c_33 => ?_) (fun c_33 => ?_)
          · skip
            refine R_iinc_4 hX c1_i dX3_sumSince_46 ?_
            refine R_goto (tgt := 5) hX dX3_sumSince_49 (by decide) ?_
            refine R_drop_5 ?_
            exact ih_5 _ _ (by omega) (by rw [sumN_s (by omega), iv5_1]; first | (rw [if_pos (by omega)]) | (rw [if_neg (by omega), Int.add_zero])) (by omega)
          · skip
            refine R_iload_3 hX dX3_sumSince_36 ?_
            refine R_aload_0 hX dX3_sumSince_37 ?_
            refine R_getq (v := b + 21) hX dX3_sumSince_38 fl_X3_15 (so_19 hb) rfl (by omega) ?_
            refine R_iload_4 hX dX3_sumSince_41 ?_
            refine R_iald hX dX3_sumSince_43 (sa_21 hb) ⟨by omega, by omega⟩ ?_
            refine R_iadd hX dX3_sumSince_44 ?_
            refine R_istore_3 hX c1_i dX3_sumSince_45 ?_
            refine R_iinc_4 hX c1_i dX3_sumSince_46 ?_
            refine R_goto (tgt := 5) hX dX3_sumSince_49 (by decide) ?_
            refine R_drop_5 ?_
            exact ih_5 _ _ (by omega) (by rw [sumN_s (by omega), iv5_1]; first | (rw [if_pos (by omega)]) | (rw [if_neg (by omega), Int.add_zero])) (by omega)
  exact lp_5 26 _ _ (by omega) rfl (by omega)
set_option maxRecDepth 100000 in
set_option maxHeartbeats 4000000 in
theorem c_greatestSum {V : VX} {F : Hp} {b : Int} (hb : isSt b) (hL : (0 ≤ F (b + 19) 0 ∧ F (b + 19) 0 ≤ 24) ∧ ∀ k : Int, 0 ≤ k → k < F (b + 19) 0 → (0 ≤ F (b + 23) k ∧ F (b + 23) k ≤ 5000) ∧ (0 ≤ F (b + 21) k ∧ F (b + 21) k ≤ 99)) {wi : Int} (ht : I32 wi) : Ct V yX3_greatestSum cX3_greatestSum 4 (some .int) 1 25 0 0 SH [vr V (b + 19), vi wi] F SH 1 (fun r F' => r = maxN (fun k => sumN (fun j => if 0 ≤ F (b + 23) k - F (b + 23) j ∧ F (b + 23) k - F (b + 23) j < wi then F (b + 21) j else 0) (F (b + 19) 0).toNat) (F (b + 19) 0).toNat ∧ F' = F) := by
  refine Ct.of [some (vr V (b + 19)), some (vi wi), none, none] (by decide) (by simp [lg_sl, vi_cat, vl_cat, vr_cat]) rfl (by simp [asc, lv_args, vi_cat, vl_cat, vr_cat]) (fun X hV hX => ?_)
  subst hV
  refine R_iconst hX dX3_greatestSum_0 ?_
  refine R_istore_2 hX c1_i dX3_greatestSum_1 ?_
  refine R_iconst hX dX3_greatestSum_2 ?_
  refine R_istore_3 hX c1_i dX3_greatestSum_3 ?_
  have lp_4 : ∀ (n : Nat) (mx : Int) (i : Int), (0 ≤ i ∧ i ≤ F (b + 19) 0) → (mx = maxN (fun k => sumN (fun j => if 0 ≤ F (b + 23) k - F (b + 23) j ∧ F (b + 23) k - F (b + 23) j < wi then F (b + 21) j else 0) (F (b + 19) 0).toNat) i.toNat ∧ 0 ≤ mx ∧ mx ≤ 2376) → (25 - i).toNat < n → R X SH 0 0 4 [some (vr (xV X) (b + 19)), some (vi wi), some (vi mx), some (vi i)] [] F (Zq X SH 1 (fun r F' => r = maxN (fun k => sumN (fun j => if 0 ≤ F (b + 23) k - F (b + 23) j ∧ F (b + 23) k - F (b + 23) j < wi then F (b + 21) j else 0) (F (b + 19) 0).toNat) (F (b + 19) 0).toNat ∧ F' = F) 0 0) := by
    intro n
    induction n with
    | zero => intro mx i iv4_0 iv4_1 hm; exact absurd hm (Nat.not_lt_zero _)
    | succ n ih_4 =>
      intro mx i iv4_0 iv4_1 hm_4
      refine R_iload_3 hX dX3_greatestSum_4 ?_
      refine R_aload_0 hX dX3_greatestSum_5 ?_
      refine R_geti hX dX3_greatestSum_6 fl_X3_24 (so_19 hb) rfl ?_
      refine R_icmpge (tgt := 34) hX dX3_greatestSum_9 (by decide) ⟨by omega, by omega⟩ ⟨by omega, by omega⟩ (fun c_9 => ?_) (fun c_9 => ?_)
      · skip
        refine R_iload_2 hX dX3_greatestSum_34 ?_
        exact R_iret hX dX3_greatestSum_35 ⟨by rw [iv4_1.1, show i = F (b + 19) 0 by omega], rfl⟩
      · skip
        refine R_iload_2 hX dX3_greatestSum_12 ?_
        have hl := hL.2 i (by omega) (by omega)
        refine R_aload_0 hX dX3_greatestSum_13 ?_
        refine R_aload_0 hX dX3_greatestSum_14 ?_
        refine R_getq (v := b + 23) hX dX3_greatestSum_15 fl_X3_21 (so_19 hb) rfl (by omega) ?_
        refine R_iload_3 hX dX3_greatestSum_18 ?_
        refine R_iald hX dX3_greatestSum_19 (sa_23 hb) ⟨by omega, by omega⟩ ?_
        refine R_iload_1 hX dX3_greatestSum_20 ?_
        refine R_v2i hX dX3_greatestSum_21 li_X3_48 mk_X3_sumSince mi_X3_sumSince rfl (so_19 hb) (c_sumSince hb hL (by omega) ht) ⟨⟨by decide, by decide⟩, by decide, by decide, rfl, Nat.le_of_ble_eq_true rfl, rfl⟩ (fun x_21 F_21 h_21 => ?_)
        obtain ⟨h_21, e_21⟩ := h_21; replace e_21 := e_21.symm; subst e_21
        have hbd := sumN_bd (f := fun j => if 0 ≤ F (b + 23) i - F (b + 23) j ∧ F (b + 23) i - F (b + 23) j < wi then F (b + 21) j else 0) (c := 99) (F (b + 19) 0).toNat (by intro k h0 h1; have hq := hL.2 k h0 (by omega); split <;> omega)
        have hx : 0 ≤ x_21 ∧ x_21 ≤ 2376 := by rw [h_21]; omega
        refine R_mmax hX dX3_greatestSum_24 mm_X3_51 mm_s_max in_java_lang_Math mm_c_max ⟨by omega, by omega⟩ ⟨by omega, by omega⟩ ⟨by decide, by decide, by decide, by decide⟩ rfl (Nat.le_of_ble_eq_true rfl) ?_
        refine R_istore_2 hX c1_i dX3_greatestSum_27 ?_
        refine R_iinc_3 hX c1_i dX3_greatestSum_28 ?_
        refine R_goto (tgt := 4) hX dX3_greatestSum_31 (by decide) ?_
        exact ih_4 _ _ (by omega) ⟨by rw [maxN_s (by omega), iv4_1.1, h_21], by omega, by omega⟩ (by omega)
  exact lp_4 26 _ _ (by omega) ⟨rfl, by omega, by omega⟩ (by omega)
