theorem begS_r {b u a : Int} {F : Hp} (hb : 0 ≤ b) (h : a < b ∨ b + 23 < a) : begS b u F a = F a := by
  unfold begS
  simp (disch := omega) only [up_r, cpy_r, fillz_r]
theorem rd_code {v : Int} {F : Hp} (hv : isSu v) (hd : F 3 2 = v) (hL : 0 ≤ F 1 1 ∧ F 1 1 ≤ 900) (hB : ∀ i : Int, 0 ≤ i → i < F 1 1 → -128 ≤ F 2 i ∧ F 2 i ≤ 127) : I32 (rdS v 901 (bgS v F) 3 0) := by
  have hp0 := PrI.bg hv hd
  have ht0 : TxI (bgS v F) := by
    unfold TxI bgS
    simp (disch := omega) only [up_k, up_i, up_s]
    exact ⟨hL, hB, by omega⟩
  have h0 : I32 (bgS v F 3 0) := by
    unfold bgS
    simp (disch := omega) only [up_k, up_i, up_s]
    constructor <;> omega
  have key : ∀ (k : Nat) (G : Hp), TxI G → I32 (G 3 0) → I32 (rdS v k G 3 0) := by
    intro k
    induction k with
    | zero => intro G _ h; exact h
    | succ k ih =>
      intro G hG h
      unfold rdS
      split
      · rw [scn_r (by decide)]; exact h
      · split
        · refine ih _ (hG.scn.tak hv).u3 ?_
          rw [up_s]
          constructor <;> omega
        · rw [up_i (by decide), up_s]
          exact takC v _ (TkI.scn hG)
  exact key 901 _ ht0 h0
set_option maxRecDepth 100000 in
set_option maxHeartbeats 4000000 in
theorem c_feed {V : VX} {T : Shp} {F : Hp} (hL : 0 ≤ F 1 1 ∧ F 1 1 ≤ 900) {x1 x2 x3 x4 x5 : Int} : Ct V yX11_feed cX11_feed 6 (some .int) 1 22 0 0 (SH T) [vr V 0, vi x1, vi x2, vi x3, vi x4, vi x5] F (SH T) 1 (fun r F' => (880 < F 1 1 ∧ r = -1 ∧ F' = F) ∨ (F 1 1 ≤ 880 ∧ r = F 1 1 + 20 ∧ F' = apS x5 4 (apS x4 4 (apS x3 4 (apS x2 4 (apS x1 4 F)))))) := by
  refine Ct.of [some (vr V 0), some (vi x1), some (vi x2), some (vi x3), some (vi x4), some (vi x5)] (by decide) (by simp [lg_sl, vi_cat, vl_cat, vr_cat]) rfl (by simp [asc, lv_args, vi_cat, vl_cat, vr_cat]) (fun X hV hX => ?_)
  subst hV
  have e1 := apS_len x1 F 4
  have e2 := apS_len x2 (apS x1 4 F) 4
  have e3 := apS_len x3 (apS x2 4 (apS x1 4 F)) 4
  have e4 := apS_len x4 (apS x3 4 (apS x2 4 (apS x1 4 F))) 4
  have e5 := apS_len x5 (apS x4 4 (apS x3 4 (apS x2 4 (apS x1 4 F)))) 4
  refine R_aload_0 hX dX11_feed_0 ?_
  refine R_getq (v := 1) hX dX11_feed_1 fl_X11_10 o_0 rfl (by omega) ?_
  refine R_geti hX dX11_feed_4 fl_X11_53 o_1 rfl ?_
  refine R_bipush hX dX11_feed_7 (by decide) ?_
  refine R_iadd hX dX11_feed_9 ?_
  refine R_sipush hX dX11_feed_10 (by decide) ?_
  refine R_icmple (tgt := 18) hX dX11_feed_13 (by decide) ⟨by omega, by omega⟩ ⟨by omega, by omega⟩ (fun c_13 => ?_) (fun c_13 => ?_)
  · skip
    refine R_aload_0 hX dX11_feed_18 ?_
    refine R_getq (v := 1) hX dX11_feed_19 fl_X11_10 o_0 rfl (by omega) ?_
    refine R_iload_1 hX dX11_feed_22 ?_
    refine R_v1v hX dX11_feed_23 li_X11_57 mk_X9_append mi_X9_append rfl o_1 (c_append (by omega)) ⟨⟨by decide, by decide⟩, by decide, by decide, rfl, Nat.le_of_ble_eq_true rfl, rfl⟩ (fun x_23 F_23 h_23 => ?_)
    subst h_23
    refine R_aload_0 hX dX11_feed_26 ?_
    refine R_getq (v := 1) hX dX11_feed_27 fl_X11_10 o_0 rfl (by omega) ?_
    refine R_iload_2 hX dX11_feed_30 ?_
    refine R_v1v hX dX11_feed_31 li_X11_57 mk_X9_append mi_X9_append rfl o_1 (c_append (by omega)) ⟨⟨by decide, by decide⟩, by decide, by decide, rfl, Nat.le_of_ble_eq_true rfl, rfl⟩ (fun x_31 F_31 h_31 => ?_)
    subst h_31
    refine R_aload_0 hX dX11_feed_34 ?_
    refine R_getq (v := 1) hX dX11_feed_35 fl_X11_10 o_0 rfl (by omega) ?_
    refine R_iload_3 hX dX11_feed_38 ?_
    refine R_v1v hX dX11_feed_39 li_X11_57 mk_X9_append mi_X9_append rfl o_1 (c_append (by omega)) ⟨⟨by decide, by decide⟩, by decide, by decide, rfl, Nat.le_of_ble_eq_true rfl, rfl⟩ (fun x_39 F_39 h_39 => ?_)
    subst h_39
    refine R_aload_0 hX dX11_feed_42 ?_
    refine R_getq (v := 1) hX dX11_feed_43 fl_X11_10 o_0 rfl (by omega) ?_
    refine R_iload_4 hX dX11_feed_46 ?_
    refine R_v1v hX dX11_feed_48 li_X11_57 mk_X9_append mi_X9_append rfl o_1 (c_append (by omega)) ⟨⟨by decide, by decide⟩, by decide, by decide, rfl, Nat.le_of_ble_eq_true rfl, rfl⟩ (fun x_48 F_48 h_48 => ?_)
    subst h_48
    refine R_aload_0 hX dX11_feed_51 ?_
    refine R_getq (v := 1) hX dX11_feed_52 fl_X11_10 o_0 rfl (by omega) ?_
    refine R_iload_5 hX dX11_feed_55 ?_
    refine R_v1v hX dX11_feed_57 li_X11_57 mk_X9_append mi_X9_append rfl o_1 (c_append (by omega)) ⟨⟨by decide, by decide⟩, by decide, by decide, rfl, Nat.le_of_ble_eq_true rfl, rfl⟩ (fun x_57 F_57 h_57 => ?_)
    subst h_57
    refine R_aload_0 hX dX11_feed_60 ?_
    refine R_getq (v := 1) hX dX11_feed_61 fl_X11_10 o_0 rfl (by omega) ?_
    refine R_geti hX dX11_feed_64 fl_X11_53 o_1 rfl ?_
    exact R_iret hX dX11_feed_67 (Or.inr ⟨by omega, by omega, rfl⟩)
  · skip
    refine R_iconst hX dX11_feed_16 ?_
    exact R_iret hX dX11_feed_17 (Or.inl ⟨by omega, rfl, rfl⟩)
set_option maxRecDepth 100000 in
set_option maxHeartbeats 4000000 in
theorem c_truncate {V : VX} {T : Shp} {F : Hp} (hL : 0 ≤ F 1 1 ∧ F 1 1 ≤ 900) {x : Int} (hx : I32 x) : Ct V yX11_truncate cX11_truncate 2 (some .int) 0 0 0 0 (SH T) [vr V 0, vi x] F (SH T) 1 (fun r F' => ((x < 0 ∨ F 1 1 < x) ∧ r = -1 ∧ F' = F) ∨ ((0 ≤ x ∧ x ≤ F 1 1) ∧ r = x ∧ F' = up F 1 1 x)) := by
  refine Ct.of [some (vr V 0), some (vi x)] (by decide) (by simp [lg_sl, vi_cat, vl_cat, vr_cat]) rfl (by simp [asc, lv_args, vi_cat, vl_cat, vr_cat]) (fun X hV hX => ?_)
  subst hV
  refine R_iload_1 hX dX11_truncate_0 ?_
  refine R_iflt (tgt := 15) hX dX11_truncate_1 (by decide) ⟨by omega, by omega⟩ (fun c_1 => ?_) (fun c_1 => ?_)
  · skip
    refine R_iconst hX dX11_truncate_15 ?_
    exact R_iret hX dX11_truncate_16 (Or.inl ⟨by omega, rfl, rfl⟩)
  · skip
    refine R_iload_1 hX dX11_truncate_4 ?_
    refine R_aload_0 hX dX11_truncate_5 ?_
    refine R_getq (v := 1) hX dX11_truncate_6 fl_X11_10 o_0 rfl (by omega) ?_
    refine R_geti hX dX11_truncate_9 fl_X11_53 o_1 rfl ?_
    refine R_icmple (tgt := 17) hX dX11_truncate_12 (by decide) ⟨by omega, by omega⟩ ⟨by omega, by omega⟩ (fun c_12 => ?_) (fun c_12 => ?_)
    · skip
      refine R_aload_0 hX dX11_truncate_17 ?_
      refine R_getq (v := 1) hX dX11_truncate_18 fl_X11_10 o_0 rfl (by omega) ?_
      refine R_iload_1 hX dX11_truncate_21 ?_
      refine R_puti hX dX11_truncate_22 fl_X11_53 o_1 rfl ?_
      refine R_iload_1 hX dX11_truncate_25 ?_
      exact R_iret hX dX11_truncate_26 (Or.inr ⟨by omega, rfl, rfl⟩)
    · skip
      refine R_iconst hX dX11_truncate_15 ?_
      exact R_iret hX dX11_truncate_16 (Or.inl ⟨by omega, rfl, rfl⟩)
set_option maxRecDepth 100000 in
set_option maxHeartbeats 4000000 in
theorem c_load {V : VX} {T : Shp} {F : Hp} {u v : Int} (hu : isSu u) (hv : isSu v) (hs : F 0 3 = u) (hd : F 3 2 = v) (hL : 0 ≤ F 1 1 ∧ F 1 1 ≤ 900) (hB : ∀ i : Int, 0 ≤ i → i < F 1 1 → -128 ≤ F 2 i ∧ F 2 i ≤ 127) : Ct V yX11_load cX11_load 2 (some .int) 8 176 0 0 (SH T) [vr V 0] F (SH T) 1 (fun r F' => (rdS v 901 (bgS v F) 3 0 ≠ 0 ∧ r = -1 ∧ F' = up (rdS v 901 (bgS v F)) 1 1 0) ∨ (rdS v 901 (bgS v F) 3 0 = 0 ∧ r = rdS v 901 (bgS v F) v 0 ∧ F' = up (up (begS 40 v (up (up (up (rdS v 901 (bgS v F)) 1 1 0) 0 3 v) 3 2 u)) 88 0 0) 112 0 0)) := by
  refine Ct.of [some (vr V 0), none] (by decide) (by simp [lg_sl, vi_cat, vl_cat, vr_cat]) rfl (by simp [asc, lv_args, vi_cat, vl_cat, vr_cat]) (fun X hV hX => ?_)
  subst hV
  have hR2 : up (rdS v 901 (bgS v F)) 1 1 0 3 2 = v := by rw [up_k (by decide), rdS_k hv (by omega)]; unfold bgS; simp (disch := omega) only [up_k, up_i]; exact hd
  have hR3 : up (rdS v 901 (bgS v F)) 1 1 0 0 3 = u := by rw [up_k (by decide), rdS_k hv (by omega)]; unfold bgS; simp (disch := omega) only [up_k, up_i]; exact hs
  have hR0 := rd_code hv hd hL hB
  refine R_aload_0 hX dX11_load_0 ?_
  refine R_getq (v := 3) hX dX11_load_1 fl_X11_19 o_0 rfl (by omega) ?_
  refine R_aload_0 hX dX11_load_4 ?_
  refine R_getq (v := 1) hX dX11_load_5 fl_X11_10 o_0 rfl (by omega) ?_
  refine R_v1v hX dX11_load_8 li_X11_61 mk_X5_read mi_X5_read rfl o_3 (c_read hv hd hL hB) ⟨⟨by decide, by decide⟩, by decide, by decide, rfl, Nat.le_of_ble_eq_true rfl, rfl⟩ (fun x_8 F_8 h_8 => ?_)
  subst h_8
  refine R_aload_0 hX dX11_load_11 ?_
  refine R_getq (v := 1) hX dX11_load_12 fl_X11_10 o_0 rfl (by omega) ?_
  refine R_iconst hX dX11_load_15 ?_
  refine R_puti hX dX11_load_16 fl_X11_53 o_1 rfl ?_
  refine R_aload_0 hX dX11_load_19 ?_
  refine R_getq (v := 3) hX dX11_load_20 fl_X11_19 o_0 rfl (by omega) ?_
  refine R_geti hX dX11_load_23 fl_X11_65 o_3 rfl ?_
  refine R_ifeq (tgt := 31) hX dX11_load_26 (by decide) (by rw [up_k (by decide)]; exact hR0) (fun c_26 => ?_) (fun c_26 => ?_)
  · skip
    rw [up_k (by decide)] at c_26
    refine R_aload_0 hX dX11_load_31 ?_
    refine R_getoE (v := u) hX dX11_load_32 fl_X11_33 o_0 rfl hR3 ?_
    refine R_astore_1 hX c1_r dX11_load_35 ?_
    refine R_aload_0 hX dX11_load_36 ?_
    refine R_aload_0 hX dX11_load_37 ?_
    refine R_getq (v := 3) hX dX11_load_38 fl_X11_19 o_0 rfl (by omega) ?_
    skip
    refine R_getoE (v := v) hX dX11_load_41 fl_X11_68 o_3 rfl hR2 ?_
    refine R_puto hX dX11_load_44 fl_X11_33 o_0 rfl ?_
    refine R_aload_0 hX dX11_load_47 ?_
    refine R_getq (v := 3) hX dX11_load_48 fl_X11_19 o_0 rfl (by omega) ?_
    refine R_aload_1 hX dX11_load_51 ?_
    refine R_puto hX dX11_load_52 fl_X11_68 o_3 rfl ?_
    refine R_aload_0 hX dX11_load_55 ?_
    refine R_getq (v := 40) hX dX11_load_56 fl_X11_40 o_0 rfl (by omega) ?_
    refine R_aload_0 hX dX11_load_59 ?_
    skip
    refine R_getoE (v := v) hX dX11_load_60 fl_X11_33 o_0 rfl (by simp (disch := omega) only [up_k, up_i, up_s]) ?_
    refine R_v1v hX dX11_load_63 li_X11_71 mk_X8_begin mi_X8_begin rfl o_40 (c_stBegin hv (b := 40) (by omega)) ⟨⟨by decide, by decide⟩, by decide, by decide, rfl, Nat.le_of_ble_eq_true rfl, rfl⟩ (fun x_63 F_63 h_63 => ?_)
    subst h_63
    refine R_aload_0 hX dX11_load_66 ?_
    refine R_getq (v := 88) hX dX11_load_67 fl_X11_47 o_0 rfl (by omega) ?_
    refine R_iconst hX dX11_load_70 ?_
    refine R_putz hX dX11_load_71 fl_X11_75 o_88 rfl (Or.inl rfl) ?_
    refine R_aload_0 hX dX11_load_74 ?_
    refine R_getq (v := 112) hX dX11_load_75 fl_X11_50 o_0 rfl (by omega) ?_
    refine R_iconst hX dX11_load_78 ?_
    refine R_putz hX dX11_load_79 fl_X11_75 o_112 rfl (Or.inl rfl) ?_
    refine R_aload_0 hX dX11_load_82 ?_
    refine R_getoE (v := v) hX dX11_load_83 fl_X11_33 o_0 rfl (by rw [up_k (by omega), up_k (by omega), begS_r (by omega) (by omega)]; simp (disch := omega) only [up_k, up_i, up_s]) ?_
    refine R_geti hX dX11_load_86 fl_X11_79 (to_0 hv) rfl ?_
    exact R_iret hX dX11_load_89 (Or.inr ⟨c_26, (by rw [up_k (by omega), up_k (by omega), begS_r (by omega) (by omega)]; simp (disch := omega) only [up_k]), rfl⟩)
  · skip
    rw [up_k (by decide)] at c_26
    refine R_iconst hX dX11_load_29 ?_
    exact R_iret hX dX11_load_30 (Or.inl ⟨c_26, rfl, rfl⟩)
