/-- four bytes of a word behind the text of the reference -/
def foS (x : Int) : Nat → Hp → Hp
  | 0, F => F
  | k + 1, F => up (up (foS x k F) 146 (foS x k F 136 14) (iand (ishr x (24 - 8 * (k : Int))) 255)) 136 14 (foS x k F 136 14 + 1)
theorem foS_len (x : Int) (F : Hp) : ∀ k : Nat, foS x k F 136 14 = F 136 14 + k
  | 0 => by simp [foS]
  | k + 1 => by
    unfold foS
    rw [up_s, foS_len x F k]
    omega
theorem foS_s {x i : Int} {F : Hp} (h : 0 ≤ i) : foS x (i + 1).toNat F = up (up (foS x i.toNat F) 146 (foS x i.toNat F 136 14) (iand (ishr x (24 - 8 * i)) 255)) 136 14 (foS x i.toNat F 136 14 + 1) := by
  obtain ⟨k, rfl⟩ : ∃ k : Nat, i = k := ⟨i.toNat, by omega⟩
  rfl
theorem foS_r {x : Int} {F : Hp} {a i : Int} (h : a ≠ 146) (h2 : a ≠ 136 ∨ i ≠ 14) : ∀ k : Nat, foS x k F a i = F a i
  | 0 => rfl
  | k + 1 => by
    unfold foS
    rw [up_n (by omega), up_k h, foS_r h h2 k]
set_option maxRecDepth 100000 in
set_option maxHeartbeats 4000000 in
theorem r_four {V : VX} {F : Hp} (hL : 0 ≤ F 136 14 ∧ F 136 14 + 4 ≤ 900) {x : Int} : Ct V yX12_four cX12_four 3 none 0 0 0 0 SH [vr V 136, vi x] F SH 0 (fun r F' => F' = foS x 4 F) := by
  refine Ct.of [some (vr V 136), some (vi x), none] (by decide) (by simp [lg_sl, vi_cat, vl_cat, vr_cat]) rfl (by simp [asc, lv_args, vi_cat, vl_cat, vr_cat]) (fun X hV hX => ?_)
  subst hV
  refine R_bipush hX dX12_four_0 (by decide) ?_
  refine R_istore_2 hX c1_i dX12_four_2 ?_
  have lp_3 : ∀ (n : Nat) (k : Int), (0 ≤ k ∧ k ≤ 4) → (5 - k).toNat < n → R X SH 0 0 3 [some (vr (xV X) 136), some (vi x), some (vi (24 - 8 * k))] [] (foS x k.toNat F) (Zq X SH 0 (fun r F' => F' = foS x 4 F) 0 0) := by
    intro n
    induction n with
    | zero => intro k iv3_0 hm; exact absurd hm (Nat.not_lt_zero _)
    | succ n ih_3 =>
      intro k iv3_0 hm_3
      have hl := foS_len x F k.toNat
      refine R_iload_2 hX dX12_four_3 ?_
      refine R_iflt (tgt := 39) hX dX12_four_4 (by decide) (by constructor <;> first | omega | (simp (disch := omega) only [up_k, up_i, up_s]; omega)) (fun c_4 => ?_) (fun c_4 => ?_)
      · skip
        exact R_vret hX dX12_four_39 (by rw [show k = 4 by omega]; rfl)
      · skip
        refine R_aload_0 hX dX12_four_7 ?_
        refine R_getq (v := 146) hX dX12_four_8 fl_X12_46 o_136 rfl (by omega) ?_
        refine R_aload_0 hX dX12_four_11 ?_
        refine R_geti hX dX12_four_12 fl_X12_102 o_136 rfl ?_
        refine R_iload_1 hX dX12_four_15 ?_
        refine R_iload_2 hX dX12_four_16 ?_
        refine R_ishr hX dX12_four_17 ?_
        refine R_sipush hX dX12_four_18 (by decide) ?_
        refine R_iand hX dX12_four_21 ?_
        refine R_iast hX dX12_four_22 a_146 ⟨by omega, by omega⟩ ?_
        refine R_aload_0 hX dX12_four_23 ?_
        refine R_dup hX c1_r dX12_four_24 ?_
        refine R_geti hX dX12_four_25 fl_X12_102 o_136 rfl ?_
        refine R_iconst hX dX12_four_28 ?_
        refine R_iadd hX dX12_four_29 ?_
        refine R_puti hX dX12_four_30 fl_X12_102 o_136 rfl ?_
        simp (disch := omega) only [up_k]
        refine R.eq rfl rfl (foS_s iv3_0.1).symm ?_
        refine R_iinc_2 hX c1_i dX12_four_33 ?_
        rw [show 24 - 8 * k + -8 = 24 - 8 * (k + 1) by omega]
        refine R_goto (tgt := 3) hX dX12_four_36 (by decide) ?_
        exact ih_3 (k + 1) (by omega) (by omega)
  exact lp_3 6 0 (by omega) (by omega)
set_option maxRecDepth 100000 in
set_option maxHeartbeats 4000000 in
theorem r_feed {V : VX} {F : Hp} (hL : 0 ≤ F 136 14 ∧ F 136 14 ≤ 900) {x1 x2 x3 x4 x5 : Int} : Ct V yX12_feed cX12_feed 6 (some .int) 1 22 0 0 SH [vr V 136, vi x1, vi x2, vi x3, vi x4, vi x5] F SH 1 (fun r F' => (880 < F 136 14 ∧ r = -1 ∧ F' = up F 136 0 0) ∨ (F 136 14 ≤ 880 ∧ r = F 136 14 + 20 ∧ F' = foS x5 4 (foS x4 4 (foS x3 4 (foS x2 4 (foS x1 4 (up F 136 0 0))))))) := by
  refine Ct.of [some (vr V 136), some (vi x1), some (vi x2), some (vi x3), some (vi x4), some (vi x5)] (by decide) (by simp [lg_sl, vi_cat, vl_cat, vr_cat]) rfl (by simp [asc, lv_args, vi_cat, vl_cat, vr_cat]) (fun X hV hX => ?_)
  subst hV
  refine R_aload_0 hX dX12_feed_0 ?_
  refine R_iconst hX dX12_feed_1 ?_
  refine R_puti hX dX12_feed_2 fl_X12_88 o_136 rfl ?_
  obtain ⟨H, hH⟩ : ∃ H : Hp, H = up F 136 0 0 := ⟨_, rfl⟩
  rw [← hH]
  have e0 : H 136 14 = F 136 14 := by rw [hH]; exact up_i (by decide)
  have e1 := foS_len x1 H 4
  have e2 := foS_len x2 (foS x1 4 H) 4
  have e3 := foS_len x3 (foS x2 4 (foS x1 4 H)) 4
  have e4 := foS_len x4 (foS x3 4 (foS x2 4 (foS x1 4 H))) 4
  have e5 := foS_len x5 (foS x4 4 (foS x3 4 (foS x2 4 (foS x1 4 H)))) 4
  refine R_aload_0 hX dX12_feed_5 ?_
  refine R_geti hX dX12_feed_6 fl_X12_102 o_136 rfl ?_
  refine R_bipush hX dX12_feed_9 (by decide) ?_
  refine R_iadd hX dX12_feed_11 ?_
  refine R_sipush hX dX12_feed_12 (by decide) ?_
  refine R_icmple (tgt := 20) hX dX12_feed_15 (by decide) (by constructor <;> first | omega | (simp (disch := omega) only [up_k, up_i, up_s]; omega)) (by constructor <;> first | omega | (simp (disch := omega) only [up_k, up_i, up_s]; omega)) (fun c_15 => ?_) (fun c_15 => ?_)
  · skip
    refine R_aload_0 hX dX12_feed_20 ?_
    refine R_iload_1 hX dX12_feed_21 ?_
    refine R_v1v hX dX12_feed_22 li_X12_105 mk_X12_four mi_X12_four rfl o_136 (r_four (by omega)) ⟨⟨by decide, by decide⟩, by decide, by decide, rfl, Nat.le_of_ble_eq_true rfl, rfl⟩ (fun x_22 F_22 h_22 => ?_)
    subst h_22
    refine R_aload_0 hX dX12_feed_25 ?_
    refine R_iload_2 hX dX12_feed_26 ?_
    refine R_v1v hX dX12_feed_27 li_X12_105 mk_X12_four mi_X12_four rfl o_136 (r_four (by omega)) ⟨⟨by decide, by decide⟩, by decide, by decide, rfl, Nat.le_of_ble_eq_true rfl, rfl⟩ (fun x_27 F_27 h_27 => ?_)
    subst h_27
    refine R_aload_0 hX dX12_feed_30 ?_
    refine R_iload_3 hX dX12_feed_31 ?_
    refine R_v1v hX dX12_feed_32 li_X12_105 mk_X12_four mi_X12_four rfl o_136 (r_four (by omega)) ⟨⟨by decide, by decide⟩, by decide, by decide, rfl, Nat.le_of_ble_eq_true rfl, rfl⟩ (fun x_32 F_32 h_32 => ?_)
    subst h_32
    refine R_aload_0 hX dX12_feed_35 ?_
    refine R_iload_4 hX dX12_feed_36 ?_
    refine R_v1v hX dX12_feed_38 li_X12_105 mk_X12_four mi_X12_four rfl o_136 (r_four (by omega)) ⟨⟨by decide, by decide⟩, by decide, by decide, rfl, Nat.le_of_ble_eq_true rfl, rfl⟩ (fun x_38 F_38 h_38 => ?_)
    subst h_38
    refine R_aload_0 hX dX12_feed_41 ?_
    refine R_iload_5 hX dX12_feed_42 ?_
    refine R_v1v hX dX12_feed_44 li_X12_105 mk_X12_four mi_X12_four rfl o_136 (r_four (by omega)) ⟨⟨by decide, by decide⟩, by decide, by decide, rfl, Nat.le_of_ble_eq_true rfl, rfl⟩ (fun x_44 F_44 h_44 => ?_)
    subst h_44
    refine R_aload_0 hX dX12_feed_47 ?_
    refine R_geti hX dX12_feed_48 fl_X12_102 o_136 rfl ?_
    exact R_iret hX dX12_feed_51 (Or.inr ⟨by omega, by omega, rfl⟩)
  · skip
    refine R_iconst hX dX12_feed_18 ?_
    exact R_iret hX dX12_feed_19 (Or.inl ⟨by omega, rfl, rfl⟩)
set_option maxRecDepth 100000 in
set_option maxHeartbeats 4000000 in
theorem r_truncate {V : VX} {F : Hp} (hL : 0 ≤ F 136 14 ∧ F 136 14 ≤ 900) {x : Int} (hx : I32 x) : Ct V yX12_truncate cX12_truncate 2 (some .int) 1 25 0 0 SH [vr V 136, vi x] F SH 1 (fun r F' => ((x < 0 ∨ F 136 14 < x) ∧ r = -1 ∧ F' = up F 136 0 0) ∨ ((0 ≤ x ∧ x ≤ F 136 14) ∧ r = x ∧ F' = up (up F 136 0 0) 136 14 x)) := by
  refine Ct.of [some (vr V 136), some (vi x)] (by decide) (by simp [lg_sl, vi_cat, vl_cat, vr_cat]) rfl (by simp [asc, lv_args, vi_cat, vl_cat, vr_cat]) (fun X hV hX => ?_)
  subst hV
  refine R_aload_0 hX dX12_truncate_0 ?_
  refine R_iconst hX dX12_truncate_1 ?_
  refine R_puti hX dX12_truncate_2 fl_X12_88 o_136 rfl ?_
  have e0 : up F 136 0 0 136 14 = F 136 14 := up_i (by decide)
  refine R_iload_1 hX dX12_truncate_5 ?_
  refine R_i2l hX (by constructor <;> first | omega | (simp (disch := omega) only [up_k, up_i, up_s]; omega)) dX12_truncate_6 ?_
  refine R_lconst0 hX dX12_truncate_7 ?_
  refine R_aload_0 hX dX12_truncate_8 ?_
  refine R_geti hX dX12_truncate_9 fl_X12_102 o_136 rfl ?_
  refine R_i2l hX (by constructor <;> first | omega | (simp (disch := omega) only [up_k, up_i, up_s]; omega)) dX12_truncate_12 ?_
  refine R_s3i hX dX12_truncate_13 li_X12_94 mk_X12_in ms_X12_in (r_in (by constructor <;> omega) (by constructor <;> omega) (by constructor <;> omega)) ⟨⟨by decide, by decide⟩, by decide, by decide, rfl, Nat.le_of_ble_eq_true rfl, rfl⟩ (fun x_13 F_13 h_13 => ?_)
  obtain ⟨h_13, e_13⟩ := h_13; replace e_13 := e_13.symm; subst e_13
  refine R_ifne (tgt := 21) hX dX12_truncate_16 (by decide) (by constructor <;> first | omega | (simp (disch := omega) only [up_k, up_i, up_s]; omega)) (fun c_16 => ?_) (fun c_16 => ?_)
  · skip
    refine R_aload_0 hX dX12_truncate_21 ?_
    refine R_iload_1 hX dX12_truncate_22 ?_
    refine R_puti hX dX12_truncate_23 fl_X12_102 o_136 rfl ?_
    refine R_iload_1 hX dX12_truncate_26 ?_
    exact R_iret hX dX12_truncate_27 (Or.inr ⟨by omega, rfl, rfl⟩)
  · skip
    refine R_iconst hX dX12_truncate_19 ?_
    exact R_iret hX dX12_truncate_20 (Or.inl ⟨by omega, rfl, rfl⟩)
set_option maxRecDepth 100000 in
set_option maxHeartbeats 4000000 in
theorem r_advance {V : VX} {F : Hp} {K : Int} (h : RI K F) (hK : K ≤ 1000000) {t : Int} (h1 : I32 t)  : Ct V yX12_advance cX12_advance 4 (some .int) 5 115 0 0 SH [vr V 136, vi t] F SH 1 (fun r F' => ∃ H : Hp, H = up F 136 0 0 ∧ ((¬ (1 ≤ t ∧ t ≤ 500 ∧ H 137 0 + t ≤ 5000 ∧ 0 < H 136 3) ∧ r = -1 ∧ F' = H) ∨ ((1 ≤ t ∧ t ≤ 500 ∧ H 137 0 + t ≤ 5000 ∧ 0 < H 136 3) ∧ r = (tksS 1000 1100 t.toNat (vw 0 H)).1 ∧ Tv H (tksS 1000 1100 t.toNat (vw 0 H)).2 F'))) := by
  refine Ct.of [some (vr V 136), some (vi t), none, none] (by decide) (by simp [lg_sl, vi_cat, vl_cat, vr_cat]) rfl (by simp [asc, lv_args, vi_cat, vl_cat, vr_cat]) (fun X hV hX => ?_)
  subst hV
  refine R_aload_0 hX dX12_advance_0 ?_
  refine R_iconst hX dX12_advance_1 ?_
  refine R_puti hX dX12_advance_2 fl_X12_88 o_136 rfl ?_
  refine R.gen (fun H hH => ?_)
  have hR : RI K H := by rw [hH]; exact h.z
  have hN := ri_N hR
  have hT := ri_T hR
  have hQ0 := (ri_Q hR).1
  refine R_aload_0 hX dX12_advance_5 ?_
  refine R_iload_1 hX dX12_advance_6 ?_
  refine R_v1i hX dX12_advance_7 li_X12_303 mk_X12_mayTick mi_X12_mayTick rfl o_136 (r_mayTick hR h1) ⟨⟨by decide, by decide⟩, by decide, by decide, rfl, Nat.le_of_ble_eq_true rfl, rfl⟩ (fun x_7 F_7 h_7 => ?_)
  obtain ⟨h_7, e_7⟩ := h_7; replace e_7 := e_7.symm; subst e_7
  refine R_ifne (tgt := 15) hX dX12_advance_10 (by decide) (by constructor <;> first | omega | (simp (disch := omega) only [up_k, up_i, up_s]; omega)) (fun c_10 => ?_) (fun c_10 => ?_)
  · skip
    refine R_iconst hX dX12_advance_15 ?_
    refine R_istore_2 hX c1_i dX12_advance_16 ?_
    refine R_iconst hX dX12_advance_17 ?_
    refine R_istore_3 hX c1_i dX12_advance_18 ?_
    have lp_19 : ∀ (n : Nat) (x : Int) (m : Int) (G : Hp), (0 ≤ x ∧ x ≤ t) → (m = (tksS 1000 1100 x.toNat (vw 0 H)).1) → (Tv H (tksS 1000 1100 x.toNat (vw 0 H)).2 G) → (502 - x).toNat < n → R X SH 0 0 19 [some (vr (xV X) 136), some (vi t), some (vi m), some (vi x)] [] G (Zq X SH 1 (fun r F' => ∃ H : Hp, H = up F 136 0 0 ∧ ((¬ (1 ≤ t ∧ t ≤ 500 ∧ H 137 0 + t ≤ 5000 ∧ 0 < H 136 3) ∧ r = -1 ∧ F' = H) ∨ ((1 ≤ t ∧ t ≤ 500 ∧ H 137 0 + t ≤ 5000 ∧ 0 < H 136 3) ∧ r = (tksS 1000 1100 t.toNat (vw 0 H)).1 ∧ Tv H (tksS 1000 1100 t.toNat (vw 0 H)).2 F'))) 0 0) := by
      intro n
      induction n with
      | zero => intro x m G iv19_0 iv19_1 iv19_2 hm; exact absurd hm (Nat.not_lt_zero _)
      | succ n ih_19 =>
        intro x m G iv19_0 iv19_1 iv19_2 hm_19
        have hk := StA.tks dj1 (by decide) hR x.toNat (by rw [vw_t]; omega)
        have hG := iv19_2.ri hR hk.1
        have htG : G 137 0 = H 137 0 + x := by have e := iv19_2.1.1; have e2 := hk.2.1; rw [vw_t] at e e2; rw [← e, e2]; omega
        refine R_iload_3 hX dX12_advance_19 ?_
        refine R_iload_1 hX dX12_advance_20 ?_
        refine R_icmpge (tgt := 37) hX dX12_advance_21 (by decide) (by constructor <;> first | omega | (simp (disch := omega) only [up_k, up_i, up_s]; omega)) (by constructor <;> first | omega | (simp (disch := omega) only [up_k, up_i, up_s]; omega)) (fun c_21 => ?_) (fun c_21 => ?_)
        · skip
          refine R_iload_2 hX dX12_advance_37 ?_
          exact R_iret hX dX12_advance_38 ⟨H, hH, Or.inr ⟨by omega, by rw [iv19_1, show x = t by omega], by rw [show t = x by omega]; exact iv19_2⟩⟩
        · skip
          refine R_iload_2 hX dX12_advance_24 ?_
          refine R_aload_0 hX dX12_advance_25 ?_
          refine R_v0i hX dX12_advance_26 li_X12_306 mk_X12_ticks mi_X12_ticks rfl o_136 (r_ticks hG hK (by rw [htG]; omega)) ⟨⟨by decide, by decide⟩, by decide, by decide, rfl, Nat.le_of_ble_eq_true rfl, rfl⟩ (fun x_26 F_26 h_26 => ?_)
          have hnx := iv19_2.tk hk.1 (by rw [hk.2.1, vw_t]; omega) h_26.2
          refine R_iadd hX dX12_advance_29 ?_
          refine R_istore_2 hX c1_i dX12_advance_30 ?_
          refine R_iinc_3 hX c1_i dX12_advance_31 ?_
          refine R_goto (tgt := 19) hX dX12_advance_34 (by decide) ?_
          exact ih_19 (x + 1) _ _ (by omega) (by rw [tksS_s (by omega), iv19_1, h_26.1, ← hnx.1]) (by rw [tksS_s (by omega)]; exact hnx.2) (by omega)
    exact lp_19 503 0 0 _ (by omega) rfl Tv.rf (by omega)
  · skip
    refine R_iconst hX dX12_advance_13 ?_
    exact R_iret hX dX12_advance_14 ⟨H, hH, Or.inl ⟨by omega, rfl, rfl⟩⟩
set_option maxRecDepth 100000 in
set_option maxHeartbeats 4000000 in
theorem r_forecast {V : VX} {F : Hp} {K : Int} (h : RI K F) (hK : K ≤ 1000000) {l t : Int} (h1 : I32 l) (h2 : I32 t)  : Ct V yX12_forecast cX12_forecast 5 (some .int) 5 115 0 0 SH [vr V 136, vi l, vi t] F SH 1 (fun r F' => ∃ H : Hp, H = up F 136 0 0 ∧ ((¬ (0 ≤ l ∧ l < H 136 3 ∧ chlC (H 141) (H 136 3) l = 0 ∧ 1 ≤ t ∧ t ≤ 500 ∧ H 137 0 + t ≤ 5000 ∧ 0 < H 136 3) ∧ r = -1 ∧ F' = H) ∨ ((0 ≤ l ∧ l < H 136 3 ∧ chlC (H 141) (H 136 3) l = 0 ∧ 1 ≤ t ∧ t ≤ 500 ∧ H 137 0 + t ≤ 5000 ∧ 0 < H 136 3) ∧ r = (tksS 1000 1100 t.toNat (vw 0 H)).2 1015 l - H 137 (51 + l) ∧ Sm H F'))) := by
  refine Ct.of [some (vr V 136), some (vi l), some (vi t), none, none] (by decide) (by simp [lg_sl, vi_cat, vl_cat, vr_cat]) rfl (by simp [asc, lv_args, vi_cat, vl_cat, vr_cat]) (fun X hV hX => ?_)
  subst hV
  refine R_aload_0 hX dX12_forecast_0 ?_
  refine R_iconst hX dX12_forecast_1 ?_
  refine R_puti hX dX12_forecast_2 fl_X12_88 o_136 rfl ?_
  refine R.gen (fun H hH => ?_)
  have hR : RI K H := by rw [hH]; exact h.z
  have hN := ri_N hR
  have hT := ri_T hR
  have hQ0 := (ri_Q hR).1
  refine R_aload_0 hX dX12_forecast_5 ?_
  refine R_iload_1 hX dX12_forecast_6 ?_
  refine R_v1i hX dX12_forecast_7 li_X12_247 mk_X12_isBare mi_X12_isBare rfl o_136 (r_isBare hR h1) ⟨⟨by decide, by decide⟩, by decide, by decide, rfl, Nat.le_of_ble_eq_true rfl, rfl⟩ (fun x_7 F_7 h_7 => ?_)
  obtain ⟨h_7, e_7⟩ := h_7; replace e_7 := e_7.symm; subst e_7
  refine R_ifeq (tgt := 21) hX dX12_forecast_10 (by decide) (by constructor <;> first | omega | (simp (disch := omega) only [up_k, up_i, up_s]; omega)) (fun c_10 => ?_) (fun c_10 => ?_)
  · skip
    refine R_iconst hX dX12_forecast_21 ?_
    exact R_iret hX dX12_forecast_22 ⟨H, hH, Or.inl ⟨by omega, rfl, rfl⟩⟩
  · skip
    refine R_aload_0 hX dX12_forecast_13 ?_
    refine R_iload_2 hX dX12_forecast_14 ?_
    refine R_v1i hX dX12_forecast_15 li_X12_303 mk_X12_mayTick mi_X12_mayTick rfl o_136 (r_mayTick hR h2) ⟨⟨by decide, by decide⟩, by decide, by decide, rfl, Nat.le_of_ble_eq_true rfl, rfl⟩ (fun x_15 F_15 h_15 => ?_)
    obtain ⟨h_15, e_15⟩ := h_15; replace e_15 := e_15.symm; subst e_15
    refine R_ifne (tgt := 23) hX dX12_forecast_18 (by decide) (by constructor <;> first | omega | (simp (disch := omega) only [up_k, up_i, up_s]; omega)) (fun c_18 => ?_) (fun c_18 => ?_)
    · skip
      refine R_aload_0 hX dX12_forecast_23 ?_
      refine R_iconst hX dX12_forecast_24 ?_
      refine R_iconst hX dX12_forecast_25 ?_
      refine R_v2v hX dX12_forecast_26 li_X12_275 mk_X12_copies mi_X12_copies rfl o_136 (r_copies (by omega) (by omega) (by omega)) ⟨⟨by decide, by decide⟩, by decide, by decide, rfl, Nat.le_of_ble_eq_true rfl, rfl⟩ (fun x_26 F_26 h_26 => ?_)
      subst h_26
      have hv3 : vw 0 (cpR 0 3 819 H) = vw 0 H := vw_cpo (by omega)
      have hR3 : RI K (cpR 0 3 819 H) := RI.of (by rw [hv3]; exact hR)
      have q3 : ∀ i : Int, i < 2457 → cpR 0 3 819 H 137 i = H 137 i := fun i z => cpR_o (by omega)
      refine R_aload_0 hX dX12_forecast_29 ?_
      refine R_getq (v := 137) hX dX12_forecast_30 fl_X12_7 o_136 rfl (by omega) ?_
      refine R_bipush hX dX12_forecast_33 (by decide) ?_
      refine R_iload_1 hX dX12_forecast_35 ?_
      refine R_iadd hX dX12_forecast_36 ?_
      refine R_iald hX dX12_forecast_37 a_137 ⟨by omega, by omega⟩ ?_
      rw [q3 _ (by omega)]
      refine R_istore_3 hX c1_i dX12_forecast_38 ?_
      refine R_iconst hX dX12_forecast_39 ?_
      refine R_istore_4 hX c1_i dX12_forecast_40 ?_
      have lp_42 : ∀ (n : Nat) (x : Int) (G : Hp), (0 ≤ x ∧ x ≤ t) → (Tv (cpR 0 3 819 H) (tksS 1000 1100 x.toNat (vw 0 H)).2 G) → (502 - x).toNat < n → R X SH 0 0 42 [some (vr (xV X) 136), some (vi l), some (vi t), some (vi (H 137 (51 + l))), some (vi x)] [] G (Zq X SH 1 (fun r F' => ∃ H : Hp, H = up F 136 0 0 ∧ ((¬ (0 ≤ l ∧ l < H 136 3 ∧ chlC (H 141) (H 136 3) l = 0 ∧ 1 ≤ t ∧ t ≤ 500 ∧ H 137 0 + t ≤ 5000 ∧ 0 < H 136 3) ∧ r = -1 ∧ F' = H) ∨ ((0 ≤ l ∧ l < H 136 3 ∧ chlC (H 141) (H 136 3) l = 0 ∧ 1 ≤ t ∧ t ≤ 500 ∧ H 137 0 + t ≤ 5000 ∧ 0 < H 136 3) ∧ r = (tksS 1000 1100 t.toNat (vw 0 H)).2 1015 l - H 137 (51 + l) ∧ Sm H F'))) 0 0) := by
        intro n
        induction n with
        | zero => intro x G iv42_0 iv42_1 hm; exact absurd hm (Nat.not_lt_zero _)
        | succ n ih_42 =>
          intro x G iv42_0 iv42_1 hm_42
          have hk := StA.tks dj1 (by decide) hR x.toNat (by rw [vw_t]; omega)
          have hG := iv42_1.ri hR3 hk.1
          have htG : G 137 0 = H 137 0 + x := by have e := iv42_1.1.1; have e2 := hk.2.1; rw [vw_t] at e e2; rw [← e, e2]; omega
          refine R_iload_4 hX dX12_forecast_42 ?_
          refine R_iload_2 hX dX12_forecast_44 ?_
          refine R_icmpge (tgt := 59) hX dX12_forecast_45 (by decide) (by constructor <;> first | omega | (simp (disch := omega) only [up_k, up_i, up_s]; omega)) (by constructor <;> first | omega | (simp (disch := omega) only [up_k, up_i, up_s]; omega)) (fun c_45 => ?_) (fun c_45 => ?_)
          · skip
            refine R_aload_0 hX dX12_forecast_59 ?_
            refine R_getq (v := 137) hX dX12_forecast_60 fl_X12_7 o_136 rfl (by omega) ?_
            refine R_bipush hX dX12_forecast_63 (by decide) ?_
            refine R_iload_1 hX dX12_forecast_65 ?_
            refine R_iadd hX dX12_forecast_66 ?_
            refine R_iald hX dX12_forecast_67 a_137 ⟨by omega, by omega⟩ ?_
            refine R_iload_3 hX dX12_forecast_68 ?_
            refine R_isub hX dX12_forecast_69 ?_
            have hxt : x = t := by omega
            subst hxt
            have h51 : G 137 (51 + l) = (tksS 1000 1100 x.toNat (vw 0 H)).2 1015 l := by
              have hNN : 0 ≤ l ∧ l < (tksS 1000 1100 x.toNat (vw 0 H)).2 1100 0 := by rw [tksS_r (by omega), vw_1100_0]; omega
              have := (iv42_1.1.2.2.2.2.1 l hNN.1 hNN.2).2.1
              rw [show (1000 : Int) + 15 = 1015 from rfl, vw_15 (by omega)] at this
              exact this.symm
            rw [h51]
            refine R_istore_4 hX c1_i dX12_forecast_70 ?_
            refine R_aload_0 hX dX12_forecast_72 ?_
            refine R_iconst hX dX12_forecast_73 ?_
            refine R_iconst hX dX12_forecast_74 ?_
            refine R_v2v hX dX12_forecast_75 li_X12_275 mk_X12_copies mi_X12_copies rfl o_136 (r_copies (by omega) (by omega) (by omega)) ⟨⟨by decide, by decide⟩, by decide, by decide, rfl, Nat.le_of_ble_eq_true rfl, rfl⟩ (fun x_75 F_75 h_75 => ?_)
            subst h_75
            refine R_iload_4 hX dX12_forecast_78 ?_
            exact R_iret hX dX12_forecast_80 ⟨H, hH, Or.inr ⟨by omega, rfl, cp_back iv42_1.2.2⟩⟩
          · skip
            refine R_aload_0 hX dX12_forecast_48 ?_
            refine R_v0i hX dX12_forecast_49 li_X12_306 mk_X12_ticks mi_X12_ticks rfl o_136 (r_ticks hG hK (by rw [htG]; omega)) ⟨⟨by decide, by decide⟩, by decide, by decide, rfl, Nat.le_of_ble_eq_true rfl, rfl⟩ (fun x_49 F_49 h_49 => ?_)
            have hnx := iv42_1.tk hk.1 (by rw [hk.2.1, vw_t]; omega) h_49.2
            refine R_pop hX c1_i dX12_forecast_52 ?_
            refine R_iinc_4 hX c1_i dX12_forecast_53 ?_
            refine R_goto (tgt := 42) hX dX12_forecast_56 (by decide) ?_
            exact ih_42 (x + 1) _ (by omega) (by rw [tksS_s (by omega)]; exact hnx.2) (by omega)
      exact lp_42 503 0 _ (by omega) (by rw [← hv3]; exact Tv.rf) (by omega)
    · skip
      refine R_iconst hX dX12_forecast_21 ?_
      exact R_iret hX dX12_forecast_22 ⟨H, hH, Or.inl ⟨by omega, rfl, rfl⟩⟩
set_option maxRecDepth 100000 in
set_option maxHeartbeats 4000000 in
theorem r_drainTime {V : VX} {F : Hp} {K : Int} (h : RI K F) (hK : K ≤ 1000000) {l : Int} (h1 : I32 l)  : Ct V yX12_drainTime cX12_drainTime 4 (some .int) 5 115 0 0 SH [vr V 136, vi l] F SH 1 (fun r F' => ∃ H : Hp, H = up F 136 0 0 ∧ ((¬ (0 ≤ l ∧ l < H 136 3 ∧ chlC (H 141) (H 136 3) l = 0) ∧ r = -1 ∧ F' = H) ∨ ((0 ≤ l ∧ l < H 136 3 ∧ chlC (H 141) (H 136 3) l = 0) ∧ r = drS 1000 1100 l (min 500 (5000 - H 137 0)).toNat 0 (vw 0 H) ∧ Sm H F'))) := by
  refine Ct.of [some (vr V 136), some (vi l), none, none] (by decide) (by simp [lg_sl, vi_cat, vl_cat, vr_cat]) rfl (by simp [asc, lv_args, vi_cat, vl_cat, vr_cat]) (fun X hV hX => ?_)
  subst hV
  refine R_aload_0 hX dX12_drainTime_0 ?_
  refine R_iconst hX dX12_drainTime_1 ?_
  refine R_puti hX dX12_drainTime_2 fl_X12_88 o_136 rfl ?_
  refine R.gen (fun H hH => ?_)
  have hR : RI K H := by rw [hH]; exact h.z
  have hN := ri_N hR
  have hT := ri_T hR
  have hQ0 := (ri_Q hR).1
  refine R_aload_0 hX dX12_drainTime_5 ?_
  refine R_iload_1 hX dX12_drainTime_6 ?_
  refine R_v1i hX dX12_drainTime_7 li_X12_247 mk_X12_isBare mi_X12_isBare rfl o_136 (r_isBare hR h1) ⟨⟨by decide, by decide⟩, by decide, by decide, rfl, Nat.le_of_ble_eq_true rfl, rfl⟩ (fun x_7 F_7 h_7 => ?_)
  obtain ⟨h_7, e_7⟩ := h_7; replace e_7 := e_7.symm; subst e_7
  refine R_ifne (tgt := 15) hX dX12_drainTime_10 (by decide) (by constructor <;> first | omega | (simp (disch := omega) only [up_k, up_i, up_s]; omega)) (fun c_10 => ?_) (fun c_10 => ?_)
  · skip
    refine R_aload_0 hX dX12_drainTime_15 ?_
    refine R_iconst hX dX12_drainTime_16 ?_
    refine R_iconst hX dX12_drainTime_17 ?_
    refine R_v2v hX dX12_drainTime_18 li_X12_275 mk_X12_copies mi_X12_copies rfl o_136 (r_copies (by omega) (by omega) (by omega)) ⟨⟨by decide, by decide⟩, by decide, by decide, rfl, Nat.le_of_ble_eq_true rfl, rfl⟩ (fun x_18 F_18 h_18 => ?_)
    subst h_18
    have hv3 : vw 0 (cpR 0 3 819 H) = vw 0 H := vw_cpo (by omega)
    have hR3 : RI K (cpR 0 3 819 H) := RI.of (by rw [hv3]; exact hR)
    have q3 : ∀ i : Int, i < 2457 → cpR 0 3 819 H 137 i = H 137 i := fun i z => cpR_o (by omega)
    refine R_iconst hX dX12_drainTime_21 ?_
    refine R_istore_2 hX c1_i dX12_drainTime_22 ?_
    have lp_23 : ∀ (n : Nat) (x : Int) (D : Hp) (G : Hp), (0 ≤ x ∧ x ≤ min 500 (5000 - H 137 0)) → (Tv (cpR 0 3 819 H) D G) → (StA 1000 1100 K D ∧ D 1000 1 = H 137 0 + x) → (drS 1000 1100 l (min 500 (5000 - H 137 0) - x).toNat x D = drS 1000 1100 l (min 500 (5000 - H 137 0)).toNat 0 (vw 0 H)) → (502 - x).toNat < n → R X SH 0 0 23 [some (vr (xV X) 136), some (vi l), some (vi x), none] [] G (Zq X SH 1 (fun r F' => ∃ H : Hp, H = up F 136 0 0 ∧ ((¬ (0 ≤ l ∧ l < H 136 3 ∧ chlC (H 141) (H 136 3) l = 0) ∧ r = -1 ∧ F' = H) ∨ ((0 ≤ l ∧ l < H 136 3 ∧ chlC (H 141) (H 136 3) l = 0) ∧ r = drS 1000 1100 l (min 500 (5000 - H 137 0)).toNat 0 (vw 0 H) ∧ Sm H F'))) 0 0) := by
      intro n
      induction n with
      | zero => intro x D G iv23_0 iv23_1 iv23_2 iv23_3 hm; exact absurd hm (Nat.not_lt_zero _)
      | succ n ih_23 =>
        intro x D G iv23_0 iv23_1 iv23_2 iv23_3 hm_23
        have hG := iv23_1.ri hR3 iv23_2.1
        have htG : G 137 0 = D 1000 1 := by have e := iv23_1.1.1; rw [vw_t] at e; exact e.symm
        have hl9 : D 1009 l = G 137 (135 + l) := iv23_1.l9 (by rw [cpR_r (by decide)]; omega) (by rw [cpR_r (by decide)]; omega)
        have hD9 := (iv23_2.1.2.2.1.2.1 l (by omega) (by rw [iv23_1.N, cpR_r (by decide)]; omega)).1
        rw [show (1000 : Int) + 9 = 1009 from rfl] at hD9
        refine R_aload_0 hX dX12_drainTime_23 ?_
        refine R_getq (v := 137) hX dX12_drainTime_24 fl_X12_7 o_136 rfl (by omega) ?_
        refine R_sipush hX dX12_drainTime_27 (by decide) ?_
        refine R_iload_1 hX dX12_drainTime_30 ?_
        refine R_iadd hX dX12_drainTime_31 ?_
        refine R_iald hX dX12_drainTime_32 a_137 ⟨by omega, by omega⟩ ?_
        refine R_ifle (tgt := 66) hX dX12_drainTime_33 (by decide) (by constructor <;> first | omega | (simp (disch := omega) only [up_k, up_i, up_s]; omega)) (fun c_33 => ?_) (fun c_33 => ?_)
        · skip
          refine R_aload_0 hX dX12_drainTime_66 ?_
          refine R_getq (v := 137) hX dX12_drainTime_67 fl_X12_7 o_136 rfl (by omega) ?_
          refine R_sipush hX dX12_drainTime_70 (by decide) ?_
          refine R_iload_1 hX dX12_drainTime_73 ?_
          refine R_iadd hX dX12_drainTime_74 ?_
          refine R_iald hX dX12_drainTime_75 a_137 ⟨by omega, by omega⟩ ?_
          refine R_ifle (tgt := 84) hX dX12_drainTime_76 (by decide) (by constructor <;> first | omega | (simp (disch := omega) only [up_k, up_i, up_s]; omega)) (fun c_76 => ?_) (fun c_76 => ?_)
          · skip
            refine R_iload_2 hX dX12_drainTime_84 ?_
            refine R_istore_3 hX c1_i dX12_drainTime_85 ?_
            refine R_aload_0 hX dX12_drainTime_86 ?_
            refine R_iconst hX dX12_drainTime_87 ?_
            refine R_iconst hX dX12_drainTime_88 ?_
            refine R_v2v hX dX12_drainTime_89 li_X12_275 mk_X12_copies mi_X12_copies rfl o_136 (r_copies (by omega) (by omega) (by omega)) ⟨⟨by decide, by decide⟩, by decide, by decide, rfl, Nat.le_of_ble_eq_true rfl, rfl⟩ (fun x_89 F_89 h_89 => ?_)
            subst h_89
            refine R_iload_3 hX dX12_drainTime_92 ?_
            exact R_iret hX dX12_drainTime_93 ⟨H, hH, Or.inr ⟨by omega, by rw [← iv23_3]; first | (rw [drS_hit (show D 1009 l = 0 by omega)]; done) | (rw [show (min 500 (5000 - H 137 0) - x).toNat = 0 by omega]; exact (if_neg (show ¬ D 1009 l = 0 by omega)).symm), cp_back iv23_1.2.2⟩⟩
          · skip
            refine R_bipush hX dX12_drainTime_79 (by decide) ?_
            refine R_goto (tgt := 85) hX dX12_drainTime_81 (by decide) ?_
            refine R_istore_3 hX c1_i dX12_drainTime_85 ?_
            refine R_aload_0 hX dX12_drainTime_86 ?_
            refine R_iconst hX dX12_drainTime_87 ?_
            refine R_iconst hX dX12_drainTime_88 ?_
            refine R_v2v hX dX12_drainTime_89 li_X12_275 mk_X12_copies mi_X12_copies rfl o_136 (r_copies (by omega) (by omega) (by omega)) ⟨⟨by decide, by decide⟩, by decide, by decide, rfl, Nat.le_of_ble_eq_true rfl, rfl⟩ (fun x_89 F_89 h_89 => ?_)
            subst h_89
            refine R_iload_3 hX dX12_drainTime_92 ?_
            exact R_iret hX dX12_drainTime_93 ⟨H, hH, Or.inr ⟨by omega, by rw [← iv23_3]; first | (rw [drS_hit (show D 1009 l = 0 by omega)]; done) | (rw [show (min 500 (5000 - H 137 0) - x).toNat = 0 by omega]; exact (if_neg (show ¬ D 1009 l = 0 by omega)).symm), cp_back iv23_1.2.2⟩⟩
        · skip
          refine R_iload_2 hX dX12_drainTime_36 ?_
          refine R_sipush hX dX12_drainTime_37 (by decide) ?_
          refine R_icmpge (tgt := 66) hX dX12_drainTime_40 (by decide) (by constructor <;> first | omega | (simp (disch := omega) only [up_k, up_i, up_s]; omega)) (by constructor <;> first | omega | (simp (disch := omega) only [up_k, up_i, up_s]; omega)) (fun c_40 => ?_) (fun c_40 => ?_)
          · skip
            refine R_aload_0 hX dX12_drainTime_66 ?_
            refine R_getq (v := 137) hX dX12_drainTime_67 fl_X12_7 o_136 rfl (by omega) ?_
            refine R_sipush hX dX12_drainTime_70 (by decide) ?_
            refine R_iload_1 hX dX12_drainTime_73 ?_
            refine R_iadd hX dX12_drainTime_74 ?_
            refine R_iald hX dX12_drainTime_75 a_137 ⟨by omega, by omega⟩ ?_
            refine R_ifle (tgt := 84) hX dX12_drainTime_76 (by decide) (by constructor <;> first | omega | (simp (disch := omega) only [up_k, up_i, up_s]; omega)) (fun c_76 => ?_) (fun c_76 => ?_)
            · skip
              refine R_iload_2 hX dX12_drainTime_84 ?_
              refine R_istore_3 hX c1_i dX12_drainTime_85 ?_
              refine R_aload_0 hX dX12_drainTime_86 ?_
              refine R_iconst hX dX12_drainTime_87 ?_
              refine R_iconst hX dX12_drainTime_88 ?_
              refine R_v2v hX dX12_drainTime_89 li_X12_275 mk_X12_copies mi_X12_copies rfl o_136 (r_copies (by omega) (by omega) (by omega)) ⟨⟨by decide, by decide⟩, by decide, by decide, rfl, Nat.le_of_ble_eq_true rfl, rfl⟩ (fun x_89 F_89 h_89 => ?_)
              subst h_89
              refine R_iload_3 hX dX12_drainTime_92 ?_
              exact R_iret hX dX12_drainTime_93 ⟨H, hH, Or.inr ⟨by omega, by rw [← iv23_3]; first | (rw [drS_hit (show D 1009 l = 0 by omega)]; done) | (rw [show (min 500 (5000 - H 137 0) - x).toNat = 0 by omega]; exact (if_neg (show ¬ D 1009 l = 0 by omega)).symm), cp_back iv23_1.2.2⟩⟩
            · skip
              refine R_bipush hX dX12_drainTime_79 (by decide) ?_
              refine R_goto (tgt := 85) hX dX12_drainTime_81 (by decide) ?_
              refine R_istore_3 hX c1_i dX12_drainTime_85 ?_
              refine R_aload_0 hX dX12_drainTime_86 ?_
              refine R_iconst hX dX12_drainTime_87 ?_
              refine R_iconst hX dX12_drainTime_88 ?_
              refine R_v2v hX dX12_drainTime_89 li_X12_275 mk_X12_copies mi_X12_copies rfl o_136 (r_copies (by omega) (by omega) (by omega)) ⟨⟨by decide, by decide⟩, by decide, by decide, rfl, Nat.le_of_ble_eq_true rfl, rfl⟩ (fun x_89 F_89 h_89 => ?_)
              subst h_89
              refine R_iload_3 hX dX12_drainTime_92 ?_
              exact R_iret hX dX12_drainTime_93 ⟨H, hH, Or.inr ⟨by omega, by rw [← iv23_3]; first | (rw [drS_hit (show D 1009 l = 0 by omega)]; done) | (rw [show (min 500 (5000 - H 137 0) - x).toNat = 0 by omega]; exact (if_neg (show ¬ D 1009 l = 0 by omega)).symm), cp_back iv23_1.2.2⟩⟩
          · skip
            refine R_aload_0 hX dX12_drainTime_43 ?_
            refine R_getq (v := 137) hX dX12_drainTime_44 fl_X12_7 o_136 rfl (by omega) ?_
            refine R_iconst hX dX12_drainTime_47 ?_
            refine R_iald hX dX12_drainTime_48 a_137 ⟨by omega, by omega⟩ ?_
            refine R_sipush hX dX12_drainTime_49 (by decide) ?_
            refine R_icmpge (tgt := 66) hX dX12_drainTime_52 (by decide) (by constructor <;> first | omega | (simp (disch := omega) only [up_k, up_i, up_s]; omega)) (by constructor <;> first | omega | (simp (disch := omega) only [up_k, up_i, up_s]; omega)) (fun c_52 => ?_) (fun c_52 => ?_)
            · skip
              refine R_aload_0 hX dX12_drainTime_66 ?_
              refine R_getq (v := 137) hX dX12_drainTime_67 fl_X12_7 o_136 rfl (by omega) ?_
              refine R_sipush hX dX12_drainTime_70 (by decide) ?_
              refine R_iload_1 hX dX12_drainTime_73 ?_
              refine R_iadd hX dX12_drainTime_74 ?_
              refine R_iald hX dX12_drainTime_75 a_137 ⟨by omega, by omega⟩ ?_
              refine R_ifle (tgt := 84) hX dX12_drainTime_76 (by decide) (by constructor <;> first | omega | (simp (disch := omega) only [up_k, up_i, up_s]; omega)) (fun c_76 => ?_) (fun c_76 => ?_)
              · skip
                refine R_iload_2 hX dX12_drainTime_84 ?_
                refine R_istore_3 hX c1_i dX12_drainTime_85 ?_
                refine R_aload_0 hX dX12_drainTime_86 ?_
                refine R_iconst hX dX12_drainTime_87 ?_
                refine R_iconst hX dX12_drainTime_88 ?_
                refine R_v2v hX dX12_drainTime_89 li_X12_275 mk_X12_copies mi_X12_copies rfl o_136 (r_copies (by omega) (by omega) (by omega)) ⟨⟨by decide, by decide⟩, by decide, by decide, rfl, Nat.le_of_ble_eq_true rfl, rfl⟩ (fun x_89 F_89 h_89 => ?_)
                subst h_89
                refine R_iload_3 hX dX12_drainTime_92 ?_
                exact R_iret hX dX12_drainTime_93 ⟨H, hH, Or.inr ⟨by omega, by rw [← iv23_3]; first | (rw [drS_hit (show D 1009 l = 0 by omega)]; done) | (rw [show (min 500 (5000 - H 137 0) - x).toNat = 0 by omega]; exact (if_neg (show ¬ D 1009 l = 0 by omega)).symm), cp_back iv23_1.2.2⟩⟩
              · skip
                refine R_bipush hX dX12_drainTime_79 (by decide) ?_
                refine R_goto (tgt := 85) hX dX12_drainTime_81 (by decide) ?_
                refine R_istore_3 hX c1_i dX12_drainTime_85 ?_
                refine R_aload_0 hX dX12_drainTime_86 ?_
                refine R_iconst hX dX12_drainTime_87 ?_
                refine R_iconst hX dX12_drainTime_88 ?_
                refine R_v2v hX dX12_drainTime_89 li_X12_275 mk_X12_copies mi_X12_copies rfl o_136 (r_copies (by omega) (by omega) (by omega)) ⟨⟨by decide, by decide⟩, by decide, by decide, rfl, Nat.le_of_ble_eq_true rfl, rfl⟩ (fun x_89 F_89 h_89 => ?_)
                subst h_89
                refine R_iload_3 hX dX12_drainTime_92 ?_
                exact R_iret hX dX12_drainTime_93 ⟨H, hH, Or.inr ⟨by omega, by rw [← iv23_3]; first | (rw [drS_hit (show D 1009 l = 0 by omega)]; done) | (rw [show (min 500 (5000 - H 137 0) - x).toNat = 0 by omega]; exact (if_neg (show ¬ D 1009 l = 0 by omega)).symm), cp_back iv23_1.2.2⟩⟩
            · skip
              refine R_aload_0 hX dX12_drainTime_55 ?_
              refine R_v0i hX dX12_drainTime_56 li_X12_306 mk_X12_ticks mi_X12_ticks rfl o_136 (r_ticks hG hK (by omega)) ⟨⟨by decide, by decide⟩, by decide, by decide, rfl, Nat.le_of_ble_eq_true rfl, rfl⟩ (fun x_56 F_56 h_56 => ?_)
              have hnx := iv23_1.tk iv23_2.1 (by omega) h_56.2
              refine R_pop hX c1_i dX12_drainTime_59 ?_
              refine R_iinc_2 hX c1_i dX12_drainTime_60 ?_
              refine R_goto (tgt := 23) hX dX12_drainTime_63 (by decide) ?_
              exact ih_23 (x + 1) _ _ (by omega) hnx.2 ⟨(iv23_2.1.tik dj1 (by decide) (by omega)).1, by rw [tikS_t]; omega⟩ (by have e := drS_go (b := 1000) (u := 1100) (l := l) (t := x) (k := (min 500 (5000 - H 137 0) - x).toNat) (F := D) (by omega) (show ¬ D 1009 l = 0 by omega); rw [← iv23_3, e, show (min 500 (5000 - H 137 0) - x).toNat - 1 = (min 500 (5000 - H 137 0) - (x + 1)).toNat by omega]) (by omega)
    exact lp_23 503 0 _ _ (by omega) Tv.rf ⟨hR3, by rw [vw_t, q3 _ (by decide), Int.add_zero]⟩ (by rw [Int.sub_zero, hv3]) (by omega)
  · skip
    refine R_iconst hX dX12_drainTime_13 ?_
    exact R_iret hX dX12_drainTime_14 ⟨H, hH, Or.inl ⟨by omega, rfl, rfl⟩⟩
