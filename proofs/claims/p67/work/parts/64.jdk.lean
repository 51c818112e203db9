theorem digW_r {F : Hp} {v p x q : Int} (h : q ≠ v) : digW F v p x q = F q := by
  unfold digW
  split
  · exact up_r h
  · rw [up_r h, up_r h]
theorem digW_lo {F : Hp} {v p x i : Int} (h : i < p - dgs x) : digW F v p x v i = F v i := by
  unfold dgs at h
  unfold digW
  split at h <;> rename_i c
  · rw [if_pos c, up_i (by omega)]
  · rw [if_neg c, up_i (by omega), up_i (by omega)]
theorem digW_at {F : Hp} {v n x i : Int} (hx : 0 ≤ x) (h : True) (h0 : 0 ≤ i) (h1 : i < (decS x).length) : digW F v (n + dgs x) x v (n + i) = (decS x).getD i.toNat 0 := by
  have h2 := decS_len x
  rw [h2] at h1
  unfold dgs at h1 ⊢
  unfold digW decS
  by_cases c : x < 10
  · rw [if_pos c] at h1
    rw [if_pos c, if_pos c, if_pos c]
    obtain rfl : i = 0 := by omega
    rw [show n + 0 = n + 1 - 1 by omega, up_s]
    simp
    omega
  · rw [if_neg c] at h1
    rw [if_neg c, if_neg c, if_neg c]
    by_cases ci : i = 0
    · subst ci
      rw [show n + 0 = n + 2 - 2 by omega, up_s]
      rfl
    · obtain rfl : i = 1 := by omega
      rw [up_i (by omega), show n + 1 = n + 2 - 1 by omega, up_s]
      rfl
theorem digW_by {F : Hp} {v p x : Int} {cap : Int} (hx : 0 ≤ x ∧ x < 100) (h : Byt F v cap) : Byt (digW F v p x) v cap := by
  intro i h0 h1
  have h2 := h i h0 h1
  unfold digW
  split
  · by_cases c : i = p - 1
    · rw [c, up_s]; omega
    · rw [up_i c]; exact h2
  · by_cases c : i = p - 2
    · rw [c, up_s]; omega
    · rw [up_i c]
      by_cases c2 : i = p - 1
      · rw [c2, up_s]; omega
      · rw [up_i c2]; exact h2
set_option maxRecDepth 100000 in
set_option maxHeartbeats 4000000 in
theorem c_canE {V : VX} {T : Shp} {F : Hp} {x : Int} (hx : 0 ≤ x ∧ x ≤ 255) : Ct V yJ1_canEncode_fc78d cJ1_canEncode_fc78d 1 (some .boolean) 0 0 0 0 (SH T) [vi x] F (SH T) 1 (fun r F' => r = 1 ∧ F' = F) := by
  refine Ct.of [some (vi x)] (by decide) (by simp [lg_sl, vi_cat, vl_cat, vr_cat]) rfl (by simp [asc, lv_args, vi_cat, vl_cat, vr_cat]) (fun X hV hX => ?_)
  subst hV
  refine R_iload_0 hX dJ1_canEncode_fc78d_0 ?_
  refine R_sipush hX dJ1_canEncode_fc78d_1 (by decide) ?_
  refine R_icmpgt (tgt := 11) hX dJ1_canEncode_fc78d_4 (by decide) ⟨by omega, by omega⟩ ⟨by omega, by omega⟩ (fun c_4 => ?_) (fun c_4 => ?_)
  · exact absurd c_4 (by omega)
  · skip
    refine R_iconst hX dJ1_canEncode_fc78d_7 ?_
    refine R_goto (tgt := 12) hX dJ1_canEncode_fc78d_8 (by decide) ?_
    exact R_zret hX (by omega) dJ1_canEncode_fc78d_12 ⟨rfl, rfl⟩
set_option maxRecDepth 100000 in
set_option maxHeartbeats 4000000 in
theorem c_sSize {V : VX} {T : Shp} {F : Hp} {x : Int} (hx : 0 ≤ x ∧ x < 100) : Ct V yJ6_stringSize_0f7a4 cJ6_stringSize_0f7a4 4 (some .int) 0 0 0 0 (SH T) [vi x] F (SH T) 1 (fun r F' => r = dgs x ∧ F' = F) := by
  refine Ct.of [some (vi x), none, none, none] (by decide) (by simp [lg_sl, vi_cat, vl_cat, vr_cat]) rfl (by simp [asc, lv_args, vi_cat, vl_cat, vr_cat]) (fun X hV hX => ?_)
  subst hV
  refine R_iconst hX dJ6_stringSize_0f7a4_0 ?_
  refine R_istore_1 hX c1_i dJ6_stringSize_0f7a4_1 ?_
  refine R_iload_0 hX dJ6_stringSize_0f7a4_2 ?_
  refine R_iflt (tgt := 11) hX dJ6_stringSize_0f7a4_3 (by decide) ⟨by omega, by omega⟩ (fun c_3 => ?_) (fun c_3 => ?_)
  · exact absurd c_3 (by omega)
  · skip
    refine R_iconst hX dJ6_stringSize_0f7a4_6 ?_
    refine R_istore_1 hX c1_i dJ6_stringSize_0f7a4_7 ?_
    refine R_iload_0 hX dJ6_stringSize_0f7a4_8 ?_
    refine R_ineg hX dJ6_stringSize_0f7a4_9 ?_
    refine R_istore_0 hX dJ6_stringSize_0f7a4_10 ?_
    refine R_bipush hX dJ6_stringSize_0f7a4_11 (by decide) ?_
    refine R_istore_2 hX c1_i dJ6_stringSize_0f7a4_13 ?_
    refine R_iconst hX dJ6_stringSize_0f7a4_14 ?_
    refine R_istore_3 hX c1_i dJ6_stringSize_0f7a4_15 ?_
    have lp_16 : ∀ (n : Nat) (p : Int) (i : Int), ((i = 1 ∧ p = -10) ∨ (i = 2 ∧ p = -100 ∧ 10 ≤ x)) → (3 - i).toNat < n → R X (SH T) 0 0 16 [some (vi (-x)), some (vi 0), some (vi p), some (vi i)] [] F (Zq X (SH T) 1 (fun r F' => r = dgs x ∧ F' = F) 0 0) := by
      intro n
      induction n with
      | zero => intro p i iv16_0 hm; exact absurd hm (Nat.not_lt_zero _)
      | succ n ih_16 =>
        intro p i iv16_0 hm_16
        refine R_iload_3 hX dJ6_stringSize_0f7a4_16 ?_
        refine R_bipush hX dJ6_stringSize_0f7a4_17 (by decide) ?_
        refine R_icmpge (tgt := 42) hX dJ6_stringSize_0f7a4_19 (by decide) ⟨by omega, by omega⟩ ⟨by omega, by omega⟩ (fun c_19 => ?_) (fun c_19 => ?_)
        · exact absurd c_19 (by omega)
        · skip
          refine R_iload_0 hX dJ6_stringSize_0f7a4_22 ?_
          refine R_iload_2 hX dJ6_stringSize_0f7a4_23 ?_
          refine R_icmple (tgt := 31) hX dJ6_stringSize_0f7a4_24 (by decide) ⟨by omega, by omega⟩ ⟨by omega, by omega⟩ (fun c_24 => ?_) (fun c_24 => ?_)
          · skip
            refine R_bipush hX dJ6_stringSize_0f7a4_31 (by decide) ?_
            refine R_iload_2 hX dJ6_stringSize_0f7a4_33 ?_
            refine R_imul hX dJ6_stringSize_0f7a4_34 ?_
            refine R_istore_2 hX c1_i dJ6_stringSize_0f7a4_35 ?_
            refine R_iinc_3 hX c1_i dJ6_stringSize_0f7a4_36 ?_
            refine R_goto (tgt := 16) hX dJ6_stringSize_0f7a4_39 (by decide) ?_
            exact ih_16 _ _ (by rcases iv16_0 with ⟨rfl, rfl⟩ | ⟨rfl, rfl, h⟩ <;> first | exact Or.inr ⟨rfl, rfl, by omega⟩ | omega) (by omega)
          · skip
            refine R_iload_3 hX dJ6_stringSize_0f7a4_27 ?_
            refine R_iload_1 hX dJ6_stringSize_0f7a4_28 ?_
            refine R_iadd hX dJ6_stringSize_0f7a4_29 ?_
            exact R_iret hX dJ6_stringSize_0f7a4_30 ⟨by unfold dgs; rcases iv16_0 with ⟨rfl, rfl⟩ | ⟨rfl, rfl, h⟩ <;> split <;> omega, rfl⟩
    exact lp_16 3 _ _ (Or.inl ⟨rfl, rfl⟩) (by omega)
set_option maxRecDepth 100000 in
set_option maxHeartbeats 4000000 in
theorem c_gChars {V : VX} {T : Shp} {F : Hp} {x p v : Int} {cap : Nat} (hx : 0 ≤ x ∧ x < 100) (ha : isA (SH T) v .byte cap) (hp : dgs x ≤ p ∧ p ≤ cap ∧ cap ≤ 4000) : Ct V yJ6_getChars_ba4f3 cJ6_getChars_ba4f3 7 (some .int) 0 0 0 0 (SH T) [vi x, vi p, vr V v] F (SH T) 1 (fun r F' => r = p - dgs x ∧ F' = digW F v p x) := by
  refine Ct.of [some (vi x), some (vi p), some (vr V v), none, none, none, none] (by decide) (by simp [lg_sl, vi_cat, vl_cat, vr_cat]) rfl (by simp [asc, lv_args, vi_cat, vl_cat, vr_cat]) (fun X hV hX => ?_)
  subst hV
  have hd : (x < 10 ∧ dgs x = 1) ∨ (10 ≤ x ∧ dgs x = 2) := by unfold dgs; split <;> omega
  refine R_iload_1 hX dJ6_getChars_ba4f3_0 ?_
  refine R_istore_5 hX c1_n dJ6_getChars_ba4f3_1 ?_
  refine R_iload_0 hX dJ6_getChars_ba4f3_3 ?_
  refine R_ifge (tgt := 11) hX dJ6_getChars_ba4f3_4 (by decide) ⟨by omega, by omega⟩ (fun c_4 => ?_) (fun c_4 => ?_)
  · skip
    refine R_iconst hX dJ6_getChars_ba4f3_11 ?_
    refine R_istore_6 hX c1_i dJ6_getChars_ba4f3_12 ?_
    refine R_iload_6 hX dJ6_getChars_ba4f3_14 ?_
    refine R_ifne (tgt := 22) hX dJ6_getChars_ba4f3_16 (by decide) ⟨by omega, by omega⟩ (fun c_16 => ?_) (fun c_16 => ?_)
    · exact absurd rfl c_16
    · skip
      refine R_iload_0 hX dJ6_getChars_ba4f3_19 ?_
      refine R_ineg hX dJ6_getChars_ba4f3_20 ?_
      refine R_istore_0 hX dJ6_getChars_ba4f3_21 ?_
      refine R_iload_0 hX dJ6_getChars_ba4f3_22 ?_
      refine R_bipush hX dJ6_getChars_ba4f3_23 (by decide) ?_
      refine R_icmpgt (tgt := 72) hX dJ6_getChars_ba4f3_25 (by decide) ⟨by omega, by omega⟩ ⟨by omega, by omega⟩ (fun c_25 => ?_) (fun c_25 => ?_)
      · skip
        refine R_aload_2 hX dJ6_getChars_ba4f3_72 ?_
        refine R_iinc_5 hX c1_n dJ6_getChars_ba4f3_73 ?_
        refine R_iload_5 hX dJ6_getChars_ba4f3_76 ?_
        refine R_getsV hX hX.2.2.2.2.2.2.1.gx.1 gx_J6_83 dJ6_getChars_ba4f3_78 ?_
        refine R_iload_0 hX dJ6_getChars_ba4f3_81 ?_
        refine R_ineg hX dJ6_getChars_ba4f3_82 ?_
        rw [Int.neg_neg]
        refine R_dig1 hX ⟨by omega, by omega⟩ dJ6_getChars_ba4f3_83 ?_
        refine R_bast hX dJ6_getChars_ba4f3_84 ha ⟨by omega, by omega⟩ ?_
        rw [b8_small (by omega)]
        refine R_iload_0 hX dJ6_getChars_ba4f3_85 ?_
        refine R_bipush hX dJ6_getChars_ba4f3_86 (by decide) ?_
        refine R_icmpge (tgt := 104) hX dJ6_getChars_ba4f3_88 (by decide) ⟨by omega, by omega⟩ ⟨by omega, by omega⟩ (fun c_88 => ?_) (fun c_88 => ?_)
        · skip
          (try rw [b8_small (by omega)])
          refine R_iload_6 hX dJ6_getChars_ba4f3_104 ?_
          refine R_ifeq (tgt := 118) hX dJ6_getChars_ba4f3_106 (by decide) ⟨by omega, by omega⟩ (fun c_106 => ?_) (fun c_106 => ?_)
          · skip
            refine R_iload_5 hX dJ6_getChars_ba4f3_118 ?_
            exact R_iret hX dJ6_getChars_ba4f3_120 ⟨by omega, by unfold digW; split <;> first | omega | (rw [show p + -1 + -1 = p - 2 by omega, show p + -1 = p - 1 by omega]) | (rw [show p + -1 = p - 1 by omega])⟩
          · exact absurd rfl c_106
        · skip
          refine R_aload_2 hX dJ6_getChars_ba4f3_91 ?_
          refine R_iinc_5 hX c1_n dJ6_getChars_ba4f3_92 ?_
          refine R_iload_5 hX dJ6_getChars_ba4f3_95 ?_
          refine R_getsV hX hX.2.2.2.2.2.2.1.gx.2.2.1 gx_J6_87 dJ6_getChars_ba4f3_97 ?_
          refine R_iload_0 hX dJ6_getChars_ba4f3_100 ?_
          refine R_ineg hX dJ6_getChars_ba4f3_101 ?_
          rw [Int.neg_neg]
          refine R_dig10 hX ⟨by omega, by omega⟩ dJ6_getChars_ba4f3_102 ?_
          refine R_bast hX dJ6_getChars_ba4f3_103 ha ⟨by omega, by omega⟩ ?_
          (try rw [b8_small (by omega)])
          refine R_iload_6 hX dJ6_getChars_ba4f3_104 ?_
          refine R_ifeq (tgt := 118) hX dJ6_getChars_ba4f3_106 (by decide) ⟨by omega, by omega⟩ (fun c_106 => ?_) (fun c_106 => ?_)
          · skip
            refine R_iload_5 hX dJ6_getChars_ba4f3_118 ?_
            exact R_iret hX dJ6_getChars_ba4f3_120 ⟨by omega, by unfold digW; split <;> first | omega | (rw [show p + -1 + -1 = p - 2 by omega, show p + -1 = p - 1 by omega]) | (rw [show p + -1 = p - 1 by omega])⟩
          · exact absurd rfl c_106
      · exact absurd c_25 (by omega)
  · exact absurd c_4 (by omega)
set_option maxRecDepth 100000 in
set_option maxHeartbeats 4000000 in
theorem e_app5C {V : VX} {T : Shp} {F : Hp} {b B : Int} {l : List Int} (h : Bd T F b l B) {x : Int} (hx : 0 ≤ x ∧ x < 128) (hk : (l.length : Int) + 1 ≤ 1000) : CtE V yJ5_append_3fe6f cJ5_append_3fe6f 2 (some (.object "java/lang/AbstractStringBuilder")) 4 104 1 2048 (SH T) [vr V b, vi x] F 3 (fun r s F' => ∃ g, s = SH (T ++ g) ∧ (r = b ∧ Bd (T ++ g) F' b (l ++ [x]) B ∧ ∀ q : Int, q < B → F' q = F q)) := by
  refine CtE.of [some (vr V b), some (vi x)] (by decide) (by simp [lg_sl, vi_cat, vl_cat, vr_cat, rf_cat]) rfl (by simp [asc, lv_args, vi_cat, vl_cat, vr_cat, rf_cat]) (fun X hV hX => ?_)
  subst hV
  obtain ⟨hb, hc, hn, hB, v, cap, hv, ha, hBv, hlc, hcc, hl, hy⟩ := h
  have hne := oa_ne hb ha
  have hbl := hb.ltT
  have hvl := ha.ltT
  refine R_aload_0 hX dJ5_append_3fe6f_0 ?_
  refine R_aload_0 hX dJ5_append_3fe6f_1 ?_
  refine R_geti hX dJ5_append_3fe6f_2 fl_J5_79 hb rfl ?_
  refine R_iconst hX dJ5_append_3fe6f_5 ?_
  refine R_iadd hX dJ5_append_3fe6f_6 ?_
  refine R_callUE (As := [_]) hX dJ5_append_3fe6f_7 li_J5_100 mk_J5_ensureCapacityInternal_d00df mu_J5_ensureCapacityInternal_d00df (by decide) (by decide +kernel) rfl hb (e_ens hb hc hv ha hy hcc ⟨by omega, by omega⟩) ⟨⟨by decide, by decide⟩, by omega, by omega, rfl, rfl, (by first | decide | exact Nat.zero_le _)⟩ (fun x_7 s_7 F_7 d_7 h_7 hl_7 hd_7 => ?_)
  obtain ⟨g_7, rfl, h_7⟩ := h_7
  obtain ⟨v_7, cap_7, re_7⟩ := h_7
  have rE_7 : Ens T g_7 F F_7 b v cap _ v_7 cap_7 := re_7
  obtain ⟨rv_7, ra_7, rk_7, rc_7, ro_7, rf_7, rj_7, ri_7, ry_7⟩ := re_7
  have rne_7 := oa_ne (hb.up (g := g_7)) ra_7
  have rl_7 := ra_7.lt
  refine R_aload_0 hX dJ5_append_3fe6f_10 ?_
  refine R_callUE (As := []) hX dJ5_append_3fe6f_11 li_J5_83 mk_J5_isLatin1_aae02 mu_J5_isLatin1_aae02 (by decide) (by decide +kernel) rfl (hb.up) (e_isL (hb.up) (by rw [rj_7 1 (by omega)]; exact hc)) ⟨⟨by decide, by decide⟩, by omega, by omega, rfl, rfl, (by first | decide | exact Nat.zero_le _)⟩ (fun x_11 s_11 F_11 d_11 h_11 hl_11 hd_11 => ?_)
  obtain ⟨rfl, h_11⟩ := h_11
  obtain ⟨h1_11, rfl⟩ := h_11
  subst h1_11
  refine R_ifeq (tgt := 45) hX dJ5_append_3fe6f_14 (by decide) ⟨by omega, by omega⟩ (fun c_14 => ?_) (fun c_14 => ?_)
  · exact absurd c_14 (by decide)
  · skip
    refine R_iload_1 hX dJ5_append_3fe6f_17 ?_
    refine R_s1i hX dJ5_append_3fe6f_18 li_J5_191 mk_J1_canEncode_fc78d ms_J1_canEncode_fc78d (c_canE ⟨by omega, by omega⟩) ⟨⟨by decide, by decide⟩, by omega, by omega, rfl, Nat.le_of_ble_eq_true rfl, rfl⟩ (fun x_18 F_18 h_18 => ?_)
    obtain ⟨h_18, e_18⟩ := h_18; replace e_18 := e_18.symm; subst e_18
    subst h_18
    refine R_ifeq (tgt := 45) hX dJ5_append_3fe6f_21 (by decide) ⟨by omega, by omega⟩ (fun c_21 => ?_) (fun c_21 => ?_)
    · exact absurd c_21 (by decide)
    · skip
      refine R_aload_0 hX dJ5_append_3fe6f_24 ?_
      refine R_getaE (t := .byte) (v := v_7) hX (fun _ _ => rfl) dJ5_append_3fe6f_25 fl_J5_15 (hb.up) rfl rv_7 ?_
      refine R_aload_0 hX dJ5_append_3fe6f_28 ?_
      refine R_dup hX c1_r dJ5_append_3fe6f_29 ?_
      refine R_geti hX dJ5_append_3fe6f_30 fl_J5_79 (hb.up) rfl ?_
      refine R_dup_x1 hX (vi_cat _) (vr_cat _ _) dJ5_append_3fe6f_33 ?_
      refine R_iconst hX dJ5_append_3fe6f_34 ?_
      refine R_iadd hX dJ5_append_3fe6f_35 ?_
      refine R_puti hX dJ5_append_3fe6f_36 fl_J5_79 (hb.up) rfl ?_
      refine R_iload_1 hX dJ5_append_3fe6f_39 ?_
      refine R_i2b hX dJ5_append_3fe6f_40 ?_
      refine R_bast hX dJ5_append_3fe6f_41 ra_7 ⟨by rw [rj_7 3 (by omega), hn]; omega, by rw [rj_7 3 (by omega), hn]; omega⟩ ?_
      refine R_goto (tgt := 75) hX dJ5_append_3fe6f_42 (by decide) ?_
      refine R_aload_0 hX dJ5_append_3fe6f_75 ?_
      exact R_aretE hX (Or.inl ⟨_, rfl⟩) dJ5_append_3fe6f_76 ⟨by omega, by omega⟩ ⟨g_7, rfl, rfl, Bd.add hb hB ha hBv hlc hl rE_7 (by rw [← hn]; simp only [List.length_cons, List.length_nil]; omega) (by rw [up_k rne_7, up_i (by omega)]) (by rw [up_k rne_7, up_i (by omega), rj_7 1 (by omega)]; exact hc) (by rw [up_k rne_7, up_s, rj_7 3 (by omega), hn]; rfl) (fun q h0 h1 => by rw [up_r h1, up_r h0]) (fun j h0 h1 => by rw [up_i (by rw [rj_7 3 (by omega), hn]; omega), up_k rne_7.symm]) (fun j h0 h1 => by
      have hj : j = 0 := by simp only [List.length_cons, List.length_nil] at h1; omega
      subst hj
      rw [show (l.length : Int) + 0 = F_11 b 3 by rw [rj_7 3 (by omega), hn]; omega, up_s, b8_small (b8_rng _), b8_small (by omega)]
      rfl) (fun j h0 h1 => by
      by_cases hj : j = F_11 b 3
      · rw [hj, up_s]
        exact b8_rng _
      · rw [up_i hj, up_k rne_7.symm]
        exact ry_7 j h0 h1)⟩
set_option maxRecDepth 100000 in
set_option maxHeartbeats 4000000 in
theorem e_app5I {V : VX} {T : Shp} {F : Hp} {b B : Int} {l : List Int} (h : Bd T F b l B) {x : Int} (hx : 0 ≤ x ∧ x < 100) (hk : (l.length : Int) + 2 ≤ 1000) : CtE V yJ5_append_c97b9 cJ5_append_c97b9 4 (some (.object "java/lang/AbstractStringBuilder")) 4 104 1 2048 (SH T) [vr V b, vi x] F 3 (fun r s F' => ∃ g, s = SH (T ++ g) ∧ (r = b ∧ Bd (T ++ g) F' b (l ++ decS x) B ∧ ∀ q : Int, q < B → F' q = F q)) := by
  refine CtE.of [some (vr V b), some (vi x), none, none] (by decide) (by simp [lg_sl, vi_cat, vl_cat, vr_cat, rf_cat]) rfl (by simp [asc, lv_args, vi_cat, vl_cat, vr_cat, rf_cat]) (fun X hV hX => ?_)
  subst hV
  obtain ⟨hb, hc, hn, hB, v, cap, hv, ha, hBv, hlc, hcc, hl, hy⟩ := h
  have hne := oa_ne hb ha
  have hbl := hb.ltT
  have hvl := ha.ltT
  have hd : (x < 10 ∧ dgs x = 1) ∨ (10 ≤ x ∧ dgs x = 2) := by unfold dgs; split <;> omega
  have hd2 := decS_len x
  refine R_aload_0 hX dJ5_append_c97b9_0 ?_
  refine R_geti hX dJ5_append_c97b9_1 fl_J5_79 hb rfl ?_
  refine R_istore_2 hX c1_i dJ5_append_c97b9_4 ?_
  refine R_iload_2 hX dJ5_append_c97b9_5 ?_
  refine R_iload_1 hX dJ5_append_c97b9_6 ?_
  refine R_s1i hX dJ5_append_c97b9_7 li_J5_245 mk_J6_stringSize_0f7a4 ms_J6_stringSize_0f7a4 (c_sSize hx) ⟨⟨by decide, by decide⟩, by omega, by omega, rfl, Nat.le_of_ble_eq_true rfl, rfl⟩ (fun x_7 F_7 h_7 => ?_)
  obtain ⟨h_7, e_7⟩ := h_7; replace e_7 := e_7.symm; subst e_7
  subst h_7
  refine R_iadd hX dJ5_append_c97b9_10 ?_
  refine R_istore_3 hX c1_i dJ5_append_c97b9_11 ?_
  refine R_aload_0 hX dJ5_append_c97b9_12 ?_
  refine R_iload_3 hX dJ5_append_c97b9_13 ?_
  refine R_callUE (As := [_]) hX dJ5_append_c97b9_14 li_J5_100 mk_J5_ensureCapacityInternal_d00df mu_J5_ensureCapacityInternal_d00df (by decide) (by decide +kernel) rfl hb (e_ens hb hc hv ha hy hcc ⟨by omega, by omega⟩) ⟨⟨by decide, by decide⟩, by omega, by omega, rfl, rfl, (by first | decide | exact Nat.zero_le _)⟩ (fun x_14 s_14 F_14 d_14 h_14 hl_14 hd_14 => ?_)
  obtain ⟨g_14, rfl, h_14⟩ := h_14
  obtain ⟨v_14, cap_14, re_14⟩ := h_14
  have rE_14 : Ens T g_14 F F_14 b v cap _ v_14 cap_14 := re_14
  obtain ⟨rv_14, ra_14, rk_14, rc_14, ro_14, rf_14, rj_14, ri_14, ry_14⟩ := re_14
  have rne_14 := oa_ne (hb.up (g := g_14)) ra_14
  have rl_14 := ra_14.lt
  refine R_aload_0 hX dJ5_append_c97b9_17 ?_
  refine R_callUE (As := []) hX dJ5_append_c97b9_18 li_J5_83 mk_J5_isLatin1_aae02 mu_J5_isLatin1_aae02 (by decide) (by decide +kernel) rfl (hb.up) (e_isL (hb.up) (by rw [rj_14 1 (by omega)]; exact hc)) ⟨⟨by decide, by decide⟩, by omega, by omega, rfl, rfl, (by first | decide | exact Nat.zero_le _)⟩ (fun x_18 s_18 F_18 d_18 h_18 hl_18 hd_18 => ?_)
  obtain ⟨rfl, h_18⟩ := h_18
  obtain ⟨h1_18, rfl⟩ := h_18
  subst h1_18
  refine R_ifeq (tgt := 37) hX dJ5_append_c97b9_21 (by decide) ⟨by omega, by omega⟩ (fun c_21 => ?_) (fun c_21 => ?_)
  · exact absurd c_21 (by decide)
  · skip
    refine R_iload_1 hX dJ5_append_c97b9_24 ?_
    refine R_iload_3 hX dJ5_append_c97b9_25 ?_
    refine R_aload_0 hX dJ5_append_c97b9_26 ?_
    refine R_getaE (t := .byte) (v := v_14) hX (fun _ _ => rfl) dJ5_append_c97b9_27 fl_J5_15 (hb.up) rfl rv_14 ?_
    refine R_s3i hX dJ5_append_c97b9_30 li_J5_248 mk_J6_getChars_ba4f3 ms_J6_getChars_ba4f3 (c_gChars hx ra_14 ⟨by omega, by omega, by omega⟩) ⟨⟨by decide, by decide⟩, by omega, by omega, rfl, Nat.le_of_ble_eq_true rfl, rfl⟩ (fun x_30 F_30 h_30 => ?_)
    obtain ⟨h1_30, rfl⟩ := h_30
    refine R_pop hX c1_i dJ5_append_c97b9_33 ?_
    refine R_goto (tgt := 48) hX dJ5_append_c97b9_34 (by decide) ?_
    refine R_aload_0 hX dJ5_append_c97b9_48 ?_
    refine R_iload_3 hX dJ5_append_c97b9_49 ?_
    refine R_puti hX dJ5_append_c97b9_50 fl_J5_79 (hb.up) rfl ?_
    refine R_aload_0 hX dJ5_append_c97b9_53 ?_
    exact R_aretE hX (Or.inl ⟨_, rfl⟩) dJ5_append_c97b9_54 ⟨by omega, by omega⟩ ⟨g_14, rfl, rfl, Bd.add hb hB ha hBv hlc hl rE_14 (by rw [hd2, ← hn]; omega) (by rw [up_i (by omega), digW_r rne_14]) (by rw [up_i (by omega), digW_r rne_14, rj_14 1 (by omega)]; exact hc) (by rw [up_s, hn, hd2]) (fun q h0 h1 => by rw [up_r h0, digW_r h1]) (fun j h0 h1 => by rw [up_k rne_14.symm, digW_lo (by omega)]) (fun j h0 h1 => by
      rw [up_k rne_14.symm, hn]
      exact digW_at hx.1 trivial h0 h1) (fun j h0 h1 => by
      rw [up_k rne_14.symm]
      exact digW_by hx ry_14 j h0 h1)⟩
