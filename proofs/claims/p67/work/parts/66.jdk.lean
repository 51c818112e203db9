theorem fl_Jxc12de_7 : FLk RJxc12de 7 15 0 .int false := ⟨by decide, rfl, _, _, _, "java/util/AbstractList", cf_15, by decide, tb (i := 656) (by decide +kernel), rfl, Or.inl rfl⟩
theorem Bd.up {T g : Shp} {F F' : Hp} {b B : Int} {l : List Int} (h : Bd T F b l B) (hF : ∀ q : Int, q < 136 + T.length → F' q = F q) : Bd (T ++ g) F' b l B := by
  obtain ⟨hb, hc, hn, hB, v, cap, hv, ha, hBv, hlc, hcc, hl, hy⟩ := h
  have hbl := hb.ltT
  have hvl := ha.ltT
  refine ⟨hb.up, by rw [hF b hbl.2]; exact hc, by rw [hF b hbl.2]; exact hn, hB, v, cap, by rw [hF b hbl.2]; exact hv, ha.up, hBv, hlc, hcc, fun i h0 h1 => by rw [hF v hvl.2]; exact hl i h0 h1, fun i h0 h1 => by rw [hF v hvl.2]; exact hy i h0 h1⟩
theorem St.up {T g : Shp} {F F' : Hp} {c : Int} {l : List Int} (h : St T F c l) (hF : ∀ q : Int, q < 136 + T.length → F' q = F q) : St (T ++ g) F' c l := by
  obtain ⟨hb, hc, w, hw, ha, hlen, hl⟩ := h
  have hbl := hb.ltT
  have hvl := ha.ltT
  exact ⟨hb.up, by rw [hF c hbl.2]; exact hc, w, by rw [hF c hbl.2]; exact hw, ha.up, hlen, fun i h0 h1 => by rw [hF w hvl.2]; exact hl i h0 h1⟩
/-- letters only -/
def Asc (l : List Int) : Prop := ∀ i : Nat, i < l.length → 0 ≤ l.getD i 0 ∧ l.getD i 0 < 128
set_option maxRecDepth 100000 in
set_option maxHeartbeats 4000000 in
theorem e_iStr4 {V : VX} {T : Shp} {F : Hp} {b c B : Int} {l : List Int} (h : Bd T F b l B) (hlen : (l.length : Int) ≤ 1000) (hc0 : isO (SH T) c 13 []) (hbc : b ≠ c) : CtE V yJ0_init_81219 cJ0_init_81219 2 none 4 130 1 2048 (SH T) [vr V c, vr V b] F 0 (fun r s F' => ∃ g, s = SH (T ++ g) ∧ (St (T ++ g) F' c l ∧ ∀ q : Int, q ≠ c → q < 136 + T.length → F' q = F q)) := by
  refine CtE.ofI [some (vr V c), some (vr V b)] (by decide) (by simp [lg_sl, vi_cat, vl_cat, vr_cat, rf_cat]) rfl (by simp [asc, lv_args, vi_cat, vl_cat, vr_cat, rf_cat]) (fun X hV hX hin => ?_)
  subst hV
  refine R_aload_0 hX dJ0_init_81219_0 ?_
  refine R_aload_1 hX dJ0_init_81219_1 ?_
  refine R_null hX dJ0_init_81219_2 ?_
  refine R_callIE (As := [_, _]) hX dJ0_init_81219_3 li_J0_489 mk_J0_init_db425 mc_J0_init_db425 hc0 (e_iStr5 h hlen hc0 hbc) ⟨⟨by decide, by decide⟩, by omega, by omega, rfl, rfl, (by first | decide | exact Nat.zero_le _)⟩ (fun x_3 s_3 F_3 d_3 h_3 hl_3 hd_3 => ?_)
  obtain ⟨g_3, rfl, h_3⟩ := h_3
  exact R_vretE hX dJ0_init_81219_6 ⟨by omega, by omega⟩ ⟨_, rfl, h_3⟩
set_option maxRecDepth 100000 in
set_option maxHeartbeats 4000000 in
theorem e_toStr {V : VX} {T : Shp} {F : Hp} {b B : Int} {l : List Int} (h : Bd T F b l B) (hlen : (l.length : Int) ≤ 1000) : CtE V yJ4_toString_0e30d cJ4_toString_0e30d 1 (some (.object "java/lang/String")) 5 151 2 2052 (SH T) [vr V b] F 3 (fun r s F' => ∃ g, s = SH (T ++ g) ∧ (St (T ++ g) F' r l ∧ ∀ q : Int, q < 136 + T.length → F' q = F q)) := by
  refine CtE.of [some (vr V b)] (by decide) (by simp [lg_sl, vi_cat, vl_cat, vr_cat, rf_cat]) rfl (by simp [asc, lv_args, vi_cat, vl_cat, vr_cat, rf_cat]) (fun X hV hX => ?_)
  subst hV
  have hbl := h.1.ltT
  refine R_newT hX cf_13 cl_J4_18 is_J0 in_java_lang_String (by decide) ⟨by omega, by omega⟩ dJ4_toString_0e30d_0 (fun n_0 hn_0 => ?_)
  refine R_dup hX c1_r dJ4_toString_0e30d_3 ?_
  refine R_aload_0 hX dJ4_toString_0e30d_4 ?_
  refine R_callIE (As := [_]) hX dJ4_toString_0e30d_5 li_J4_137 mk_J0_init_81219 mc_J0_init_81219 (isO.newT hn_0) (e_iStr4 (h.up (fun q hq => row_r (by omega))) hlen (isO.newT hn_0) (by omega)) ⟨⟨by decide, by decide⟩, by omega, by omega, rfl, rfl, (by simp [vi_cat, vl_cat, vr_cat, rf_cat])⟩ (fun x_5 s_5 F_5 d_5 h_5 hl_5 hd_5 => ?_)
  obtain ⟨g_5, rfl, h_5⟩ := h_5
  obtain ⟨hs_5, hq_5⟩ := h_5
  exact R_aretE hX (Or.inl ⟨_, rfl⟩) dJ4_toString_0e30d_8 ⟨by omega, by omega⟩ ⟨_, by rw [List.append_assoc], (by rw [← List.append_assoc]; exact hs_5), (fun q hq => by rw [hq_5 q (by omega) (by rw [List.length_append]; omega), row_r (by omega)])⟩
set_option maxRecDepth 100000 in
set_option maxHeartbeats 4000000 in
theorem c_isLatD {V : VX} {T : Shp} {F : Hp} {c : Int} {l : List Int} (h : St T F c l)  : Ct V yJ0_isLatin1_aae02 cJ0_isLatin1_aae02 1 (some .boolean) 0 0 0 0 (SH T) [vr V c] F (SH T) 1 (fun r F' => r = 1 ∧ F' = F) := by
  refine Ct.of [some (vr V c)] (by decide) (by simp [lg_sl, vi_cat, vl_cat, vr_cat]) rfl (by simp [asc, lv_args, vi_cat, vl_cat, vr_cat]) (fun X hV hX => ?_)
  subst hV
  obtain ⟨hc0, hcd, w, hw, ha, hlen, hl⟩ := h
  refine R_getsV (v := vi 1) hX hX.2.2.2.2.2.2.1.2.2.2.2.2.2.2.2.2.1 gx_J0_38 dJ0_isLatin1_aae02_0 ?_
  refine R_ifeq (tgt := 17) hX dJ0_isLatin1_aae02_3 (by decide) ⟨by omega, by omega⟩ (fun c_3 => ?_) (fun c_3 => ?_)
  · exact absurd c_3 (by decide)
  · skip
    refine R_aload_0 hX dJ0_isLatin1_aae02_6 ?_
    refine R_getb hX dJ0_isLatin1_aae02_7 fl_J0_15 hc0 rfl ?_
    rw [hcd]
    refine R_ifne (tgt := 17) hX dJ0_isLatin1_aae02_10 (by decide) ⟨by omega, by omega⟩ (fun c_10 => ?_) (fun c_10 => ?_)
    · exact absurd rfl c_10
    · skip
      refine R_iconst hX dJ0_isLatin1_aae02_13 ?_
      refine R_goto (tgt := 18) hX dJ0_isLatin1_aae02_14 (by decide) ?_
      exact R_zret hX (by omega) dJ0_isLatin1_aae02_18 ⟨rfl, rfl⟩
set_option maxRecDepth 100000 in
set_option maxHeartbeats 4000000 in
theorem c_coderD {V : VX} {T : Shp} {F : Hp} {c : Int} {l : List Int} (h : St T F c l)  : Ct V yJ0_coder_7d493 cJ0_coder_7d493 1 (some .byte) 0 0 0 0 (SH T) [vr V c] F (SH T) 1 (fun r F' => r = 0 ∧ F' = F) := by
  refine Ct.of [some (vr V c)] (by decide) (by simp [lg_sl, vi_cat, vl_cat, vr_cat]) rfl (by simp [asc, lv_args, vi_cat, vl_cat, vr_cat]) (fun X hV hX => ?_)
  subst hV
  obtain ⟨hc0, hcd, w, hw, ha, hlen, hl⟩ := h
  refine R_getsV (v := vi 1) hX hX.2.2.2.2.2.2.1.2.2.2.2.2.2.2.2.2.1 gx_J0_38 dJ0_coder_7d493_0 ?_
  refine R_ifeq (tgt := 13) hX dJ0_coder_7d493_3 (by decide) ⟨by omega, by omega⟩ (fun c_3 => ?_) (fun c_3 => ?_)
  · exact absurd c_3 (by decide)
  · skip
    refine R_aload_0 hX dJ0_coder_7d493_6 ?_
    refine R_getb hX dJ0_coder_7d493_7 fl_J0_15 hc0 rfl ?_
    rw [hcd]
    refine R_goto (tgt := 14) hX dJ0_coder_7d493_10 (by decide) ?_
    exact R_nret hX rfl dJ0_coder_7d493_14 ⟨rfl, rfl⟩
set_option maxRecDepth 100000 in
set_option maxHeartbeats 4000000 in
theorem c_lenD {V : VX} {T : Shp} {F : Hp} {c : Int} {l : List Int} (h : St T F c l)  : Ct V yJ0_length_8abf5 cJ0_length_8abf5 1 (some .int) 1 20 0 0 (SH T) [vr V c] F (SH T) 1 (fun r F' => r = l.length ∧ F' = F) := by
  refine Ct.of [some (vr V c)] (by decide) (by simp [lg_sl, vi_cat, vl_cat, vr_cat]) rfl (by simp [asc, lv_args, vi_cat, vl_cat, vr_cat]) (fun X hV hX => ?_)
  subst hV
  have h0 := h
  obtain ⟨hc0, hcd, w, hw, ha, hlen, hl⟩ := h
  refine R_aload_0 hX dJ0_length_8abf5_0 ?_
  refine R_getaE (t := .byte) (v := w) hX (fun _ _ => rfl) dJ0_length_8abf5_1 fl_J0_9 hc0 rfl hw ?_
  refine R_alen hX (Or.inr (Or.inr (Or.inr rfl))) dJ0_length_8abf5_4 ha ?_
  refine R_aload_0 hX dJ0_length_8abf5_5 ?_
  refine R_v0i hX dJ0_length_8abf5_6 li_J0_335 mk_J0_coder_7d493 mi_J0_coder_7d493 rfl hc0 (c_coderD h0) ⟨⟨by decide, by decide⟩, by decide, by decide, rfl, Nat.le_of_ble_eq_true rfl, rfl⟩ (fun x_6 F_6 h_6 => ?_)
  obtain ⟨h_6, e_6⟩ := h_6; replace e_6 := e_6.symm; subst e_6
  subst h_6
  refine R_ishr hX dJ0_length_8abf5_9 ?_
  rw [ishr0 ⟨by omega, by omega⟩]
  exact R_iret hX dJ0_length_8abf5_10 ⟨rfl, rfl⟩
set_option maxRecDepth 100000 in
set_option maxHeartbeats 4000000 in
theorem c_l1D {V : VX} {T : Shp} {F : Hp} {w k : Int} {n : Nat} (ha : isA (SH T) w .byte n) (hk : 0 ≤ k ∧ k < n ∧ n ≤ 1000) (hx : 0 ≤ F w k ∧ F w k < 128) : Ct V yJ1_charAt_3b067 cJ1_charAt_3b067 2 (some .char) 2 43 0 0 (SH T) [vr V w, vi k] F (SH T) 1 (fun r F' => r = F w k ∧ F' = F) := by
  refine Ct.of [some (vr V w), some (vi k)] (by decide) (by simp [lg_sl, vi_cat, vl_cat, vr_cat]) rfl (by simp [asc, lv_args, vi_cat, vl_cat, vr_cat]) (fun X hV hX => ?_)
  subst hV
  refine R_iload_1 hX dJ1_charAt_3b067_0 ?_
  refine R_aload_0 hX dJ1_charAt_3b067_1 ?_
  refine R_alen hX (Or.inr (Or.inr (Or.inr rfl))) dJ1_charAt_3b067_2 ha ?_
  refine R_s2v hX dJ1_charAt_3b067_3 li_J1_9 mk_J0_checkIndex_df160 ms_J0_checkIndex_df160 (c_chkIdx ⟨by omega, by omega, by omega⟩) ⟨⟨by decide, by decide⟩, by decide, by decide, rfl, Nat.le_of_ble_eq_true rfl, rfl⟩ (fun x_3 F_3 h_3 => ?_)
  replace h_3 := h_3.symm; subst h_3
  refine R_aload_0 hX dJ1_charAt_3b067_6 ?_
  refine R_iload_1 hX dJ1_charAt_3b067_7 ?_
  refine R_bald hX dJ1_charAt_3b067_8 ha ⟨by omega, by omega⟩ ?_
  refine R_sipush hX dJ1_charAt_3b067_9 (by decide) ?_
  refine R_iand hX dJ1_charAt_3b067_12 ?_
  rw [iand_255, show F w k % 256 = F w k by omega]
  refine R_i2c hX (by omega) dJ1_charAt_3b067_13 ?_
  exact R_nret hX (by have := nar_c (F w k).toNat (by omega); rw [Int.toNat_of_nonneg hx.1] at this; exact this) dJ1_charAt_3b067_14 ⟨rfl, rfl⟩
set_option maxRecDepth 100000 in
set_option maxHeartbeats 4000000 in
theorem c_charD {V : VX} {T : Shp} {F : Hp} {c : Int} {l : List Int} (h : St T F c l) {k : Int} (hk : 0 ≤ k ∧ k < l.length) (hA : Asc l) : Ct V yJ0_charAt_5068e cJ0_charAt_5068e 2 (some .char) 3 64 0 0 (SH T) [vr V c, vi k] F (SH T) 1 (fun r F' => r = l.getD k.toNat 0 ∧ F' = F) := by
  refine Ct.of [some (vr V c), some (vi k)] (by decide) (by simp [lg_sl, vi_cat, vl_cat, vr_cat]) rfl (by simp [asc, lv_args, vi_cat, vl_cat, vr_cat]) (fun X hV hX => ?_)
  subst hV
  have h0 := h
  have hA2 := hA k.toNat (by omega)
  obtain ⟨hc0, hcd, w, hw, ha, hlen, hl⟩ := h
  rw [← hl k hk.1 hk.2] at hA2
  refine R_aload_0 hX dJ0_charAt_5068e_0 ?_
  refine R_v0i hX dJ0_charAt_5068e_1 li_J0_492 mk_J0_isLatin1_aae02 mi_J0_isLatin1_aae02 rfl hc0 (c_isLatD h0) ⟨⟨by decide, by decide⟩, by decide, by decide, rfl, Nat.le_of_ble_eq_true rfl, rfl⟩ (fun x_1 F_1 h_1 => ?_)
  obtain ⟨h_1, e_1⟩ := h_1; replace e_1 := e_1.symm; subst e_1
  subst h_1
  refine R_ifeq (tgt := 16) hX dJ0_charAt_5068e_4 (by decide) ⟨by omega, by omega⟩ (fun c_4 => ?_) (fun c_4 => ?_)
  · exact absurd c_4 (by decide)
  · skip
    refine R_aload_0 hX dJ0_charAt_5068e_7 ?_
    refine R_getaE (t := .byte) (v := w) hX (fun _ _ => rfl) dJ0_charAt_5068e_8 fl_J0_9 hc0 rfl hw ?_
    refine R_iload_1 hX dJ0_charAt_5068e_11 ?_
    refine R_s2i hX dJ0_charAt_5068e_12 li_J0_495 mk_J1_charAt_3b067 ms_J1_charAt_3b067 (c_l1D ha ⟨by omega, by omega, by omega⟩ hA2) ⟨⟨by decide, by decide⟩, by decide, by decide, rfl, Nat.le_of_ble_eq_true rfl, rfl⟩ (fun x_12 F_12 h_12 => ?_)
    obtain ⟨h_12, e_12⟩ := h_12; replace e_12 := e_12.symm; subst e_12
    subst h_12
    rw [hl k hk.1 hk.2] at hA2 ⊢
    exact R_nret hX (by have := nar_c (l.getD k.toNat 0).toNat (by omega); rw [Int.toNat_of_nonneg hA2.1] at this; exact this) dJ0_charAt_5068e_15 ⟨rfl, rfl⟩
set_option maxRecDepth 100000 in
set_option maxHeartbeats 4000000 in
theorem e_iColl {V : VX} {T : Shp} {F : Hp} {a : Int} (ho : isO (SH T) a 15 [])  : CtE V yJxa1e45_init_da8c8 cJxa1e45_init_da8c8 1 none 1 20 0 0 (SH T) [vr V a] F 0 (fun r s F' => s = SH T ∧ F' = F) := by
  refine CtE.ofI [some (vr V a)] (by decide) (by simp [lg_sl, vi_cat, vl_cat, vr_cat, rf_cat]) rfl (by simp [asc, lv_args, vi_cat, vl_cat, vr_cat, rf_cat]) (fun X hV hX hin => ?_)
  subst hV
  have hal := ho.ltT
  refine R_aload_0 hX dJxa1e45_init_da8c8_0 ?_
  refine R_objInit hX (by omega) dJxa1e45_init_da8c8_1 oi_Jxa1e45_1 oi_i oi_c ⟨by omega, by omega, rfl, Nat.le_of_ble_eq_true rfl⟩ ?_
  exact R_vretE hX dJxa1e45_init_da8c8_4 ⟨by omega, by omega⟩ ⟨rfl, rfl⟩
set_option maxRecDepth 100000 in
set_option maxHeartbeats 4000000 in
theorem e_iAbsL {V : VX} {T : Shp} {F : Hp} {a : Int} (ho : isO (SH T) a 15 [])  : CtE V yJxc12de_init_da8c8 cJxc12de_init_da8c8 1 none 2 40 0 0 (SH T) [vr V a] F 0 (fun r s F' => s = SH T ∧ F' = up F a 0 0) := by
  refine CtE.ofI [some (vr V a)] (by decide) (by simp [lg_sl, vi_cat, vl_cat, vr_cat, rf_cat]) rfl (by simp [asc, lv_args, vi_cat, vl_cat, vr_cat, rf_cat]) (fun X hV hX hin => ?_)
  subst hV
  have hal := ho.ltT
  refine R_aload_0 hX dJxc12de_init_da8c8_0 ?_
  refine R_callIE (As := []) hX dJxc12de_init_da8c8_1 li_Jxc12de_1 mk_Jxa1e45_init_da8c8 mc_Jxa1e45_init_da8c8 ho (e_iColl ho) ⟨⟨by decide, by decide⟩, by omega, by omega, rfl, rfl, (by first | decide | exact Nat.zero_le _)⟩ (fun x_1 s_1 F_1 d_1 h_1 hl_1 hd_1 => ?_)
  obtain ⟨rfl, h_1⟩ := h_1
  subst h_1
  refine R_aload_0 hX dJxc12de_init_da8c8_4 ?_
  refine R_iconst hX dJxc12de_init_da8c8_5 ?_
  refine R_puti hX dJxc12de_init_da8c8_6 fl_Jxc12de_7 ho rfl ?_
  exact R_vretE hX dJxc12de_init_da8c8_9 ⟨by omega, by omega⟩ ⟨rfl, rfl⟩
set_option maxRecDepth 100000 in
set_option maxHeartbeats 4000000 in
theorem e_iList {V : VX} {T : Shp} {F : Hp} {a : Int} (ho : isO (SH T) a 15 [])  : CtE V yJx4a65c_init_da8c8 cJx4a65c_init_da8c8 1 none 3 60 0 0 (SH T) [vr V a] F 0 (fun r s F' => s = SH T ∧ F' = up (up F a 0 0) a 1 (-2)) := by
  refine CtE.ofI [some (vr V a)] (by decide) (by simp [lg_sl, vi_cat, vl_cat, vr_cat, rf_cat]) rfl (by simp [asc, lv_args, vi_cat, vl_cat, vr_cat, rf_cat]) (fun X hV hX hin => ?_)
  subst hV
  have hal := ho.ltT
  refine R_aload_0 hX dJx4a65c_init_da8c8_0 ?_
  refine R_callIE (As := []) hX dJx4a65c_init_da8c8_1 li_Jx4a65c_1 mk_Jxc12de_init_da8c8 mc_Jxc12de_init_da8c8 ho (e_iAbsL ho) ⟨⟨by decide, by decide⟩, by omega, by omega, rfl, rfl, (by first | decide | exact Nat.zero_le _)⟩ (fun x_1 s_1 F_1 d_1 h_1 hl_1 hd_1 => ?_)
  obtain ⟨rfl, h_1⟩ := h_1
  subst h_1
  refine R_aload_0 hX dJx4a65c_init_da8c8_4 ?_
  refine R_getsV hX hX.2.2.2.2.2.2.1.gx.2.2.2.2.1 gx_Jx4a65c_39 dJx4a65c_init_da8c8_5 ?_
  refine R_putQ0 hX dJx4a65c_init_da8c8_8 fl_Jx4a65c_9 ho rfl ?_
  exact R_vretE hX dJx4a65c_init_da8c8_11 ⟨by omega, by omega⟩ ⟨rfl, rfl⟩
set_option maxRecDepth 100000 in
set_option maxHeartbeats 4000000 in
theorem c_size {V : VX} {T : Shp} {F : Hp} {a : Int} (ho : isO (SH T) a 15 [])  : Ct V yJx4a65c_size_8abf5 cJx4a65c_size_8abf5 1 (some .int) 0 0 0 0 (SH T) [vr V a] F (SH T) 1 (fun r F' => r = F a 2 ∧ F' = F) := by
  refine Ct.of [some (vr V a)] (by decide) (by simp [lg_sl, vi_cat, vl_cat, vr_cat]) rfl (by simp [asc, lv_args, vi_cat, vl_cat, vr_cat]) (fun X hV hX => ?_)
  subst hV
  refine R_aload_0 hX dJx4a65c_size_8abf5_0 ?_
  refine R_geti hX dJx4a65c_size_8abf5_1 fl_Jx4a65c_48 ho rfl ?_
  exact R_iret hX dJx4a65c_size_8abf5_4 ⟨rfl, rfl⟩
set_option maxRecDepth 100000 in
set_option maxHeartbeats 4000000 in
theorem c_empty {V : VX} {T : Shp} {F : Hp} {a : Int} (ho : isO (SH T) a 15 []) (h0 : F a 2 = 0) : Ct V yJx4a65c_isEmpty_aae02 cJx4a65c_isEmpty_aae02 1 (some .boolean) 0 0 0 0 (SH T) [vr V a] F (SH T) 1 (fun r F' => r = 1 ∧ F' = F) := by
  refine Ct.of [some (vr V a)] (by decide) (by simp [lg_sl, vi_cat, vl_cat, vr_cat]) rfl (by simp [asc, lv_args, vi_cat, vl_cat, vr_cat]) (fun X hV hX => ?_)
  subst hV
  refine R_aload_0 hX dJx4a65c_isEmpty_aae02_0 ?_
  refine R_geti hX dJx4a65c_isEmpty_aae02_1 fl_Jx4a65c_48 ho rfl ?_
  rw [h0]
  refine R_ifne (tgt := 11) hX dJx4a65c_isEmpty_aae02_4 (by decide) ⟨by omega, by omega⟩ (fun c_4 => ?_) (fun c_4 => ?_)
  · exact absurd rfl c_4
  · skip
    refine R_iconst hX dJx4a65c_isEmpty_aae02_7 ?_
    refine R_goto (tgt := 12) hX dJx4a65c_isEmpty_aae02_8 (by decide) ?_
    exact R_zret hX (by omega) dJx4a65c_isEmpty_aae02_12 ⟨rfl, rfl⟩
set_option maxRecDepth 100000 in
set_option maxHeartbeats 4000000 in
theorem c_elem {V : VX} {T : Shp} {F : Hp} {a w i : Int} {cap : Nat} (ho : isO (SH T) a 15 []) (he : F a 1 = w) (hw : isA (SH T) w (.object "java/lang/Object") cap) (hi : 0 ≤ i ∧ i < cap)  : Ct V yJx4a65c_elementData_915e3 cJx4a65c_elementData_915e3 2 (some (.object "java/lang/Object")) 0 0 0 0 (SH T) [vr V a, vi i] F (SH T) 3 (fun r F' => r = F w i ∧ F' = F) := by
  refine Ct.of [some (vr V a), some (vi i)] (by decide) (by simp [lg_sl, vi_cat, vl_cat, vr_cat]) rfl (by simp [asc, lv_args, vi_cat, vl_cat, vr_cat]) (fun X hV hX => ?_)
  subst hV
  have hwl := hw.ltT
  refine R_aload_0 hX dJx4a65c_elementData_915e3_0 ?_
  refine R_getQv (v := w) hX dJx4a65c_elementData_915e3_1 fl_Jx4a65c_9 ho rfl he (by omega) ?_
  refine R_iload_1 hX dJx4a65c_elementData_915e3_4 ?_
  refine R_aaldE (v := F w i) hX (Or.inl rfl) dJx4a65c_elementData_915e3_5 hw ⟨by omega, by omega⟩ rfl ?_
  exact R_aret hX (Or.inl ⟨_, rfl⟩) dJx4a65c_elementData_915e3_6 ⟨rfl, rfl⟩
set_option maxRecDepth 100000 in
set_option maxHeartbeats 4000000 in
theorem c_oIdx {V : VX} {T : Shp} {F : Hp} {k n : Int} (hk : 0 ≤ k ∧ k < n ∧ n ≤ 100000) : Ct V yJ15_checkIndex_7cf53 cJ15_checkIndex_7cf53 2 (some .int) 1 22 0 0 (SH T) [vi k, vi n] F (SH T) 1 (fun r F' => r = k ∧ F' = F) := by
  refine Ct.of [some (vi k), some (vi n)] (by decide) (by simp [lg_sl, vi_cat, vl_cat, vr_cat]) rfl (by simp [asc, lv_args, vi_cat, vl_cat, vr_cat]) (fun X hV hX => ?_)
  subst hV
  refine R_iload_0 hX dJ15_checkIndex_7cf53_0 ?_
  refine R_iload_1 hX dJ15_checkIndex_7cf53_1 ?_
  refine R_null hX dJ15_checkIndex_7cf53_2 ?_
  refine R_s3i hX dJ15_checkIndex_7cf53_3 li_J15_105 mk_J3_checkIndex_8e157 ms_J3_checkIndex_8e157 (c_preIdx hk (vr_cat _ _)) ⟨⟨by decide, by decide⟩, by decide, by decide, rfl, Nat.le_of_ble_eq_true rfl, rfl⟩ (fun x_3 F_3 h_3 => ?_)
  obtain ⟨h1_3, h2_3⟩ := h_3
  replace h2_3 := h2_3.symm
  subst h2_3
  subst h1_3
  exact R_iret hX dJ15_checkIndex_7cf53_6 ⟨rfl, rfl⟩
set_option maxRecDepth 100000 in
set_option maxHeartbeats 4000000 in
theorem c_get {V : VX} {T : Shp} {F : Hp} {a w i : Int} {cap : Nat} (ho : isO (SH T) a 15 []) (he : F a 1 = w) (hw : isA (SH T) w (.object "java/lang/Object") cap) (hi : 0 ≤ i ∧ i < cap) (hs : i < F a 2 ∧ F a 2 ≤ 100) : Ct V yJx4a65c_get_915e3 cJx4a65c_get_915e3 2 (some (.object "java/lang/Object")) 2 43 0 0 (SH T) [vr V a, vi i] F (SH T) 3 (fun r F' => r = F w i ∧ F' = F) := by
  refine Ct.of [some (vr V a), some (vi i)] (by decide) (by simp [lg_sl, vi_cat, vl_cat, vr_cat]) rfl (by simp [asc, lv_args, vi_cat, vl_cat, vr_cat]) (fun X hV hX => ?_)
  subst hV
  refine R_iload_1 hX dJx4a65c_get_915e3_0 ?_
  refine R_aload_0 hX dJx4a65c_get_915e3_1 ?_
  refine R_geti hX dJx4a65c_get_915e3_2 fl_Jx4a65c_48 ho rfl ?_
  refine R_s2i hX dJx4a65c_get_915e3_5 li_Jx4a65c_118 mk_J15_checkIndex_7cf53 ms_J15_checkIndex_7cf53 (c_oIdx ⟨by omega, by omega, by omega⟩) ⟨⟨by decide, by decide⟩, by decide, by decide, rfl, Nat.le_of_ble_eq_true rfl, rfl⟩ (fun x_5 F_5 h_5 => ?_)
  obtain ⟨h_5, e_5⟩ := h_5; replace e_5 := e_5.symm; subst e_5
  refine R_pop hX c1_i dJx4a65c_get_915e3_8 ?_
  refine R_aload_0 hX dJx4a65c_get_915e3_9 ?_
  refine R_iload_1 hX dJx4a65c_get_915e3_10 ?_
  refine R_v1r hX dJx4a65c_get_915e3_11 li_Jx4a65c_123 mk_Jx4a65c_elementData_915e3 mi_Jx4a65c_elementData_915e3 rfl ho (c_elem ho he hw hi) ⟨⟨by decide, by decide⟩, by decide, by decide, rfl, Nat.le_of_ble_eq_true rfl, rfl⟩ (fun x_11 F_11 h_11 => ?_)
  obtain ⟨h_11, e_11⟩ := h_11; replace e_11 := e_11.symm; subst e_11
  exact R_aret hX (Or.inl ⟨_, rfl⟩) dJx4a65c_get_915e3_14 ⟨h_11, rfl⟩
set_option maxRecDepth 100000 in
set_option maxHeartbeats 4000000 in
theorem e_grow1 {V : VX} {T : Shp} {F : Hp} {a : Int} (ho : isO (SH T) a 15 []) {k : Int} (he : F a 1 = -2) (hk : k = 1) : CtE V yJx4a65c_grow_92f84 cJx4a65c_grow_92f84 4 (some (.array (.object "java/lang/Object"))) 2 44 1 10 (SH T) [vr V a, vi k] F 3 (fun r s F' => ∃ g, s = SH (T ++ g) ∧ (r = 136 + (T.length : Int) ∧ isA (SH (T ++ g)) r (.object "java/lang/Object") 10 ∧ F' a 1 = r ∧ (∀ j : Int, j ≠ 1 → F' a j = F a j) ∧ ∀ q : Int, q ≠ a → q < 136 + T.length → F' q = F q)) := by
  refine CtE.of [some (vr V a), some (vi k), none, none] (by decide) (by simp [lg_sl, vi_cat, vl_cat, vr_cat, rf_cat]) rfl (by simp [asc, lv_args, vi_cat, vl_cat, vr_cat, rf_cat]) (fun X hV hX => ?_)
  subst hV
  have hal := ho.ltT
  subst hk
  refine R_aload_0 hX dJx4a65c_grow_92f84_0 ?_
  refine R_getQ0 hX dJx4a65c_grow_92f84_1 fl_Jx4a65c_9 ho rfl he ?_
  refine R_tlen hX hX.2.2.2.2.2.2.1.gx.2.2.2.2.2.1 dJx4a65c_grow_92f84_4 ?_
  refine R_istore_2 hX c1_i dJx4a65c_grow_92f84_5 ?_
  refine R_iload_2 hX dJx4a65c_grow_92f84_6 ?_
  refine R_ifgt (tgt := 20) hX dJx4a65c_grow_92f84_7 (by decide) ⟨by omega, by omega⟩ (fun c_7 => ?_) (fun c_7 => ?_)
  · exact absurd c_7 (by decide)
  · skip
    refine R_aload_0 hX dJx4a65c_grow_92f84_10 ?_
    refine R_getQ0 hX dJx4a65c_grow_92f84_11 fl_Jx4a65c_9 ho rfl he ?_
    refine R_getsV hX hX.2.2.2.2.2.2.1.gx.2.2.2.2.1 gx_Jx4a65c_39 dJx4a65c_grow_92f84_14 ?_
    refine R_acmpeqT (tgt := 45) hX dJx4a65c_grow_92f84_17 (by decide) ?_
    refine R_aload_0 hX dJx4a65c_grow_92f84_45 ?_
    refine R_bipush hX dJx4a65c_grow_92f84_46 (by decide) ?_
    refine R_iload_1 hX dJx4a65c_grow_92f84_48 ?_
    refine R_mmax hX dJx4a65c_grow_92f84_49 mm_Jx4a65c_79 mm_s_max in_java_lang_Math mm_c_max ⟨by omega, by omega⟩ ⟨by omega, by omega⟩ ⟨by omega, by omega, by omega, by omega⟩ rfl (Nat.le_of_ble_eq_true rfl) ?_
    refine R_anewOT (n := 10) hX (by decide) cl_Jx4a65c_7 (by decide) ⟨by omega, by omega⟩ dJx4a65c_grow_92f84_52 (fun n_52 hn_52 => ?_)
    refine R_dup_x1 hX (vr_cat _ _) (vr_cat _ _) dJx4a65c_grow_92f84_55 ?_
    refine R_putQv hX (by omega) dJx4a65c_grow_92f84_56 fl_Jx4a65c_9 (ho.up) rfl ?_
    exact R_aretE hX (Or.inr ⟨_, rfl⟩) dJx4a65c_grow_92f84_59 ⟨by omega, by omega⟩ ⟨_, rfl, hn_52, isA.newT (by decide) hn_52, up_s, (fun j hj => by rw [up_i hj, row_rb (by omega)]), (fun q h0 h1 => by rw [up_r h0, row_r (by omega)])⟩
set_option maxRecDepth 100000 in
set_option maxHeartbeats 4000000 in
theorem e_grow0 {V : VX} {T : Shp} {F : Hp} {a : Int} (ho : isO (SH T) a 15 []) (he : F a 1 = -2) (h0 : F a 2 = 0) : CtE V yJx4a65c_grow_d5877 cJx4a65c_grow_d5877 1 (some (.array (.object "java/lang/Object"))) 3 67 1 10 (SH T) [vr V a] F 3 (fun r s F' => ∃ g, s = SH (T ++ g) ∧ (r = 136 + (T.length : Int) ∧ isA (SH (T ++ g)) r (.object "java/lang/Object") 10 ∧ F' a 1 = r ∧ (∀ j : Int, j ≠ 1 → F' a j = F a j) ∧ ∀ q : Int, q ≠ a → q < 136 + T.length → F' q = F q)) := by
  refine CtE.of [some (vr V a)] (by decide) (by simp [lg_sl, vi_cat, vl_cat, vr_cat, rf_cat]) rfl (by simp [asc, lv_args, vi_cat, vl_cat, vr_cat, rf_cat]) (fun X hV hX => ?_)
  subst hV
  refine R_aload_0 hX dJx4a65c_grow_d5877_0 ?_
  refine R_aload_0 hX dJx4a65c_grow_d5877_1 ?_
  refine R_geti hX dJx4a65c_grow_d5877_2 fl_Jx4a65c_48 ho rfl ?_
  refine R_iconst hX dJx4a65c_grow_d5877_5 ?_
  refine R_iadd hX dJx4a65c_grow_d5877_6 ?_
  refine R_callVE (As := [_]) hX dJx4a65c_grow_d5877_7 li_Jx4a65c_69 mk_Jx4a65c_grow_92f84 mi_Jx4a65c_grow_92f84 rfl ho (e_grow1 ho he (by omega)) ⟨⟨by decide, by decide⟩, by omega, by omega, rfl, rfl, (by first | decide | exact Nat.zero_le _)⟩ (fun x_7 s_7 F_7 d_7 h_7 hl_7 hd_7 => ?_)
  obtain ⟨g_7, rfl, h_7⟩ := h_7
  exact R_aretE hX (Or.inr ⟨_, rfl⟩) dJx4a65c_grow_d5877_10 ⟨by omega, by omega⟩ ⟨_, rfl, h_7⟩
set_option maxRecDepth 100000 in
set_option maxHeartbeats 4000000 in
theorem e_add30 {V : VX} {T : Shp} {F : Hp} {a : Int} (ho : isO (SH T) a 15 []) {e : Int} (hoe : isO (SH T) e 15 []) (he : F a 1 = -2) (h0 : F a 2 = 0) : CtE V yJx4a65c_add_72be8 cJx4a65c_add_72be8 4 none 4 87 1 10 (SH T) [vr V a, vr V e, .ref (vG V).2.2.2.2.2, vi 0] F 0 (fun r s F' => ∃ g, s = SH (T ++ g) ∧ (F' a 1 = 136 + (T.length : Int) ∧ isA (SH (T ++ g)) (136 + (T.length : Int)) (.object "java/lang/Object") 10 ∧ F' a 2 = 1 ∧ F' (136 + (T.length : Int)) 0 = e ∧ ∀ q : Int, q ≠ a → q < 136 + T.length → F' q = F q)) := by
  refine CtE.of [some (vr V a), some (vr V e), some (.ref (vG V).2.2.2.2.2), some (vi 0)] (by decide) (by simp [lg_sl, vi_cat, vl_cat, vr_cat, rf_cat]) rfl (by simp [asc, lv_args, vi_cat, vl_cat, vr_cat, rf_cat]) (fun X hV hX => ?_)
  subst hV
  have hal := ho.ltT
  have hel := hoe.ltT
  refine R_iload_3 hX dJx4a65c_add_72be8_0 ?_
  refine R_aload_2_raw hX dJx4a65c_add_72be8_1 ?_
  refine R_tlen hX hX.2.2.2.2.2.2.1.gx.2.2.2.2.2.1 dJx4a65c_add_72be8_2 ?_
  refine R_icmpne (tgt := 11) hX dJx4a65c_add_72be8_3 (by decide) ⟨by omega, by omega⟩ ⟨by omega, by omega⟩ (fun c_3 => ?_) (fun c_3 => ?_)
  · exact absurd rfl c_3
  · skip
    refine R_aload_0 hX dJx4a65c_add_72be8_6 ?_
    refine R_callVE (As := []) hX dJx4a65c_add_72be8_7 li_Jx4a65c_129 mk_Jx4a65c_grow_d5877 mi_Jx4a65c_grow_d5877 rfl ho (e_grow0 ho he h0) ⟨⟨by decide, by decide⟩, by omega, by omega, rfl, rfl, (by first | decide | exact Nat.zero_le _)⟩ (fun x_7 s_7 F_7 d_7 h_7 hl_7 hd_7 => ?_)
    obtain ⟨g_7, rfl, h_7⟩ := h_7
    obtain ⟨rx_7, ra_7, r1_7, rj_7, rq_7⟩ := h_7
    subst rx_7
    refine R_astore_2 hX c1_r dJx4a65c_add_72be8_10 ?_
    refine R_aload_2 hX dJx4a65c_add_72be8_11 ?_
    refine R_iload_3 hX dJx4a65c_add_72be8_12 ?_
    refine R_aload_1 hX dJx4a65c_add_72be8_13 ?_
    refine R_aastO hX dJx4a65c_add_72be8_14 ra_7 ⟨by omega, by omega⟩ (hoe.up) rfl ca_list ?_
    refine R_aload_0 hX dJx4a65c_add_72be8_15 ?_
    refine R_iload_3 hX dJx4a65c_add_72be8_16 ?_
    refine R_iconst hX dJx4a65c_add_72be8_17 ?_
    refine R_iadd hX dJx4a65c_add_72be8_18 ?_
    refine R_puti hX dJx4a65c_add_72be8_19 fl_Jx4a65c_48 (ho.up) rfl ?_
    exact R_vretE hX dJx4a65c_add_72be8_22 ⟨by omega, by omega⟩ ⟨_, rfl, by rw [up_i (by omega), up_k (by omega)]; exact r1_7, ra_7, by rw [up_s]; rfl, by rw [up_k (by omega), up_s], (fun q hq h1 => by rw [up_r hq, up_r (by omega)]; exact rq_7 q hq h1)⟩
set_option maxRecDepth 100000 in
set_option maxHeartbeats 4000000 in
theorem e_add3n {V : VX} {T : Shp} {F : Hp} {a : Int} (ho : isO (SH T) a 15 []) {e w n : Int} {cap : Nat} (hoe : isO (SH T) e 15 []) (hw : isA (SH T) w (.object "java/lang/Object") cap) (hn : 0 ≤ n ∧ n < cap ∧ cap ≤ 100)  : CtE V yJx4a65c_add_72be8 cJx4a65c_add_72be8 4 none 4 87 0 0 (SH T) [vr V a, vr V e, vr V w, vi n] F 0 (fun r s F' => s = SH T ∧ (F' a 1 = F a 1 ∧ F' a 2 = n + 1 ∧ F' w n = e ∧ (∀ i : Int, i ≠ n → F' w i = F w i) ∧ ∀ q : Int, q ≠ a → q ≠ w → F' q = F q)) := by
  refine CtE.of [some (vr V a), some (vr V e), some (vr V w), some (vi n)] (by decide) (by simp [lg_sl, vi_cat, vl_cat, vr_cat, rf_cat]) rfl (by simp [asc, lv_args, vi_cat, vl_cat, vr_cat, rf_cat]) (fun X hV hX => ?_)
  subst hV
  have hne := oa_ne ho hw
  refine R_iload_3 hX dJx4a65c_add_72be8_0 ?_
  refine R_aload_2 hX dJx4a65c_add_72be8_1 ?_
  refine R_alenq hX (Or.inl rfl) dJx4a65c_add_72be8_2 hw ?_
  refine R_icmpne (tgt := 11) hX dJx4a65c_add_72be8_3 (by decide) ⟨by omega, by omega⟩ ⟨by omega, by omega⟩ (fun c_3 => ?_) (fun c_3 => ?_)
  · skip
    refine R_aload_2 hX dJx4a65c_add_72be8_11 ?_
    refine R_iload_3 hX dJx4a65c_add_72be8_12 ?_
    refine R_aload_1 hX dJx4a65c_add_72be8_13 ?_
    refine R_aastO hX dJx4a65c_add_72be8_14 hw ⟨by omega, by omega⟩ hoe rfl ca_list ?_
    refine R_aload_0 hX dJx4a65c_add_72be8_15 ?_
    refine R_iload_3 hX dJx4a65c_add_72be8_16 ?_
    refine R_iconst hX dJx4a65c_add_72be8_17 ?_
    refine R_iadd hX dJx4a65c_add_72be8_18 ?_
    refine R_puti hX dJx4a65c_add_72be8_19 fl_Jx4a65c_48 ho rfl ?_
    exact R_vretE hX dJx4a65c_add_72be8_22 ⟨by omega, by omega⟩ ⟨rfl, by rw [up_i (by omega), up_k hne], by rw [up_s], by rw [up_k hne.symm, up_s], (fun i hi => by rw [up_k hne.symm, up_i hi]), (fun q h0 h1 => by rw [up_r h0, up_r h1])⟩
  · exact absurd c_3 (by omega)
set_option maxRecDepth 100000 in
set_option maxHeartbeats 4000000 in
theorem e_addF {V : VX} {T : Shp} {F : Hp} {a : Int} (ho : isO (SH T) a 15 []) {e : Int} (hoe : isO (SH T) e 15 []) (he : F a 1 = -2) (h0 : F a 2 = 0) : CtE V yJx4a65c_add_9ea2d cJx4a65c_add_9ea2d 2 (some .boolean) 5 110 1 10 (SH T) [vr V a, vr V e] F 1 (fun r s F' => ∃ g, s = SH (T ++ g) ∧ (F' a 1 = 136 + (T.length : Int) ∧ isA (SH (T ++ g)) (136 + (T.length : Int)) (.object "java/lang/Object") 10 ∧ F' a 2 = 1 ∧ F' (136 + (T.length : Int)) 0 = e ∧ ∀ q : Int, q ≠ a → q < 136 + T.length → F' q = F q)) := by
  refine CtE.of [some (vr V a), some (vr V e)] (by decide) (by simp [lg_sl, vi_cat, vl_cat, vr_cat, rf_cat]) rfl (by simp [asc, lv_args, vi_cat, vl_cat, vr_cat, rf_cat]) (fun X hV hX => ?_)
  subst hV
  refine R_aload_0 hX dJx4a65c_add_9ea2d_0 ?_
  refine R_dup hX c1_r dJx4a65c_add_9ea2d_1 ?_
  refine R_geti hX dJx4a65c_add_9ea2d_2 fl_Jx4a65c_63 ho rfl ?_
  refine R_iconst hX dJx4a65c_add_9ea2d_5 ?_
  refine R_iadd hX dJx4a65c_add_9ea2d_6 ?_
  refine R_puti hX dJx4a65c_add_9ea2d_7 fl_Jx4a65c_63 ho rfl ?_
  refine R_aload_0 hX dJx4a65c_add_9ea2d_10 ?_
  refine R_aload_1 hX dJx4a65c_add_9ea2d_11 ?_
  refine R_aload_0 hX dJx4a65c_add_9ea2d_12 ?_
  refine R_getQ0 hX dJx4a65c_add_9ea2d_13 fl_Jx4a65c_9 ho rfl (by rw [up_i (by omega)]; exact he) ?_
  refine R_aload_0 hX dJx4a65c_add_9ea2d_16 ?_
  refine R_geti hX dJx4a65c_add_9ea2d_17 fl_Jx4a65c_48 ho rfl ?_
  rw [up_i (by omega), h0]
  refine R_callVE (As := [_, .ref _, _]) hX dJx4a65c_add_9ea2d_20 li_Jx4a65c_131 mk_Jx4a65c_add_72be8 mi_Jx4a65c_add_72be8 rfl ho (e_add30 ho hoe (by rw [up_i (by omega)]; exact he) (by rw [up_i (by omega)]; exact h0)) ⟨⟨by decide, by decide⟩, by omega, by omega, rfl, rfl, (by first | decide | exact Nat.zero_le _)⟩ (fun x_20 s_20 F_20 d_20 h_20 hl_20 hd_20 => ?_)
  obtain ⟨g_20, rfl, h_20⟩ := h_20
  obtain ⟨r1_20, ra_20, r2_20, re_20, rq_20⟩ := h_20
  refine R_iconst hX dJx4a65c_add_9ea2d_23 ?_
  exact R_zretE hX (by omega) dJx4a65c_add_9ea2d_24 ⟨by omega, by omega⟩ ⟨_, rfl, r1_20, ra_20, r2_20, re_20, (fun q hq h1 => by rw [rq_20 q hq h1, up_r hq])⟩
set_option maxRecDepth 100000 in
set_option maxHeartbeats 4000000 in
theorem e_addN {V : VX} {T : Shp} {F : Hp} {a : Int} (ho : isO (SH T) a 15 []) {e w n : Int} {cap : Nat} (hoe : isO (SH T) e 15 []) (hw : isA (SH T) w (.object "java/lang/Object") cap) (hn : 0 ≤ n ∧ n < cap ∧ cap ≤ 100) (he : F a 1 = w) (h0 : F a 2 = n) : CtE V yJx4a65c_add_9ea2d cJx4a65c_add_9ea2d 2 (some .boolean) 5 110 0 0 (SH T) [vr V a, vr V e] F 1 (fun r s F' => s = SH T ∧ (F' a 1 = F a 1 ∧ F' a 2 = n + 1 ∧ F' w n = e ∧ (∀ i : Int, i ≠ n → F' w i = F w i) ∧ ∀ q : Int, q ≠ a → q ≠ w → F' q = F q)) := by
  refine CtE.of [some (vr V a), some (vr V e)] (by decide) (by simp [lg_sl, vi_cat, vl_cat, vr_cat, rf_cat]) rfl (by simp [asc, lv_args, vi_cat, vl_cat, vr_cat, rf_cat]) (fun X hV hX => ?_)
  subst hV
  have hwl := hw.ltT
  have hne := oa_ne ho hw
  refine R_aload_0 hX dJx4a65c_add_9ea2d_0 ?_
  refine R_dup hX c1_r dJx4a65c_add_9ea2d_1 ?_
  refine R_geti hX dJx4a65c_add_9ea2d_2 fl_Jx4a65c_63 ho rfl ?_
  refine R_iconst hX dJx4a65c_add_9ea2d_5 ?_
  refine R_iadd hX dJx4a65c_add_9ea2d_6 ?_
  refine R_puti hX dJx4a65c_add_9ea2d_7 fl_Jx4a65c_63 ho rfl ?_
  refine R_aload_0 hX dJx4a65c_add_9ea2d_10 ?_
  refine R_aload_1 hX dJx4a65c_add_9ea2d_11 ?_
  refine R_aload_0 hX dJx4a65c_add_9ea2d_12 ?_
  refine R_getQv (v := w) hX dJx4a65c_add_9ea2d_13 fl_Jx4a65c_9 ho rfl (by rw [up_i (by omega)]; exact he) (by omega) ?_
  refine R_aload_0 hX dJx4a65c_add_9ea2d_16 ?_
  refine R_geti hX dJx4a65c_add_9ea2d_17 fl_Jx4a65c_48 ho rfl ?_
  rw [up_i (by omega), h0]
  refine R_callVE (As := [_, _, _]) hX dJx4a65c_add_9ea2d_20 li_Jx4a65c_131 mk_Jx4a65c_add_72be8 mi_Jx4a65c_add_72be8 rfl ho (e_add3n ho hoe hw hn) ⟨⟨by decide, by decide⟩, by omega, by omega, rfl, rfl, (by first | decide | exact Nat.zero_le _)⟩ (fun x_20 s_20 F_20 d_20 h_20 hl_20 hd_20 => ?_)
  obtain ⟨rfl, h_20⟩ := h_20
  obtain ⟨r1_20, r2_20, re_20, ri_20, rq_20⟩ := h_20
  refine R_iconst hX dJx4a65c_add_9ea2d_23 ?_
  exact R_zretE hX (by omega) dJx4a65c_add_9ea2d_24 ⟨by omega, by omega⟩ ⟨rfl, by rw [r1_20, up_i (by omega)], r2_20, re_20, (fun i hi => by rw [ri_20 i hi, up_k hne.symm]), (fun q h0 h1 => by rw [rq_20 q h0 h1, up_r h0])⟩
