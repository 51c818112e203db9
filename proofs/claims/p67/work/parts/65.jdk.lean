/-- a text's object -/
def St (T : Shp) (F : Hp) (c : Int) (l : List Int) : Prop := isO (SH T) c 13 [] ∧ F c 1 = 0 ∧ ∃ (w : Int), F c 0 = w ∧ isA (SH T) w .byte l.length ∧ (l.length ≤ 1000 ∧ 136 ≤ w) ∧ ∀ i : Int, 0 ≤ i → i < l.length → F w i = l.getD i.toNat 0
set_option maxRecDepth 100000 in
set_option maxHeartbeats 4000000 in
theorem e_init5 {V : VX} {T : Shp} {F : Hp} {b B : Int} (hb : isO (SH T) b 14 []) (hn : F b 3 = 0) (hB : B ≤ b) : CtE V yJ5_init_d00df cJ5_init_d00df 2 none 1 20 1 2048 (SH T) [vr V b, vi 16] F 0 (fun r s F' => ∃ g, s = SH (T ++ g) ∧ (Bd (T ++ g) F' b [] B ∧ ∀ q : Int, q ≠ b → q < 136 + T.length → F' q = F q)) := by
  refine CtE.ofI [some (vr V b), some (vi 16)] (by decide) (by simp [lg_sl, vi_cat, vl_cat, vr_cat, rf_cat]) rfl (by simp [asc, lv_args, vi_cat, vl_cat, vr_cat, rf_cat]) (fun X hV hX hin => ?_)
  subst hV
  have hbl := hb.ltT
  refine R_aload_0 hX dJ5_init_d00df_0 ?_
  refine R_objInit hX (by omega) dJ5_init_d00df_1 oi_J5_3 oi_i oi_c ⟨by omega, by omega, rfl, Nat.le_of_ble_eq_true rfl⟩ ?_
  refine R_getsV (v := vi 1) hX hX.2.2.2.2.2.2.1.2.2.2.2.2.2.2.2.2.1 gx_J5_18 dJ5_init_d00df_4 ?_
  refine R_ifeq (tgt := 25) hX dJ5_init_d00df_7 (by decide) ⟨by omega, by omega⟩ (fun c_7 => ?_) (fun c_7 => ?_)
  · exact absurd c_7 (by decide)
  · skip
    refine R_aload_0 hX dJ5_init_d00df_10 ?_
    refine R_iload_1 hX dJ5_init_d00df_11 ?_
    refine R_newaT (ty := .byte) hX rfl (Or.inr (Or.inr (Or.inr rfl))) ac_byte ⟨by omega, by omega⟩ (m := 16) rfl ⟨by omega, by omega⟩ dJ5_init_d00df_12 (fun n_12 hn_12 => ?_)
    refine R_puta (t := .byte) hX (fun _ _ => rfl) dJ5_init_d00df_14 fl_J5_15 (hb.up) rfl ?_
    refine R_aload_0 hX dJ5_init_d00df_17 ?_
    refine R_iconst hX dJ5_init_d00df_18 ?_
    refine R_putb hX dJ5_init_d00df_19 fl_J5_22 (hb.up) rfl (by omega) ?_
    refine R_goto (tgt := 38) hX dJ5_init_d00df_22 (by decide) ?_
    exact R_vretE hX dJ5_init_d00df_38 ⟨by omega, by omega⟩ ⟨_, rfl, ⟨hb.up, by rw [up_s], by rw [up_i (by omega), up_i (by omega), row_rb (by omega), hn]; rfl, hB, n_12, 16, by rw [up_i (by omega), up_s], isA.newT (by decide) hn_12, by omega, by decide, by decide, (fun i h0 h1 => by simp at h1; omega), (fun i h0 h1 => by rw [up_k (by omega), up_k (by omega), row_sb]; omega)⟩, (fun q h0 h1 => by rw [up_r h0, up_r h0, row_r (by omega)])⟩
set_option maxRecDepth 100000 in
set_option maxHeartbeats 4000000 in
theorem e_init4 {V : VX} {T : Shp} {F : Hp} {b B : Int} (hb : isO (SH T) b 14 []) (hn : F b 3 = 0) (hB : B ≤ b) : CtE V yJ4_init_da8c8 cJ4_init_da8c8 1 none 2 41 1 2048 (SH T) [vr V b] F 0 (fun r s F' => ∃ g, s = SH (T ++ g) ∧ (Bd (T ++ g) F' b [] B ∧ ∀ q : Int, q ≠ b → q < 136 + T.length → F' q = F q)) := by
  refine CtE.ofI [some (vr V b)] (by decide) (by simp [lg_sl, vi_cat, vl_cat, vr_cat, rf_cat]) rfl (by simp [asc, lv_args, vi_cat, vl_cat, vr_cat, rf_cat]) (fun X hV hX hin => ?_)
  subst hV
  have hbl := hb.ltT
  refine R_aload_0 hX dJ4_init_da8c8_0 ?_
  refine R_bipush hX dJ4_init_da8c8_1 (by decide) ?_
  refine R_callIE (As := [_]) hX dJ4_init_da8c8_3 li_J4_1 mk_J5_init_d00df mc_J5_init_d00df hb (e_init5 hb hn hB) ⟨⟨by decide, by decide⟩, by omega, by omega, rfl, rfl, (by first | decide | exact Nat.zero_le _)⟩ (fun x_3 s_3 F_3 d_3 h_3 hl_3 hd_3 => ?_)
  obtain ⟨g_3, rfl, h_3⟩ := h_3
  exact R_vretE hX dJ4_init_da8c8_6 ⟨by omega, by omega⟩ ⟨_, rfl, h_3⟩
set_option maxRecDepth 100000 in
set_option maxHeartbeats 4000000 in
theorem e_appS {V : VX} {T : Shp} {F : Hp} {b B : Int} {l : List Int} (h : Bd T F b l B) {i : Nat} (hi : i < 27) (hk : (l.length : Int) + sln i ≤ 1000) : CtE V yJ4_append_15ec4 cJ4_append_15ec4 2 (some (.object "java/lang/StringBuilder")) 5 127 1 2048 (SH T) [vr V b, .ref ((vG V).2.1 i)] F 3 (fun r s F' => ∃ g, s = SH (T ++ g) ∧ (r = b ∧ Bd (T ++ g) F' b (l ++ stl i) B ∧ ∀ q : Int, q < B → F' q = F q)) := by
  refine CtE.of [some (vr V b), some (.ref ((vG V).2.1 i))] (by decide) (by simp [lg_sl, vi_cat, vl_cat, vr_cat, rf_cat]) rfl (by simp [asc, lv_args, vi_cat, vl_cat, vr_cat, rf_cat]) (fun X hV hX => ?_)
  subst hV
  refine R_aload_0 hX dJ4_append_15ec4_0 ?_
  refine R_aload_1_raw hX dJ4_append_15ec4_1 ?_
  refine R_callSUE (As := [.ref ((vG (xV X)).2.1 i)]) hX dJ4_append_15ec4_2 li_J4_29 mk_J5_append_cf1ce mv_J5_append_cf1ce (by decide +kernel) rfl h.1 (e_app5S h hi hk) ⟨⟨by decide, by decide⟩, by omega, by omega, rfl, rfl, (by first | decide | exact Nat.zero_le _)⟩ (fun x_2 s_2 F_2 d_2 h_2 hl_2 hd_2 => ?_)
  obtain ⟨g_2, rfl, h_2⟩ := h_2
  obtain ⟨hx_2, hb_2, hq_2⟩ := h_2
  refine R_pop hX c1_r dJ4_append_15ec4_5 ?_
  refine R_aload_0 hX dJ4_append_15ec4_6 ?_
  exact R_aretE hX (Or.inl ⟨_, rfl⟩) dJ4_append_15ec4_7 ⟨by omega, by omega⟩ ⟨_, rfl, rfl, hb_2, hq_2⟩
set_option maxRecDepth 100000 in
set_option maxHeartbeats 4000000 in
theorem e_appC {V : VX} {T : Shp} {F : Hp} {b B : Int} {l : List Int} (h : Bd T F b l B) {x : Int} (hx : 0 ≤ x ∧ x < 128) (hk : (l.length : Int) + 1 ≤ 1000) : CtE V yJ4_append_cf468 cJ4_append_cf468 2 (some (.object "java/lang/StringBuilder")) 5 125 1 2048 (SH T) [vr V b, vi x] F 3 (fun r s F' => ∃ g, s = SH (T ++ g) ∧ (r = b ∧ Bd (T ++ g) F' b (l ++ [x]) B ∧ ∀ q : Int, q < B → F' q = F q)) := by
  refine CtE.of [some (vr V b), some (vi x)] (by decide) (by simp [lg_sl, vi_cat, vl_cat, vr_cat, rf_cat]) rfl (by simp [asc, lv_args, vi_cat, vl_cat, vr_cat, rf_cat]) (fun X hV hX => ?_)
  subst hV
  refine R_aload_0 hX dJ4_append_cf468_0 ?_
  refine R_iload_1 hX dJ4_append_cf468_1 ?_
  refine R_callSUE (As := [vi x]) hX dJ4_append_cf468_2 li_J4_50 mk_J5_append_3fe6f mv_J5_append_3fe6f (by decide +kernel) rfl h.1 (e_app5C h hx hk) ⟨⟨by decide, by decide⟩, by omega, by omega, rfl, rfl, (by first | decide | exact Nat.zero_le _)⟩ (fun x_2 s_2 F_2 d_2 h_2 hl_2 hd_2 => ?_)
  obtain ⟨g_2, rfl, h_2⟩ := h_2
  obtain ⟨hx_2, hb_2, hq_2⟩ := h_2
  refine R_pop hX c1_r dJ4_append_cf468_5 ?_
  refine R_aload_0 hX dJ4_append_cf468_6 ?_
  exact R_aretE hX (Or.inl ⟨_, rfl⟩) dJ4_append_cf468_7 ⟨by omega, by omega⟩ ⟨_, rfl, rfl, hb_2, hq_2⟩
set_option maxRecDepth 100000 in
set_option maxHeartbeats 4000000 in
theorem e_appI {V : VX} {T : Shp} {F : Hp} {b B : Int} {l : List Int} (h : Bd T F b l B) {x : Int} (hx : 0 ≤ x ∧ x < 100) (hk : (l.length : Int) + 2 ≤ 1000) : CtE V yJ4_append_bf812 cJ4_append_bf812 2 (some (.object "java/lang/StringBuilder")) 5 127 1 2048 (SH T) [vr V b, vi x] F 3 (fun r s F' => ∃ g, s = SH (T ++ g) ∧ (r = b ∧ Bd (T ++ g) F' b (l ++ decS x) B ∧ ∀ q : Int, q < B → F' q = F q)) := by
  refine CtE.of [some (vr V b), some (vi x)] (by decide) (by simp [lg_sl, vi_cat, vl_cat, vr_cat, rf_cat]) rfl (by simp [asc, lv_args, vi_cat, vl_cat, vr_cat, rf_cat]) (fun X hV hX => ?_)
  subst hV
  refine R_aload_0 hX dJ4_append_bf812_0 ?_
  refine R_iload_1 hX dJ4_append_bf812_1 ?_
  refine R_callSUE (As := [vi x]) hX dJ4_append_bf812_2 li_J4_53 mk_J5_append_c97b9 mv_J5_append_c97b9 (by decide +kernel) rfl h.1 (e_app5I h hx hk) ⟨⟨by decide, by decide⟩, by omega, by omega, rfl, rfl, (by first | decide | exact Nat.zero_le _)⟩ (fun x_2 s_2 F_2 d_2 h_2 hl_2 hd_2 => ?_)
  obtain ⟨g_2, rfl, h_2⟩ := h_2
  obtain ⟨hx_2, hb_2, hq_2⟩ := h_2
  refine R_pop hX c1_r dJ4_append_bf812_5 ?_
  refine R_aload_0 hX dJ4_append_bf812_6 ?_
  exact R_aretE hX (Or.inl ⟨_, rfl⟩) dJ4_append_bf812_7 ⟨by omega, by omega⟩ ⟨_, rfl, rfl, hb_2, hq_2⟩
set_option maxRecDepth 100000 in
set_option maxHeartbeats 4000000 in
theorem c_chkLen {V : VX} {T : Shp} {F : Hp} {x y : Int} (h : x ≤ y) (hx : I32 x) (hy : I32 y) : Ct V yJ7_checkLength_df160 cJ7_checkLength_df160 2 none 0 0 0 0 (SH T) [vi x, vi y] F (SH T) 0 (fun r F' => F' = F) := by
  refine Ct.of [some (vi x), some (vi y)] (by decide) (by simp [lg_sl, vi_cat, vl_cat, vr_cat]) rfl (by simp [asc, lv_args, vi_cat, vl_cat, vr_cat]) (fun X hV hX => ?_)
  subst hV
  refine R_iload_1 hX dJ7_checkLength_df160_0 ?_
  refine R_iload_0 hX dJ7_checkLength_df160_1 ?_
  refine R_icmpge (tgt := 37) hX dJ7_checkLength_df160_2 (by decide) ⟨by omega, by omega⟩ ⟨by omega, by omega⟩ (fun c_2 => ?_) (fun c_2 => ?_)
  · skip
    exact R_vret hX dJ7_checkLength_df160_37 rfl
  · exact absurd h c_2
set_option maxRecDepth 100000 in
set_option maxHeartbeats 4000000 in
theorem e_cRangeB {V : VX} {T : Shp} {F : Hp} {a n : Int} {cap : Nat} (ha : isA (SH T) a .byte cap) (hn : 0 ≤ n ∧ n < cap ∧ cap ≤ 2048) (hy : Byt F a cap) : CtE V yJ7_copyOfRangeByte_39247 cJ7_copyOfRangeByte_39247 5 (some (.array .byte)) 1 60 1 2048 (SH T) [vr V a, vi 0, vi n] F 3 (fun r s F' => ∃ g, s = SH (T ++ g) ∧ (r = 136 + (T.length : Int) ∧ isA (SH (T ++ g)) r .byte n.toNat ∧ (∀ q : Int, q ≠ r → F' q = F q) ∧ ∀ i : Int, 0 ≤ i → i < n → F' r i = F a i)) := by
  refine CtE.of [some (vr V a), some (vi 0), some (vi n), none, none] (by decide) (by simp [lg_sl, vi_cat, vl_cat, vr_cat, rf_cat]) rfl (by simp [asc, lv_args, vi_cat, vl_cat, vr_cat, rf_cat]) (fun X hV hX => ?_)
  subst hV
  have hl := ha.ltT
  refine R_iload_1 hX dJ7_copyOfRangeByte_39247_0 ?_
  refine R_iload_2 hX dJ7_copyOfRangeByte_39247_1 ?_
  refine R_s2v hX dJ7_copyOfRangeByte_39247_2 li_J7_343 mk_J7_checkLength_df160 ms_J7_checkLength_df160 (c_chkLen (by omega) ⟨by omega, by omega⟩ ⟨by omega, by omega⟩) ⟨⟨by decide, by decide⟩, by omega, by omega, rfl, Nat.le_of_ble_eq_true rfl, rfl⟩ (fun x_2 F_2 h_2 => ?_)
  subst h_2
  refine R_iload_2 hX dJ7_copyOfRangeByte_39247_5 ?_
  refine R_iload_1 hX dJ7_copyOfRangeByte_39247_6 ?_
  refine R_isub hX dJ7_copyOfRangeByte_39247_7 ?_
  refine R_istore_3 hX c1_i dJ7_copyOfRangeByte_39247_8 ?_
  rw [show n - 0 = n by omega]
  refine R_iload_3 hX dJ7_copyOfRangeByte_39247_9 ?_
  refine R_newaT (ty := .byte) hX rfl (Or.inr (Or.inr (Or.inr rfl))) ac_byte ⟨by omega, by omega⟩ (m := n.toNat) rfl ⟨by omega, by omega⟩ dJ7_copyOfRangeByte_39247_10 (fun n_10 hn_10 => ?_)
  refine R_astore_4 hX c1_i dJ7_copyOfRangeByte_39247_12 ?_
  refine R_aload_0 hX dJ7_copyOfRangeByte_39247_14 ?_
  refine R_iload_1 hX dJ7_copyOfRangeByte_39247_15 ?_
  refine R_aload_4 hX dJ7_copyOfRangeByte_39247_16 ?_
  refine R_iconst hX dJ7_copyOfRangeByte_39247_18 ?_
  refine R_aload_0 hX dJ7_copyOfRangeByte_39247_19 ?_
  refine R_alen hX (Or.inr (Or.inr (Or.inr rfl))) dJ7_copyOfRangeByte_39247_20 (ha.up) ?_
  refine R_iload_1 hX dJ7_copyOfRangeByte_39247_21 ?_
  refine R_isub hX dJ7_copyOfRangeByte_39247_22 ?_
  refine R_iload_3 hX dJ7_copyOfRangeByte_39247_23 ?_
  refine R_mmin hX dJ7_copyOfRangeByte_39247_24 mm_J7_304 mm_s_min in_java_lang_Math mm_c_min ⟨by omega, by omega⟩ ⟨by omega, by omega⟩ ⟨by omega, by omega, by omega, by omega⟩ rfl (Nat.le_of_ble_eq_true rfl) ?_
  refine R_acopyB hX dJ7_copyOfRangeByte_39247_27 ay_J7_150 ay_n ay_s in_java_lang_System (ha.up) (isA.newT (by omega) hn_10) (by omega) (by omega) (by omega) (by omega) (by rw [Int.toNat_of_nonneg (by omega)]; omega) (by intro i h0 h1; rw [row_rb (by omega)]; exact hy i h0 (by omega)) ⟨by omega, by omega, rfl, (by first | decide | exact Nat.zero_le _)⟩ ?_
  refine R_aload_4 hX dJ7_copyOfRangeByte_39247_30 ?_
  exact R_aretE hX (Or.inr ⟨_, rfl⟩) dJ7_copyOfRangeByte_39247_32 ⟨by omega, by omega⟩ ⟨_, rfl, hn_10, isA.newT (by omega) hn_10, (fun q hq => by rw [cpy_r hq, row_r hq]), (fun i h0 h1 => by rw [cpy_in (by omega) (by omega), row_rb (by omega)]; congr 1; omega)⟩
set_option maxRecDepth 100000 in
set_option maxHeartbeats 4000000 in
theorem e_cRange {V : VX} {T : Shp} {F : Hp} {a n : Int} {cap : Nat} (ha : isA (SH T) a .byte cap) (hn : 0 ≤ n ∧ n ≤ cap ∧ cap ≤ 2048) (hy : Byt F a cap) : CtE V yJ7_copyOfRange_39247 cJ7_copyOfRange_39247 3 (some (.array .byte)) 2 84 1 2048 (SH T) [vr V a, vi 0, vi n] F 3 (fun r s F' => ∃ g, s = SH (T ++ g) ∧ (r = 136 + (T.length : Int) ∧ isA (SH (T ++ g)) r .byte n.toNat ∧ (∀ q : Int, q ≠ r → F' q = F q) ∧ ∀ i : Int, 0 ≤ i → i < n → F' r i = F a i)) := by
  refine CtE.of [some (vr V a), some (vi 0), some (vi n)] (by decide) (by simp [lg_sl, vi_cat, vl_cat, vr_cat, rf_cat]) rfl (by simp [asc, lv_args, vi_cat, vl_cat, vr_cat, rf_cat]) (fun X hV hX => ?_)
  subst hV
  have hl := ha.ltT
  refine R_iload_1 hX dJ7_copyOfRange_39247_0 ?_
  refine R_ifne (tgt := 10) hX dJ7_copyOfRange_39247_1 (by decide) ⟨by omega, by omega⟩ (fun c_1 => ?_) (fun c_1 => ?_)
  · exact absurd rfl c_1
  · skip
    refine R_iload_2 hX dJ7_copyOfRange_39247_4 ?_
    refine R_aload_0 hX dJ7_copyOfRange_39247_5 ?_
    refine R_alen hX (Or.inr (Or.inr (Or.inr rfl))) dJ7_copyOfRange_39247_6 ha ?_
    refine R_icmpeq (tgt := 17) hX dJ7_copyOfRange_39247_7 (by decide) ⟨by omega, by omega⟩ ⟨by omega, by omega⟩ (fun c_7 => ?_) (fun c_7 => ?_)
    · skip
      refine R_aload_0 hX dJ7_copyOfRange_39247_17 ?_
      refine R_cloneB (n := cap) hX dJ7_copyOfRange_39247_18 oc_J7_310 ha hy ⟨by omega, by omega, by omega, by omega, rfl, (by first | decide | exact Nat.zero_le _)⟩ (fun n_18 hn_18 => ?_)
      refine R_castA (ty := .byte) hX (Or.inr rfl) dJ7_copyOfRange_39247_21 cl_J7_311 (isA.newT ha.2.2 hn_18) ?_
      exact R_aretE hX (Or.inr ⟨_, rfl⟩) dJ7_copyOfRange_39247_24 ⟨by omega, by omega⟩ ⟨_, rfl, hn_18, (by rw [show n.toNat = cap by omega]; exact isA.newT ha.2.2 hn_18), (fun q hq => row_r hq), (fun i h0 h1 => row_sb)⟩
    · skip
      refine R_aload_0 hX dJ7_copyOfRange_39247_10 ?_
      refine R_iload_1 hX dJ7_copyOfRange_39247_11 ?_
      refine R_iload_2 hX dJ7_copyOfRange_39247_12 ?_
      refine R_callSE (As := [_, _, _]) hX dJ7_copyOfRange_39247_13 li_J7_339 mk_J7_copyOfRangeByte_39247 ms_J7_copyOfRangeByte_39247 (e_cRangeB ha ⟨by omega, by omega, by omega⟩ hy) ⟨⟨by decide, by decide⟩, by omega, by omega, rfl, rfl, (by first | decide | exact Nat.zero_le _)⟩ (fun x_13 s_13 F_13 d_13 h_13 hl_13 hd_13 => ?_)
      obtain ⟨g_13, rfl, h_13⟩ := h_13
      exact R_aretE hX (Or.inr ⟨_, rfl⟩) dJ7_copyOfRange_39247_16 ⟨by omega, by omega⟩ ⟨_, rfl, h_13⟩
set_option maxRecDepth 100000 in
set_option maxHeartbeats 4000000 in
theorem e_iStr5 {V : VX} {T : Shp} {F : Hp} {b c B : Int} {l : List Int} (h : Bd T F b l B) (hlen : (l.length : Int) ≤ 1000) (hc0 : isO (SH T) c 13 []) (hbc : b ≠ c) : CtE V yJ0_init_db425 cJ0_init_db425 5 none 3 106 1 2048 (SH T) [vr V c, vr V b, vr V (-1)] F 0 (fun r s F' => ∃ g, s = SH (T ++ g) ∧ (St (T ++ g) F' c l ∧ ∀ q : Int, q ≠ c → q < 136 + T.length → F' q = F q)) := by
  refine CtE.ofI [some (vr V c), some (vr V b), some (vr V (-1)), none, none] (by decide) (by simp [lg_sl, vi_cat, vl_cat, vr_cat, rf_cat]) rfl (by simp [asc, lv_args, vi_cat, vl_cat, vr_cat, rf_cat]) (fun X hV hX hin => ?_)
  subst hV
  obtain ⟨hb, hc, hn, hB, v, cap, hv, ha, hBv, hlc, hcc, hl, hy⟩ := h
  have hne := oa_ne hb ha
  have hbl := hb.ltT
  have hvl := ha.ltT
  have hcl := hc0.ltT
  have hne2 := oa_ne hc0 ha
  refine R_aload_0 hX dJ0_init_db425_0 ?_
  refine R_objInit hX (by omega) dJ0_init_db425_1 oi_J0_1 oi_i oi_c ⟨by omega, by omega, rfl, Nat.le_of_ble_eq_true rfl⟩ ?_
  refine R_aload_1 hX dJ0_init_db425_4 ?_
  refine R_callUE (As := []) hX dJ0_init_db425_5 li_J0_552 mk_J5_getValue_6d5f1 mu_J5_getValue_6d5f1 (by decide) (by decide +kernel) rfl hb (e_getV hb hc hv ha) ⟨⟨by decide, by decide⟩, by omega, by omega, rfl, rfl, (by first | decide | exact Nat.zero_le _)⟩ (fun x_5 s_5 F_5 d_5 h_5 hl_5 hd_5 => ?_)
  obtain ⟨rfl, h_5⟩ := h_5
  obtain ⟨h1_5, rfl⟩ := h_5
  subst h1_5
  refine R_astore_3 hX c1_r dJ0_init_db425_8 ?_
  refine R_aload_1 hX dJ0_init_db425_9 ?_
  refine R_callUE (As := []) hX dJ0_init_db425_10 li_J0_549 mk_J4_length_8abf5 mu_J5_length_8abf5 (by decide) (by decide +kernel) rfl hb (e_len4 hb) ⟨⟨by decide, by decide⟩, by omega, by omega, rfl, rfl, (by first | decide | exact Nat.zero_le _)⟩ (fun x_10 s_10 F_10 d_10 h_10 hl_10 hd_10 => ?_)
  obtain ⟨rfl, h_10⟩ := h_10
  obtain ⟨h1_10, rfl⟩ := h_10
  subst h1_10
  rw [hn]
  refine R_istore_4 hX c1_r dJ0_init_db425_13 ?_
  refine R_aload_1 hX dJ0_init_db425_15 ?_
  refine R_callUE (As := []) hX dJ0_init_db425_16 li_J0_1047 mk_J5_isLatin1_aae02 mu_J5_isLatin1_aae02 (by decide) (by decide +kernel) rfl hb (e_isL hb hc) ⟨⟨by decide, by decide⟩, by omega, by omega, rfl, rfl, (by first | decide | exact Nat.zero_le _)⟩ (fun x_16 s_16 F_16 d_16 h_16 hl_16 hd_16 => ?_)
  obtain ⟨rfl, h_16⟩ := h_16
  obtain ⟨h1_16, rfl⟩ := h_16
  subst h1_16
  refine R_ifeq (tgt := 41) hX dJ0_init_db425_19 (by decide) ⟨by omega, by omega⟩ (fun c_19 => ?_) (fun c_19 => ?_)
  · exact absurd c_19 (by decide)
  · skip
    refine R_aload_0 hX dJ0_init_db425_22 ?_
    refine R_iconst hX dJ0_init_db425_23 ?_
    refine R_putFb hX hin dJ0_init_db425_24 fl_J0_15 rfl hc0 rfl (by omega) ?_
    refine R_aload_0 hX dJ0_init_db425_27 ?_
    refine R_aload_3 hX dJ0_init_db425_28 ?_
    refine R_iconst hX dJ0_init_db425_29 ?_
    refine R_iload_4 hX dJ0_init_db425_30 ?_
    refine R_callSE (As := [_, _, _]) hX dJ0_init_db425_32 li_J0_54 mk_J7_copyOfRange_39247 ms_J7_copyOfRange_39247 (e_cRange ha ⟨by omega, by omega, by omega⟩ (fun i h0 h1 => by rw [up_k hne2.symm]; exact hy i h0 h1)) ⟨⟨by decide, by decide⟩, by omega, by omega, rfl, rfl, (by simp [vi_cat, vl_cat, vr_cat, rf_cat])⟩ (fun x_32 s_32 F_32 d_32 h_32 hl_32 hd_32 => ?_)
    obtain ⟨g_32, rfl, h_32⟩ := h_32
    obtain ⟨rx_32, ra_32, rf_32, ri_32⟩ := h_32
    refine R_putFa (t := .byte) hX (fun _ _ => rfl) hin dJ0_init_db425_35 fl_J0_9 rfl (hc0.up) rfl ?_
    refine R_goto (tgt := 97) hX dJ0_init_db425_38 (by decide) ?_
    exact R_vretE hX dJ0_init_db425_97 ⟨by omega, by omega⟩ ⟨_, rfl, ⟨hc0.up, by rw [up_i (by omega), rf_32 c (by omega), up_s], x_32, up_s, (by rw [show ((l.length : Int)).toNat = l.length by omega] at ra_32; exact ra_32), ⟨by omega, by omega⟩, (fun i h0 h1 => by rw [up_k (by omega), ri_32 i h0 h1, up_k hne2.symm]; exact hl i h0 h1)⟩, (fun q h0 h1 => by rw [up_r h0, rf_32 q (by omega), up_r h0])⟩
