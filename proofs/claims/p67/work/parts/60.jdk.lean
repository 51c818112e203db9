theorem row_s {F : Hp} {k : Int} {f : Int → Int} : row F k f k = f := by funext b; exact if_pos rfl
theorem row_r {F : Hp} {k a : Int} {f : Int → Int} (h : a ≠ k) : row F k f a = F a := by funext b; exact if_neg h
theorem row_rb {F : Hp} {k a b : Int} {f : Int → Int} (h : a ≠ k) : row F k f a b = F a b := if_neg h
theorem row_sb {F : Hp} {k b : Int} {f : Int → Int} : row F k f k b = f b := if_pos rfl
theorem cpyT_r {F : Hp} {g : Nat → Int32} {b dp n q : Int} (h : q ≠ b) : cpyT F g b dp n q = F q := by funext i; exact if_neg (fun z => h z.1)
theorem cpyT_in {F : Hp} {g : Nat → Int32} {b dp n i : Int} (h : dp ≤ i ∧ i < dp + n) : cpyT F g b dp n b i = (g (i - dp).toNat).toInt := if_pos ⟨rfl, h.1, h.2⟩
theorem cpyT_out {F : Hp} {g : Nat → Int32} {b dp n i : Int} (h : ¬ (dp ≤ i ∧ i < dp + n)) : cpyT F g b dp n b i = F b i := if_neg (fun z => h ⟨z.2.1, z.2.2⟩)
theorem ishl0 {x : Int} (h : I32 x) : ishl x 0 = x := by
  have e : (Int32.ofInt 0 &&& 31 : Int32) = 0 := by decide
  unfold ishl
  rw [e]
  have := i32_to h
  simpa using this
theorem ishr0 {x : Int} (h : I32 x) : ishr x 0 = x := by
  have e : (Int32.ofInt 0 &&& 31 : Int32) = 0 := by decide
  unfold ishr
  rw [e]
  have := i32_to h
  simpa using this
theorem oa_ne {sh : Shp} {a k : Int} {ci n : Nat} {rs : List Int} {ty : FieldType} (h : isO sh a ci rs) (g : isA sh k ty n) : a ≠ k := by
  intro e
  subst e
  have := h.2.symm.trans g.2.1
  cases this
theorem isA.ltT {T : Shp} {k : Int} {ty : FieldType} {n : Nat} (h : isA (SH T) k ty n) : 0 ≤ k ∧ k < 136 + T.length := by have := h.lt; rw [SH_len] at this; omega
theorem isO.ltT {T : Shp} {k : Int} {ci : Nat} {rs : List Int} (h : isO (SH T) k ci rs) : 0 ≤ k ∧ k < 136 + T.length := by have := h.lt; rw [SH_len] at this; omega
/-- a row's bytes -/
def Byt (F : Hp) (v : Int) (n : Int) : Prop := ∀ i : Int, 0 ≤ i → i < n → -128 ≤ F v i ∧ F v i < 128
set_option maxRecDepth 100000 in
set_option maxHeartbeats 4000000 in
theorem e_isL {V : VX} {T : Shp} {F : Hp} {b : Int} (hb : isO (SH T) b 14 []) (hc : F b 1 = 0) : CtE V yJ5_isLatin1_aae02 cJ5_isLatin1_aae02 1 (some .boolean) 0 0 0 0 (SH T) [vr V b] F 1 (fun r s F' => s = SH T ∧ (r = 1 ∧ F' = F)) := by
  refine CtE.of [some (vr V b)] (by decide) (by simp [lg_sl, vi_cat, vl_cat, vr_cat, rf_cat]) rfl (by simp [asc, lv_args, vi_cat, vl_cat, vr_cat, rf_cat]) (fun X hV hX => ?_)
  subst hV
  refine R_getsV (v := vi 1) hX hX.2.2.2.2.2.2.1.2.2.2.2.2.2.2.2.2.1 gx_J5_18 dJ5_isLatin1_aae02_0 ?_
  refine R_ifeq (tgt := 17) hX dJ5_isLatin1_aae02_3 (by decide) ⟨by omega, by omega⟩ (fun c_3 => ?_) (fun c_3 => ?_)
  · exact absurd c_3 (by decide)
  · skip
    refine R_aload_0 hX dJ5_isLatin1_aae02_6 ?_
    refine R_getb hX dJ5_isLatin1_aae02_7 fl_J5_22 hb rfl ?_
    rw [hc]
    refine R_ifne (tgt := 17) hX dJ5_isLatin1_aae02_10 (by decide) ⟨by omega, by omega⟩ (fun c_10 => ?_) (fun c_10 => ?_)
    · exact absurd rfl c_10
    · skip
      refine R_iconst hX dJ5_isLatin1_aae02_13 ?_
      refine R_goto (tgt := 18) hX dJ5_isLatin1_aae02_14 (by decide) ?_
      exact R_zretE hX (by omega) dJ5_isLatin1_aae02_18 ⟨by omega, by omega⟩ ⟨rfl, rfl, rfl⟩
set_option maxRecDepth 100000 in
set_option maxHeartbeats 4000000 in
theorem e_getV {V : VX} {T : Shp} {F : Hp} {b v : Int} {cap : Nat} (hb : isO (SH T) b 14 []) (hc : F b 1 = 0) (hv : F b 0 = v) (ha : isA (SH T) v .byte cap)  : CtE V yJ5_getValue_6d5f1 cJ5_getValue_6d5f1 1 (some (.array .byte)) 0 0 0 0 (SH T) [vr V b] F 3 (fun r s F' => s = SH T ∧ (r = v ∧ F' = F)) := by
  refine CtE.of [some (vr V b)] (by decide) (by simp [lg_sl, vi_cat, vl_cat, vr_cat, rf_cat]) rfl (by simp [asc, lv_args, vi_cat, vl_cat, vr_cat, rf_cat]) (fun X hV hX => ?_)
  subst hV
  refine R_aload_0 hX dJ5_getValue_6d5f1_0 ?_
  refine R_getaE (t := .byte) (v := v) hX (fun _ _ => rfl) dJ5_getValue_6d5f1_1 fl_J5_15 hb rfl hv ?_
  exact R_aretE hX (Or.inr ⟨_, rfl⟩) dJ5_getValue_6d5f1_4 ⟨by omega, by omega⟩ ⟨rfl, rfl, rfl⟩
set_option maxRecDepth 100000 in
set_option maxHeartbeats 4000000 in
theorem e_len5 {V : VX} {T : Shp} {F : Hp} {b : Int} (hb : isO (SH T) b 14 []) : CtE V yJ5_length_8abf5 cJ5_length_8abf5 1 (some .int) 0 0 0 0 (SH T) [vr V b] F 1 (fun r s F' => s = SH T ∧ (r = F b 3 ∧ F' = F)) := by
  refine CtE.of [some (vr V b)] (by decide) (by simp [lg_sl, vi_cat, vl_cat, vr_cat, rf_cat]) rfl (by simp [asc, lv_args, vi_cat, vl_cat, vr_cat, rf_cat]) (fun X hV hX => ?_)
  subst hV
  refine R_aload_0 hX dJ5_length_8abf5_0 ?_
  refine R_geti hX dJ5_length_8abf5_1 fl_J5_79 hb rfl ?_
  exact R_iretE hX dJ5_length_8abf5_4 ⟨by omega, by omega⟩ ⟨rfl, rfl, rfl⟩
set_option maxRecDepth 100000 in
set_option maxHeartbeats 4000000 in
theorem e_len4 {V : VX} {T : Shp} {F : Hp} {b : Int} (hb : isO (SH T) b 14 []) : CtE V yJ4_length_8abf5 cJ4_length_8abf5 1 (some .int) 1 20 0 0 (SH T) [vr V b] F 1 (fun r s F' => s = SH T ∧ (r = F b 3 ∧ F' = F)) := by
  refine CtE.of [some (vr V b)] (by decide) (by simp [lg_sl, vi_cat, vl_cat, vr_cat, rf_cat]) rfl (by simp [asc, lv_args, vi_cat, vl_cat, vr_cat, rf_cat]) (fun X hV hX => ?_)
  subst hV
  refine R_aload_0 hX dJ4_length_8abf5_0 ?_
  refine R_callSUE (As := []) hX dJ4_length_8abf5_1 li_J4_343 mk_J5_length_8abf5 mv_J5_length_8abf5 (by decide +kernel) rfl hb (e_len5 hb) ⟨⟨by decide, by decide⟩, by omega, by omega, rfl, rfl, (by first | decide | exact Nat.zero_le _)⟩ (fun x_1 s_1 F_1 d_1 h_1 hl_1 hd_1 => ?_)
  obtain ⟨rfl, h_1⟩ := h_1
  obtain ⟨rfl, rfl⟩ := h_1
  exact R_iretE hX dJ4_length_8abf5_4 ⟨by omega, by omega⟩ ⟨rfl, rfl, rfl⟩
set_option maxRecDepth 100000 in
set_option maxHeartbeats 4000000 in
theorem c_newLen {V : VX} {T : Shp} {F : Hp} {x y z : Int} (h : 0 ≤ x ∧ x ≤ 5000) (h2 : 0 ≤ y ∧ y ≤ 5000) (h3 : 1 ≤ z ∧ z ≤ 5000) : Ct V yJ8_newLength_cabcc cJ8_newLength_cabcc 4 (some .int) 1 21 0 0 (SH T) [vi x, vi y, vi z] F (SH T) 1 (fun r F' => r = x + max y z ∧ F' = F) := by
  refine Ct.of [some (vi x), some (vi y), some (vi z), none] (by decide) (by simp [lg_sl, vi_cat, vl_cat, vr_cat]) rfl (by simp [asc, lv_args, vi_cat, vl_cat, vr_cat]) (fun X hV hX => ?_)
  subst hV
  refine R_iload_0 hX dJ8_newLength_cabcc_0 ?_
  refine R_iload_1 hX dJ8_newLength_cabcc_1 ?_
  refine R_iload_2 hX dJ8_newLength_cabcc_2 ?_
  refine R_mmax hX dJ8_newLength_cabcc_3 mm_J8_194 mm_s_max in_java_lang_Math mm_c_max ⟨by omega, by omega⟩ ⟨by omega, by omega⟩ ⟨by decide, by decide, by decide, by decide⟩ rfl (Nat.le_of_ble_eq_true rfl) ?_
  refine R_iadd hX dJ8_newLength_cabcc_6 ?_
  refine R_istore_3 hX c1_i dJ8_newLength_cabcc_7 ?_
  refine R_iconst hX dJ8_newLength_cabcc_8 ?_
  refine R_iload_3 hX dJ8_newLength_cabcc_9 ?_
  refine R_icmpge (tgt := 21) hX dJ8_newLength_cabcc_10 (by decide) ⟨by omega, by omega⟩ ⟨by omega, by omega⟩ (fun c_10 => ?_) (fun c_10 => ?_)
  · exact absurd c_10 (by omega)
  · skip
    refine R_iload_3 hX dJ8_newLength_cabcc_13 ?_
    refine R_ldc (n := 2147483639) hX k1_J8_200 rfl dJ8_newLength_cabcc_14 ?_
    refine R_icmpgt (tgt := 21) hX dJ8_newLength_cabcc_16 (by decide) ⟨by omega, by omega⟩ ⟨by omega, by omega⟩ (fun c_16 => ?_) (fun c_16 => ?_)
    · exact absurd c_16 (by omega)
    · skip
      refine R_iload_3 hX dJ8_newLength_cabcc_19 ?_
      exact R_iret hX dJ8_newLength_cabcc_20 ⟨rfl, rfl⟩
set_option maxRecDepth 100000 in
set_option maxHeartbeats 4000000 in
theorem e_newCap {V : VX} {T : Shp} {F : Hp} {b v : Int} {cap : Nat} (hb : isO (SH T) b 14 []) (hc : F b 1 = 0) (hv : F b 0 = v) (ha : isA (SH T) v .byte cap) {k : Int} (hk : cap < k ∧ k ≤ 1000) : CtE V yJ5_newCapacity_0f7a4 cJ5_newCapacity_0f7a4 6 (some .int) 2 44 0 0 (SH T) [vr V b, vi k] F 1 (fun r s F' => s = SH T ∧ ((k ≤ r ∧ r ≤ 2048) ∧ F' = F)) := by
  refine CtE.of [some (vr V b), some (vi k), none, none, none, none] (by decide) (by simp [lg_sl, vi_cat, vl_cat, vr_cat, rf_cat]) rfl (by simp [asc, lv_args, vi_cat, vl_cat, vr_cat, rf_cat]) (fun X hV hX => ?_)
  subst hV
  refine R_aload_0 hX dJ5_newCapacity_0f7a4_0 ?_
  refine R_getaE (t := .byte) (v := v) hX (fun _ _ => rfl) dJ5_newCapacity_0f7a4_1 fl_J5_15 hb rfl hv ?_
  refine R_alen hX (Or.inr (Or.inr (Or.inr rfl))) dJ5_newCapacity_0f7a4_4 ha ?_
  refine R_istore_2 hX c1_i dJ5_newCapacity_0f7a4_5 ?_
  refine R_iload_1 hX dJ5_newCapacity_0f7a4_6 ?_
  refine R_aload_0 hX dJ5_newCapacity_0f7a4_7 ?_
  refine R_getb hX dJ5_newCapacity_0f7a4_8 fl_J5_22 hb rfl ?_
  rw [hc]
  refine R_ishl hX dJ5_newCapacity_0f7a4_11 ?_
  rw [ishl0 ⟨by omega, by omega⟩]
  refine R_istore_3 hX c1_i dJ5_newCapacity_0f7a4_12 ?_
  refine R_iload_3 hX dJ5_newCapacity_0f7a4_13 ?_
  refine R_iload_2 hX dJ5_newCapacity_0f7a4_14 ?_
  refine R_isub hX dJ5_newCapacity_0f7a4_15 ?_
  refine R_istore_4 hX c1_i dJ5_newCapacity_0f7a4_16 ?_
  refine R_iload_2 hX dJ5_newCapacity_0f7a4_18 ?_
  refine R_iload_4 hX dJ5_newCapacity_0f7a4_19 ?_
  refine R_iload_2 hX dJ5_newCapacity_0f7a4_21 ?_
  refine R_iconst hX dJ5_newCapacity_0f7a4_22 ?_
  refine R_aload_0 hX dJ5_newCapacity_0f7a4_23 ?_
  refine R_getb hX dJ5_newCapacity_0f7a4_24 fl_J5_22 hb rfl ?_
  rw [hc]
  refine R_ishl hX dJ5_newCapacity_0f7a4_27 ?_
  rw [show ishl 2 0 = 2 by decide]
  refine R_iadd hX dJ5_newCapacity_0f7a4_28 ?_
  refine R_s3i hX dJ5_newCapacity_0f7a4_29 li_J5_114 mk_J8_newLength_cabcc ms_J8_newLength_cabcc (c_newLen ⟨by omega, by omega⟩ ⟨by omega, by omega⟩ ⟨by omega, by omega⟩) ⟨⟨by decide, by decide⟩, by omega, by omega, rfl, Nat.le_of_ble_eq_true rfl, rfl⟩ (fun x_29 F_29 h_29 => ?_)
  obtain ⟨h_29, e_29⟩ := h_29; replace e_29 := e_29.symm; subst e_29
  subst h_29
  refine R_istore_5 hX c1_i dJ5_newCapacity_0f7a4_32 ?_
  refine R_iload_5 hX dJ5_newCapacity_0f7a4_34 ?_
  refine R_ldc (n := 2147483647) hX k1_J5_39 rfl dJ5_newCapacity_0f7a4_36 ?_
  refine R_icmpne (tgt := 51) hX dJ5_newCapacity_0f7a4_38 (by decide) ⟨by omega, by omega⟩ ⟨by omega, by omega⟩ (fun c_38 => ?_) (fun c_38 => ?_)
  · skip
    refine R_iload_5 hX dJ5_newCapacity_0f7a4_51 ?_
    refine R_aload_0 hX dJ5_newCapacity_0f7a4_53 ?_
    refine R_getb hX dJ5_newCapacity_0f7a4_54 fl_J5_22 hb rfl ?_
    rw [hc]
    refine R_ishr hX dJ5_newCapacity_0f7a4_57 ?_
    rw [ishr0 ⟨by omega, by omega⟩]
    exact R_iretE hX dJ5_newCapacity_0f7a4_58 ⟨by omega, by omega⟩ ⟨rfl, ⟨by omega, by omega⟩, rfl⟩
  · exact absurd c_38 (by omega)
set_option maxRecDepth 100000 in
set_option maxHeartbeats 4000000 in
theorem e_copyOf {V : VX} {T : Shp} {F : Hp} {a n : Int} {cap : Nat} (ha : isA (SH T) a .byte cap) (hn : cap < n ∧ n ≤ 2048) (hy : Byt F a cap) : CtE V yJ7_copyOf_9075b cJ7_copyOf_9075b 3 (some (.array .byte)) 1 60 1 2048 (SH T) [vr V a, vi n] F 3 (fun r s F' => ∃ g, s = SH (T ++ g) ∧ (r = 136 + (T.length : Int) ∧ isA (SH (T ++ g)) r .byte n.toNat ∧ (∀ q : Int, q ≠ r → F' q = F q) ∧ (∀ i : Int, 0 ≤ i → i < cap → F' r i = F a i) ∧ Byt F' r n)) := by
  refine CtE.of [some (vr V a), some (vi n), none] (by decide) (by simp [lg_sl, vi_cat, vl_cat, vr_cat, rf_cat]) rfl (by simp [asc, lv_args, vi_cat, vl_cat, vr_cat, rf_cat]) (fun X hV hX => ?_)
  subst hV
  have hl := ha.ltT
  refine R_iload_1 hX dJ7_copyOf_9075b_0 ?_
  refine R_aload_0 hX dJ7_copyOf_9075b_1 ?_
  refine R_alen hX (Or.inr (Or.inr (Or.inr rfl))) dJ7_copyOf_9075b_2 ha ?_
  refine R_icmpne (tgt := 14) hX dJ7_copyOf_9075b_3 (by decide) ⟨by omega, by omega⟩ ⟨by omega, by omega⟩ (fun c_3 => ?_) (fun c_3 => ?_)
  · skip
    refine R_iload_1 hX dJ7_copyOf_9075b_14 ?_
    refine R_newaT (ty := .byte) hX rfl (Or.inr (Or.inr (Or.inr rfl))) ac_byte ⟨by omega, by omega⟩ (m := n.toNat) rfl ⟨by omega, by omega⟩ dJ7_copyOf_9075b_15 (fun n_15 hn_15 => ?_)
    refine R_astore_2 hX c1_i dJ7_copyOf_9075b_17 ?_
    refine R_aload_0 hX dJ7_copyOf_9075b_18 ?_
    refine R_iconst hX dJ7_copyOf_9075b_19 ?_
    refine R_aload_2 hX dJ7_copyOf_9075b_20 ?_
    refine R_iconst hX dJ7_copyOf_9075b_21 ?_
    refine R_aload_0 hX dJ7_copyOf_9075b_22 ?_
    refine R_alen hX (Or.inr (Or.inr (Or.inr rfl))) dJ7_copyOf_9075b_23 (ha.up) ?_
    refine R_iload_1 hX dJ7_copyOf_9075b_24 ?_
    refine R_mmin hX dJ7_copyOf_9075b_25 mm_J7_304 mm_s_min in_java_lang_Math mm_c_min ⟨by omega, by omega⟩ ⟨by omega, by omega⟩ ⟨by omega, by omega, by omega, by omega⟩ rfl (Nat.le_of_ble_eq_true rfl) ?_
    refine R_acopyB hX dJ7_copyOf_9075b_28 ay_J7_150 ay_n ay_s in_java_lang_System (ha.up) (isA.newT (by omega) hn_15) (by omega) (by omega) (by omega) (by omega) (by rw [Int.toNat_of_nonneg (by omega)]; omega) (by intro i h0 h1; rw [row_rb (by omega)]; exact hy i h0 (by omega)) ⟨by omega, by omega, rfl, (by first | decide | exact Nat.zero_le _)⟩ ?_
    refine R_aload_2 hX dJ7_copyOf_9075b_31 ?_
    exact R_aretE hX (Or.inr ⟨_, rfl⟩) dJ7_copyOf_9075b_32 ⟨by omega, by omega⟩ ⟨_, rfl, hn_15, isA.newT (by omega) hn_15, (fun q hq => by rw [cpy_r hq, row_r hq]), (fun i h0 h1 => by rw [cpy_in (by omega) (by omega), row_rb (by omega)]; congr 1; omega), (fun i h0 h1 => by
      by_cases hi : i < cap
      · rw [cpy_in (by omega) (by omega), row_rb (by omega)]
        exact hy _ (by omega) (by omega)
      · rw [cpy_out (by omega), row_sb]
        omega)⟩
  · exact absurd c_3 (by omega)
