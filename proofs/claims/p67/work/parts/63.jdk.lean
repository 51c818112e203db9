/-- a text being built: its object, its letters, all above B -/
def Bd (T : Shp) (F : Hp) (b : Int) (l : List Int) (B : Int) : Prop :=
  isO (SH T) b 14 [] ∧ F b 1 = 0 ∧ F b 3 = l.length ∧ B ≤ b ∧ ∃ (v : Int) (cap : Nat), F b 0 = v ∧ isA (SH T) v .byte cap ∧ B ≤ v ∧ l.length ≤ cap ∧ cap ≤ 2048 ∧ (∀ i : Int, 0 ≤ i → i < l.length → F v i = l.getD i.toNat 0) ∧ Byt F v cap
/-- room was made -/
def Ens (T g : Shp) (F F' : Hp) (b v : Int) (cap : Nat) (k : Int) (v' : Int) (cap' : Nat) : Prop := F' b 0 = v' ∧ isA (SH (T ++ g)) v' .byte cap' ∧ k ≤ cap' ∧ cap' ≤ 2048 ∧ (v' = v ∨ 136 + (T.length : Int) ≤ v') ∧ (∀ a : Int, a ≠ b → a < 136 + T.length → F' a = F a) ∧ (∀ j : Int, j ≠ 0 → F' b j = F b j) ∧ (∀ i : Int, 0 ≤ i → i < cap → F' v' i = F v i) ∧ Byt F' v' cap'
theorem getD_app1 {l m : List Int} {i : Nat} (h : i < l.length) : (l ++ m).getD i 0 = l.getD i 0 := by
  rw [List.getD_eq_getElem?_getD, List.getElem?_append_left h, ← List.getD_eq_getElem?_getD]
theorem getD_app2 {l m : List Int} {i : Nat} (h : l.length ≤ i) : (l ++ m).getD i 0 = m.getD (i - l.length) 0 := by
  rw [List.getD_eq_getElem?_getD, List.getElem?_append_right h, ← List.getD_eq_getElem?_getD]
theorem Bd.add {T g : Shp} {F F1 F2 : Hp} {b v v' B k : Int} {cap cap' : Nat} {l m : List Int} (hb : isO (SH T) b 14 []) (hB : B ≤ b) (ha : isA (SH T) v .byte cap) (hBv : B ≤ v) (hlc : l.length ≤ cap) (hl : ∀ i : Int, 0 ≤ i → i < l.length → F v i = l.getD i.toNat 0)
    (e : Ens T g F F1 b v cap k v' cap') (hk : (l.length : Int) + m.length ≤ k)
    (w0 : F2 b 0 = F1 b 0) (w1 : F2 b 1 = 0) (w3 : F2 b 3 = l.length + m.length) (w4 : ∀ q : Int, q ≠ b → q ≠ v' → F2 q = F1 q)
    (w5 : ∀ i : Int, 0 ≤ i → i < l.length → F2 v' i = F1 v' i) (w6 : ∀ i : Int, 0 ≤ i → i < m.length → F2 v' (l.length + i) = m.getD i.toNat 0) (w7 : Byt F2 v' cap') :
    Bd (T ++ g) F2 b (l ++ m) B ∧ ∀ q : Int, q < B → F2 q = F q := by
  obtain ⟨e0, e1, e2, e3, e4, e5, e6, e7, e8⟩ := e
  have hbl := hb.ltT
  have hvl := ha.ltT
  have hBv' : B ≤ v' := by omega
  refine ⟨⟨hb.up, w1, by rw [w3, List.length_append]; omega, hB, v', cap', by rw [w0, e0], e1, hBv', by rw [List.length_append]; omega, e3, fun i h0 h1 => ?_, w7⟩, fun q hq => by rw [w4 q (by omega) (by omega)]; exact e5 q (by omega) (by omega)⟩
  rw [List.length_append] at h1
  by_cases hi : i < l.length
  · rw [w5 i h0 hi, e7 i h0 (by omega), hl i h0 hi, getD_app1 (by omega)]
  · have h := w6 (i - l.length) (by omega) (by omega)
    rw [show (l.length : Int) + (i - l.length) = i by omega] at h
    rw [h, getD_app2 (by omega), show (i - (l.length : Int)).toNat = i.toNat - l.length by omega]
/-- a constant text's letters -/
def stl (i : Nat) : List Int := (sbyt.getD i []).map fun x => x.toInt
theorem stl_ok : ∀ i, i < 27 → ((stl i).length : Int) = sln i := by decide +kernel
theorem stl_byt : ∀ i, i < 27 → ∀ j, j < slen.getD i 0 → (stl i).getD j 0 = (stg i j).toInt ∧ -128 ≤ (stg i j).toInt ∧ (stg i j).toInt < 128 := by decide +kernel
set_option maxRecDepth 100000 in
set_option maxHeartbeats 4000000 in
theorem e_app5S {V : VX} {T : Shp} {F : Hp} {b B : Int} {l : List Int} (h : Bd T F b l B) {i : Nat} (hi : i < 27) (hk : (l.length : Int) + sln i ≤ 1000) : CtE V yJ5_append_cf1ce cJ5_append_cf1ce 3 (some (.object "java/lang/AbstractStringBuilder")) 4 105 1 2048 (SH T) [vr V b, .ref ((vG V).2.1 i)] F 3 (fun r s F' => ∃ g, s = SH (T ++ g) ∧ (r = b ∧ Bd (T ++ g) F' b (l ++ stl i) B ∧ ∀ q : Int, q < B → F' q = F q)) := by
  refine CtE.of [some (vr V b), some (.ref ((vG V).2.1 i)), none] (by decide) (by simp [lg_sl, vi_cat, vl_cat, vr_cat, rf_cat]) rfl (by simp [asc, lv_args, vi_cat, vl_cat, vr_cat, rf_cat]) (fun X hV hX => ?_)
  subst hV
  obtain ⟨hb, hc, hn, hB, v, cap, hv, ha, hBv, hlc, hcc, hl, hy⟩ := h
  have hne := oa_ne hb ha
  have hbl := hb.ltT
  have hvl := ha.ltT
  have hs := sln_ok2 i hi
  have hs2 := stl_ok i hi
  refine R_aload_1_raw hX dJ5_append_cf1ce_0 ?_
  refine R_ifnonnullS (tgt := 9) hX dJ5_append_cf1ce_1 (by decide) ?_
  refine R_aload_1_raw hX dJ5_append_cf1ce_9 ?_
  refine R_callVS (As := []) hX dJ5_append_cf1ce_10 li_J5_32 mk_J0_length_8abf5 mi_J0_length_8abf5 rfl hi (c_strLen hi) ⟨⟨by decide, by decide⟩, by omega, by omega, rfl, rfl, Nat.le_of_ble_eq_true rfl⟩ (fun x_10 F_10 h_10 => ?_)
  obtain ⟨h_10, e_10⟩ := h_10; replace e_10 := e_10.symm; subst e_10
  subst h_10
  refine R_istore_2 hX c1_S dJ5_append_cf1ce_13 ?_
  refine R_aload_0 hX dJ5_append_cf1ce_14 ?_
  refine R_aload_0 hX dJ5_append_cf1ce_15 ?_
  refine R_geti hX dJ5_append_cf1ce_16 fl_J5_79 hb rfl ?_
  refine R_iload_2 hX dJ5_append_cf1ce_19 ?_
  refine R_iadd hX dJ5_append_cf1ce_20 ?_
  refine R_callUE (As := [_]) hX dJ5_append_cf1ce_21 li_J5_100 mk_J5_ensureCapacityInternal_d00df mu_J5_ensureCapacityInternal_d00df (by decide) (by decide +kernel) rfl hb (e_ens hb hc hv ha hy hcc ⟨by omega, by omega⟩) ⟨⟨by decide, by decide⟩, by omega, by omega, rfl, rfl, (by first | decide | exact Nat.zero_le _)⟩ (fun x_21 s_21 F_21 d_21 h_21 hl_21 hd_21 => ?_)
  obtain ⟨g_21, rfl, h_21⟩ := h_21
  obtain ⟨v_21, cap_21, re_21⟩ := h_21
  have rE_21 : Ens T g_21 F F_21 b v cap _ v_21 cap_21 := re_21
  obtain ⟨rv_21, ra_21, rk_21, rc_21, ro_21, rf_21, rj_21, ri_21, ry_21⟩ := re_21
  have rne_21 := oa_ne (hb.up (g := g_21)) ra_21
  have rl_21 := ra_21.lt
  refine R_aload_0 hX dJ5_append_cf1ce_24 ?_
  refine R_aload_0 hX dJ5_append_cf1ce_25 ?_
  refine R_geti hX dJ5_append_cf1ce_26 fl_J5_79 (hb.up) rfl ?_
  refine R_aload_1_raw hX dJ5_append_cf1ce_29 ?_
  refine R_callUE (As := [vi _, .ref ((vG (xV X)).2.1 i)]) hX dJ5_append_cf1ce_30 li_J5_208 mk_J5_putStringAt_47b60 mu_J5_putStringAt_47b60 (by decide) (by decide +kernel) rfl (hb.up) (e_putS (hb.up) (by rw [rj_21 1 (by omega)]; exact hc) rv_21 ra_21 hi ⟨by rw [rj_21 3 (by omega), hn]; omega, by rw [rj_21 3 (by omega), hn]; omega, by omega⟩) ⟨⟨by decide, by decide⟩, by omega, by omega, rfl, rfl, (by first | decide | exact Nat.zero_le _)⟩ (fun x_30 s_30 F_30 d_30 h_30 hl_30 hd_30 => ?_)
  obtain ⟨rfl, h_30⟩ := h_30
  subst h_30
  refine R_aload_0 hX dJ5_append_cf1ce_33 ?_
  refine R_dup hX c1_r dJ5_append_cf1ce_34 ?_
  refine R_geti hX dJ5_append_cf1ce_35 fl_J5_79 (hb.up) rfl ?_
  refine R_iload_2 hX dJ5_append_cf1ce_38 ?_
  refine R_iadd hX dJ5_append_cf1ce_39 ?_
  refine R_puti hX dJ5_append_cf1ce_40 fl_J5_79 (hb.up) rfl ?_
  refine R_aload_0 hX dJ5_append_cf1ce_43 ?_
  exact R_aretE hX (Or.inl ⟨_, rfl⟩) dJ5_append_cf1ce_44 ⟨by omega, by omega⟩ ⟨g_21, rfl, rfl, Bd.add hb hB ha hBv hlc hl rE_21 (by rw [hs2, ← hn]; omega) (by rw [up_i (by omega), cpyT_r rne_21]) (by rw [up_i (by omega), cpyT_r rne_21, rj_21 1 (by omega)]; exact hc) (by rw [up_s, cpyT_r rne_21, rj_21 3 (by omega), hn, hs2]) (fun q h0 h1 => by rw [up_r h0, cpyT_r h1]) (fun j h0 h1 => by rw [up_k rne_21.symm, cpyT_out (by rw [rj_21 3 (by omega), hn]; omega)]) (fun j h0 h1 => by
      rw [hs2] at h1
      have hj := (stl_byt i hi j.toNat (by unfold sln at h1; omega)).1
      rw [up_k rne_21.symm, cpyT_in (by rw [rj_21 3 (by omega), hn]; omega), rj_21 3 (by omega), hn, show (l.length : Int) + j - l.length = j by omega, hj]) (fun j h0 h1 => by
      rw [up_k rne_21.symm]
      by_cases hj : F_21 b 3 ≤ j ∧ j < F_21 b 3 + sln i
      · rw [cpyT_in hj]
        exact (stl_byt i hi _ (by unfold sln at hj; omega)).2
      · rw [cpyT_out hj]
        exact ry_21 j h0 h1)⟩
