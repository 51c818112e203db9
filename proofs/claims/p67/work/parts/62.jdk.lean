theorem sfit : ∀ i, i < 27 → ∀ j, j < slen.getD i 0 → fits .byte (.int ((sbyt.getD i []).getD j 0)) = true := by decide +kernel
def stg (i : Nat) (j : Nat) : Int32 := (sbyt.getD i []).getD j 0
theorem bool_nar : narrow .boolean (vi 1) = vi 1 := rfl
/-- digits of a number below 100 -/
def decS (x : Int) : List Int := if x < 10 then [48 + x] else [48 + x / 10, 48 + x % 10]
def dgs (x : Int) : Int := if x < 10 then 1 else 2
theorem decS_len (x : Int) : ((decS x).length : Int) = dgs x := by unfold decS dgs; split <;> rfl
/-- what getChars writes -/
def digW (F : Hp) (v p x : Int) : Hp := if x < 10 then up F v (p - 1) (48 + x % 10) else up (up F v (p - 1) (48 + x % 10)) v (p - 2) (48 + x / 10)
set_option maxRecDepth 100000 in
set_option maxHeartbeats 4000000 in
theorem c_getB {V : VX} {T : Shp} {F : Hp} {i : Nat} {v p : Int} {cap : Nat} (hi : i < 27) (ha : isA (SH T) v .byte cap) (hp : 0 ≤ p ∧ p + sln i ≤ cap ∧ cap ≤ 100000) : Ct V yJ0_getBytes_840e7 cJ0_getBytes_840e7 4 none 1 60 0 0 (SH T) [.ref ((vG V).2.1 i), vr V v, vi p, vi 0] F (SH T) 0 (fun r F' => r = 0 ∧ F' = cpyT F (stg i) v p (sln i)) := by
  refine Ct.of [some (.ref ((vG V).2.1 i)), some (vr V v), some (vi p), some (vi 0)] (by decide) (by simp [lg_sl, vi_cat, vl_cat, vr_cat, rf_cat]) rfl (by simp [asc, lv_args, vi_cat, vl_cat, vr_cat, rf_cat]) (fun X hV hX => ?_)
  subst hV
  have hS := hX.2.2.2.2.2.2.1.2.2.2.2.2.2.2.2.1.1 i hi
  have hs1 := sln_ok2 i hi
  refine R_aload_0_raw hX dJ0_getBytes_840e7_0 ?_
  refine R_callVS (As := []) hX dJ0_getBytes_840e7_1 li_J0_335 mk_J0_coder_7d493 mi_J0_coder_7d493 rfl hi (c_coder hi) ⟨⟨by decide, by decide⟩, by decide, by decide, rfl, rfl, Nat.le_of_ble_eq_true rfl⟩ (fun x_1 F_1 h_1 => ?_)
  obtain ⟨h_1, e_1⟩ := h_1; replace e_1 := e_1.symm; subst e_1
  subst h_1
  refine R_iload_3 hX dJ0_getBytes_840e7_4 ?_
  refine R_icmpne (tgt := 28) hX dJ0_getBytes_840e7_5 (by decide) ⟨by omega, by omega⟩ ⟨by omega, by omega⟩ (fun c_5 => ?_) (fun c_5 => ?_)
  · exact absurd rfl c_5
  · skip
    refine R_aload_0_raw hX dJ0_getBytes_840e7_8 ?_
    refine R_gStr hX hS.2.2.1 fl_val dJ0_getBytes_840e7_9 ?_
    refine R_iconst hX dJ0_getBytes_840e7_12 ?_
    refine R_aload_1 hX dJ0_getBytes_840e7_13 ?_
    refine R_iload_2 hX dJ0_getBytes_840e7_14 ?_
    refine R_iload_3 hX dJ0_getBytes_840e7_15 ?_
    refine R_ishl hX dJ0_getBytes_840e7_16 ?_
    rw [ishl0 ⟨by omega, by omega⟩]
    refine R_aload_0_raw hX dJ0_getBytes_840e7_17 ?_
    refine R_gStr hX hS.2.2.1 fl_val dJ0_getBytes_840e7_18 ?_
    refine R_tlen hX hS.2.2.2 dJ0_getBytes_840e7_21 ?_
    refine R_copyT hX dJ0_getBytes_840e7_22 ay_J0_212 ay_n ay_s in_java_lang_System hS.2.2.2 hs1.2.2 ha (by omega) (by omega) (Int.le_refl _) (by have := hp.2.1; unfold sln at this; omega) (sfit i hi) ⟨by omega, by omega, rfl, (by first | decide | exact Nat.zero_le _)⟩ ?_
    refine R_goto (tgt := 43) hX dJ0_getBytes_840e7_25 (by decide) ?_
    exact R_vret hX dJ0_getBytes_840e7_43 ⟨rfl, rfl⟩
set_option maxRecDepth 100000 in
set_option maxHeartbeats 4000000 in
theorem e_infl {V : VX} {T : Shp} {F : Hp} {b : Int} {i : Nat} (hi : i < 27) (hb : isO (SH T) b 14 []) (hc : F b 1 = 0) : CtE V yJ5_inflateIfNeededFor_a7421 cJ5_inflateIfNeededFor_a7421 2 none 1 20 0 0 (SH T) [vr V b, .ref ((vG V).2.1 i)] F 0 (fun r s F' => s = SH T ∧ F' = F) := by
  refine CtE.of [some (vr V b), some (.ref ((vG V).2.1 i))] (by decide) (by simp [lg_sl, vi_cat, vl_cat, vr_cat, rf_cat]) rfl (by simp [asc, lv_args, vi_cat, vl_cat, vr_cat, rf_cat]) (fun X hV hX => ?_)
  subst hV
  refine R_getsV (v := vi 1) hX hX.2.2.2.2.2.2.1.2.2.2.2.2.2.2.2.2.1 gx_J5_18 dJ5_inflateIfNeededFor_a7421_0 ?_
  refine R_ifeq (tgt := 21) hX dJ5_inflateIfNeededFor_a7421_3 (by decide) ⟨by omega, by omega⟩ (fun c_3 => ?_) (fun c_3 => ?_)
  · exact absurd c_3 (by decide)
  · skip
    refine R_aload_0 hX dJ5_inflateIfNeededFor_a7421_6 ?_
    refine R_getb hX dJ5_inflateIfNeededFor_a7421_7 fl_J5_22 hb rfl ?_
    rw [hc]
    refine R_aload_1_raw hX dJ5_inflateIfNeededFor_a7421_10 ?_
    refine R_callVS (As := []) hX dJ5_inflateIfNeededFor_a7421_11 li_J5_40 mk_J0_coder_7d493 mi_J0_coder_7d493 rfl hi (c_coder hi) ⟨⟨by decide, by decide⟩, by omega, by omega, rfl, rfl, Nat.le_of_ble_eq_true rfl⟩ (fun x_11 F_11 h_11 => ?_)
    obtain ⟨h_11, e_11⟩ := h_11; replace e_11 := e_11.symm; subst e_11
    subst h_11
    refine R_icmpeq (tgt := 21) hX dJ5_inflateIfNeededFor_a7421_14 (by decide) ⟨by omega, by omega⟩ ⟨by omega, by omega⟩ (fun c_14 => ?_) (fun c_14 => ?_)
    · skip
      exact R_vretE hX dJ5_inflateIfNeededFor_a7421_21 ⟨by omega, by omega⟩ ⟨rfl, rfl⟩
    · exact absurd rfl c_14
set_option maxRecDepth 100000 in
set_option maxHeartbeats 4000000 in
theorem e_putS {V : VX} {T : Shp} {F : Hp} {b v : Int} {cap : Nat} (hb : isO (SH T) b 14 []) (hc : F b 1 = 0) (hv : F b 0 = v) (ha : isA (SH T) v .byte cap) {i : Nat} {p : Int} (hi : i < 27) (hp : 0 ≤ p ∧ p + sln i ≤ cap ∧ cap ≤ 2048) : CtE V yJ5_putStringAt_47b60 cJ5_putStringAt_47b60 3 none 2 83 0 0 (SH T) [vr V b, vi p, .ref ((vG V).2.1 i)] F 0 (fun r s F' => s = SH T ∧ F' = cpyT F (stg i) v p (sln i)) := by
  refine CtE.of [some (vr V b), some (vi p), some (.ref ((vG V).2.1 i))] (by decide) (by simp [lg_sl, vi_cat, vl_cat, vr_cat, rf_cat]) rfl (by simp [asc, lv_args, vi_cat, vl_cat, vr_cat, rf_cat]) (fun X hV hX => ?_)
  subst hV
  refine R_aload_0 hX dJ5_putStringAt_47b60_0 ?_
  refine R_aload_2_raw hX dJ5_putStringAt_47b60_1 ?_
  refine R_callUE (As := [.ref ((vG (xV X)).2.1 i)]) hX dJ5_putStringAt_47b60_2 li_J5_397 mk_J5_inflateIfNeededFor_a7421 mu_J5_inflateIfNeededFor_a7421 (by decide) (by decide +kernel) rfl hb (e_infl hi hb hc) ⟨⟨by decide, by decide⟩, by omega, by omega, rfl, rfl, (by first | decide | exact Nat.zero_le _)⟩ (fun x_2 s_2 F_2 d_2 h_2 hl_2 hd_2 => ?_)
  obtain ⟨rfl, h_2⟩ := h_2
  subst h_2
  refine R_aload_2_raw hX dJ5_putStringAt_47b60_5 ?_
  refine R_aload_0 hX dJ5_putStringAt_47b60_6 ?_
  refine R_getaE (t := .byte) (v := v) hX (fun _ _ => rfl) dJ5_putStringAt_47b60_7 fl_J5_15 hb rfl hv ?_
  refine R_iload_1 hX dJ5_putStringAt_47b60_10 ?_
  refine R_aload_0 hX dJ5_putStringAt_47b60_11 ?_
  refine R_getb hX dJ5_putStringAt_47b60_12 fl_J5_22 hb rfl ?_
  rw [hc]
  refine R_callVS (As := [vr (xV X) v, vi p, vi 0]) hX dJ5_putStringAt_47b60_15 li_J5_399 mk_J0_getBytes_840e7 mi_J0_getBytes_840e7 rfl hi (c_getB hi ha ⟨by omega, by omega, by omega⟩) ⟨⟨by decide, by decide⟩, by omega, by omega, rfl, rfl, Nat.le_of_ble_eq_true rfl⟩ (fun x_15 F_15 h_15 => ?_)
  obtain ⟨h_15, e_15⟩ := h_15; replace e_15 := e_15.symm; subst e_15
  exact R_vretE hX dJ5_putStringAt_47b60_18 ⟨by omega, by omega⟩ ⟨rfl, rfl⟩
