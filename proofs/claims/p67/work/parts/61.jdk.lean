set_option maxRecDepth 100000 in
set_option maxHeartbeats 4000000 in
theorem e_ens {V : VX} {T : Shp} {F : Hp} {b v : Int} {cap : Nat} (hb : isO (SH T) b 14 []) (hc : F b 1 = 0) (hv : F b 0 = v) (ha : isA (SH T) v .byte cap) (hy : Byt F v cap) (h2 : cap ≤ 2048) {k : Int} (hk : 0 ≤ k ∧ k ≤ 1000) : CtE V yJ5_ensureCapacityInternal_d00df cJ5_ensureCapacityInternal_d00df 3 none 3 82 1 2048 (SH T) [vr V b, vi k] F 0 (fun r s F' => ∃ g, s = SH (T ++ g) ∧ ∃ (v' : Int) (cap' : Nat), F' b 0 = v' ∧ isA (SH (T ++ g)) v' .byte cap' ∧ k ≤ cap' ∧ cap' ≤ 2048 ∧ (v' = v ∨ 136 + (T.length : Int) ≤ v') ∧ (∀ a : Int, a ≠ b → a < 136 + T.length → F' a = F a) ∧ (∀ j : Int, j ≠ 0 → F' b j = F b j) ∧ (∀ i : Int, 0 ≤ i → i < cap → F' v' i = F v i) ∧ Byt F' v' cap') := by
  refine CtE.of [some (vr V b), some (vi k), none] (by decide) (by simp [lg_sl, vi_cat, vl_cat, vr_cat, rf_cat]) rfl (by simp [asc, lv_args, vi_cat, vl_cat, vr_cat, rf_cat]) (fun X hV hX => ?_)
  subst hV
  have hne := oa_ne hb ha
  have hvl := ha.ltT
  have hbl := hb.ltT
  refine R_aload_0 hX dJ5_ensureCapacityInternal_d00df_0 ?_
  refine R_getaE (t := .byte) (v := v) hX (fun _ _ => rfl) dJ5_ensureCapacityInternal_d00df_1 fl_J5_15 hb rfl hv ?_
  refine R_alen hX (Or.inr (Or.inr (Or.inr rfl))) dJ5_ensureCapacityInternal_d00df_4 ha ?_
  refine R_aload_0 hX dJ5_ensureCapacityInternal_d00df_5 ?_
  refine R_getb hX dJ5_ensureCapacityInternal_d00df_6 fl_J5_22 hb rfl ?_
  rw [hc]
  refine R_ishr hX dJ5_ensureCapacityInternal_d00df_9 ?_
  rw [ishr0 ⟨by omega, by omega⟩]
  refine R_istore_2 hX c1_i dJ5_ensureCapacityInternal_d00df_10 ?_
  refine R_iload_1 hX dJ5_ensureCapacityInternal_d00df_11 ?_
  refine R_iload_2 hX dJ5_ensureCapacityInternal_d00df_12 ?_
  refine R_isub hX dJ5_ensureCapacityInternal_d00df_13 ?_
  refine R_ifle (tgt := 38) hX dJ5_ensureCapacityInternal_d00df_14 (by decide) ⟨by omega, by omega⟩ (fun c_14 => ?_) (fun c_14 => ?_)
  · skip
    exact R_vretE hX dJ5_ensureCapacityInternal_d00df_38 ⟨by omega, by omega⟩ ⟨[], by rw [List.append_nil], v, cap, hv, by rw [List.append_nil]; exact ha, by omega, h2, Or.inl rfl, (fun _ _ _ => rfl), (fun _ _ => rfl), (fun _ _ _ => rfl), hy⟩
  · skip
    refine R_aload_0 hX dJ5_ensureCapacityInternal_d00df_17 ?_
    refine R_aload_0 hX dJ5_ensureCapacityInternal_d00df_18 ?_
    refine R_getaE (t := .byte) (v := v) hX (fun _ _ => rfl) dJ5_ensureCapacityInternal_d00df_19 fl_J5_15 hb rfl hv ?_
    refine R_aload_0 hX dJ5_ensureCapacityInternal_d00df_22 ?_
    refine R_iload_1 hX dJ5_ensureCapacityInternal_d00df_23 ?_
    refine R_callUE (As := [_]) hX dJ5_ensureCapacityInternal_d00df_24 li_J5_104 mk_J5_newCapacity_0f7a4 mu_J5_newCapacity_0f7a4 (by decide) (by decide +kernel) rfl hb (e_newCap hb hc hv ha ⟨by omega, by omega⟩) ⟨⟨by decide, by decide⟩, by omega, by omega, rfl, rfl, (by simp [vi_cat, vl_cat, vr_cat, rf_cat])⟩ (fun x_24 s_24 F_24 d_24 h_24 hl_24 hd_24 => ?_)
    obtain ⟨rfl, h_24⟩ := h_24
    obtain ⟨hr_24, rfl⟩ := h_24
    refine R_aload_0 hX dJ5_ensureCapacityInternal_d00df_27 ?_
    refine R_getb hX dJ5_ensureCapacityInternal_d00df_28 fl_J5_22 hb rfl ?_
    rw [hc]
    refine R_ishl hX dJ5_ensureCapacityInternal_d00df_31 ?_
    rw [ishl0 ⟨by omega, by omega⟩]
    refine R_callSE (As := [_, _]) hX dJ5_ensureCapacityInternal_d00df_32 li_J5_108 mk_J7_copyOf_9075b ms_J7_copyOf_9075b (e_copyOf ha ⟨by omega, by omega⟩ hy) ⟨⟨by decide, by decide⟩, by omega, by omega, rfl, rfl, (by simp [vi_cat, vl_cat, vr_cat, rf_cat])⟩ (fun x_32 s_32 F_32 d_32 h_32 hl_32 hd_32 => ?_)
    obtain ⟨g_32, rfl, h_32⟩ := h_32
    obtain ⟨rx_32, ra_32, rf_32, ri_32, ry_32⟩ := h_32
    refine R_puta (t := .byte) hX (fun _ _ => rfl) dJ5_ensureCapacityInternal_d00df_35 fl_J5_15 (hb.up) rfl ?_
    exact R_vretE hX dJ5_ensureCapacityInternal_d00df_38 ⟨by omega, by omega⟩ ⟨g_32, rfl, x_32, x_24.toNat, up_s, ra_32, by omega, by omega, Or.inr (by omega), (fun a h0 h1 => by rw [up_r h0]; exact rf_32 a (by omega)), (fun j hj => by rw [up_i hj, rf_32 b (by omega)]), (fun i h0 h1 => by rw [up_k (by omega)]; exact ri_32 i h0 h1), (fun i h0 h1 => by rw [up_k (by omega)]; exact ry_32 i h0 (by omega))⟩
