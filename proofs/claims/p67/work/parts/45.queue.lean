theorem LoI.lg2 {b u : Int} {F : Hp} (h : LoI b F) (hQ : QuI b u F) : (0 ≤ F (b + 19) 0 ∧ F (b + 19) 0 ≤ 24) ∧ ∀ k : Int, 0 ≤ k → k < F (b + 19) 0 → (0 ≤ F (b + 23) k ∧ F (b + 23) k ≤ 5000) ∧ (0 ≤ F (b + 21) k ∧ F (b + 21) k ≤ 99) :=
  ⟨h.1, fun k h0 h1 => by have h2 := h.2 k h0 h1; have h3 := hQ.1; omega⟩
theorem inR_0 {x : Int} : inR 0 x ↔ 0 ≤ x ∧ x ≤ 99 := ⟨fun h => h.2, fun h => ⟨by decide, h⟩⟩
theorem inR_1 {x : Int} : inR 1 x ↔ 0 ≤ x ∧ x ≤ 999 := ⟨fun h => h.2, fun h => ⟨by decide, h⟩⟩
theorem inR_4 {x : Int} : inR 4 x ↔ 1 ≤ x ∧ x ≤ 9 := ⟨fun h => h.2, fun h => ⟨by decide, h⟩⟩
set_option maxRecDepth 100000 in
set_option maxHeartbeats 4000000 in
theorem c_nextLeaf {V : VX} {T : Shp} {F : Hp} {b u v K : Int} (hbq : b = 40) (hu : isSu u) (h : CI b u v K F)  : Ct V yX11_nextLeaf cX11_nextLeaf 1 (some .int) 4 98 0 0 (SH T) [vr V 0] F (SH T) 1 (fun r F' => r = chlS b u F ∧ F' = F) := by
  refine Ct.of [some (vr V 0)] (by decide) (by simp [lg_sl, vi_cat, vl_cat, vr_cat]) rfl (by simp [asc, lv_args, vi_cat, vl_cat, vr_cat]) (fun X hV hX => ?_)
  subst hV
  have hb : isSt b := Or.inl hbq
  obtain ⟨hs, hd, hS, hK, hL, hB, hk1, hk2, hS1, hS2⟩ := id h
  obtain ⟨hU, hA, hQ, hLo, hBd⟩ := id hS
  have hN := hU.1
  have hCC := hU.2.2.2.2.1
  refine R_aload_0 hX dX11_nextLeaf_0 ?_
  refine R_getq (v := b) hX dX11_nextLeaf_1 fl_X11_40 o_0 hbq.symm (by omega) ?_
  refine R_aload_0 hX dX11_nextLeaf_4 ?_
  refine R_getoE (v := u) hX dX11_nextLeaf_5 fl_X11_33 o_0 rfl hs ?_
  refine R_v1i hX dX11_nextLeaf_8 li_X11_197 mk_X8_chooseLeaf mi_X8_chooseLeaf rfl (so_0 hb) (c_chooseLeaf hu hb hU hA hQ hBd (by omega)) ⟨⟨by decide, by decide⟩, by decide, by decide, rfl, Nat.le_of_ble_eq_true rfl, rfl⟩ (fun x_8 F_8 h_8 => ?_)
  obtain ⟨h_8, e_8⟩ := h_8; replace e_8 := e_8.symm; subst e_8
  exact R_iret hX dX11_nextLeaf_11 ⟨h_8, rfl⟩
set_option maxRecDepth 100000 in
set_option maxHeartbeats 4000000 in
theorem c_canAdvance {V : VX} {T : Shp} {F : Hp} {b u v K : Int} (hbq : b = 40) (hu : isSu u) (h : CI b u v K F) {t : Int} (h1 : I32 t)  : Ct V yX11_canAdvance cX11_canAdvance 2 (some .boolean) 0 0 0 0 (SH T) [vr V 0, vi t] F (SH T) 1 (fun r F' => ((r = 1 ∧ (0 < F u 0 ∧ 1 ≤ t ∧ t ≤ 500 ∧ F b 1 + t ≤ 5000)) ∨ (r = 0 ∧ ¬ (0 < F u 0 ∧ 1 ≤ t ∧ t ≤ 500 ∧ F b 1 + t ≤ 5000))) ∧ F' = F) := by
  refine Ct.of [some (vr V 0), some (vi t)] (by decide) (by simp [lg_sl, vi_cat, vl_cat, vr_cat]) rfl (by simp [asc, lv_args, vi_cat, vl_cat, vr_cat]) (fun X hV hX => ?_)
  subst hV
  have hb : isSt b := Or.inl hbq
  obtain ⟨hs, hd, hS, hK, hL, hB, hk1, hk2, hS1, hS2⟩ := id h
  obtain ⟨hU, hA, hQ, hLo, hBd⟩ := id hS
  have hN := hU.1
  have hCC := hU.2.2.2.2.1
  have ht0 := hQ.1
  refine R_aload_0 hX dX11_canAdvance_0 ?_
  refine R_getoE (v := u) hX dX11_canAdvance_1 fl_X11_33 o_0 rfl hs ?_
  refine R_geti hX dX11_canAdvance_4 fl_X11_79 (to_0 hu) rfl ?_
  refine R_ifle (tgt := 41) hX dX11_canAdvance_7 (by decide) ⟨by omega, by omega⟩ (fun c_7 => ?_) (fun c_7 => ?_)
  · skip
    refine R_iconst hX dX11_canAdvance_41 ?_
    exact R_zret hX (by omega) dX11_canAdvance_42 ⟨by omega, rfl⟩
  · skip
    refine R_iload_1 hX dX11_canAdvance_10 ?_
    refine R_iconst hX dX11_canAdvance_11 ?_
    refine R_icmplt (tgt := 41) hX dX11_canAdvance_12 (by decide) ⟨by omega, by omega⟩ ⟨by omega, by omega⟩ (fun c_12 => ?_) (fun c_12 => ?_)
    · skip
      refine R_iconst hX dX11_canAdvance_41 ?_
      exact R_zret hX (by omega) dX11_canAdvance_42 ⟨by omega, rfl⟩
    · skip
      refine R_iload_1 hX dX11_canAdvance_15 ?_
      refine R_sipush hX dX11_canAdvance_16 (by decide) ?_
      refine R_icmpgt (tgt := 41) hX dX11_canAdvance_19 (by decide) ⟨by omega, by omega⟩ ⟨by omega, by omega⟩ (fun c_19 => ?_) (fun c_19 => ?_)
      · skip
        refine R_iconst hX dX11_canAdvance_41 ?_
        exact R_zret hX (by omega) dX11_canAdvance_42 ⟨by omega, rfl⟩
      · skip
        refine R_aload_0 hX dX11_canAdvance_22 ?_
        refine R_getq (v := b) hX dX11_canAdvance_23 fl_X11_40 o_0 hbq.symm (by omega) ?_
        refine R_geti hX dX11_canAdvance_26 fl_X11_140 (so_0 hb) rfl ?_
        refine R_iload_1 hX dX11_canAdvance_29 ?_
        refine R_iadd hX dX11_canAdvance_30 ?_
        refine R_sipush hX dX11_canAdvance_31 (by decide) ?_
        refine R_icmpgt (tgt := 41) hX dX11_canAdvance_34 (by decide) ⟨by omega, by omega⟩ ⟨by omega, by omega⟩ (fun c_34 => ?_) (fun c_34 => ?_)
        · skip
          refine R_iconst hX dX11_canAdvance_41 ?_
          exact R_zret hX (by omega) dX11_canAdvance_42 ⟨by omega, rfl⟩
        · skip
          refine R_iconst hX dX11_canAdvance_37 ?_
          refine R_goto (tgt := 42) hX dX11_canAdvance_38 (by decide) ?_
          exact R_zret hX (by omega) dX11_canAdvance_42 ⟨by omega, rfl⟩
set_option maxRecDepth 100000 in
set_option maxHeartbeats 4000000 in
theorem c_advance {V : VX} {T : Shp} {F : Hp} {b u v K : Int} (hbq : b = 40) (hu : isSu u) (h : CI b u v K F) {t : Int} (h1 : I32 t)  : Ct V yX11_advance cX11_advance 2 (some .int) 7 199 0 0 (SH T) [vr V 0, vi t] F (SH T) 1 (fun r F' => (¬ (0 < F u 0 ∧ 1 ≤ t ∧ t ≤ 500 ∧ F b 1 + t ≤ 5000) ∧ r = -1 ∧ F' = F) ∨ ((0 < F u 0 ∧ 1 ≤ t ∧ t ≤ 500 ∧ F b 1 + t ≤ 5000) ∧ r = (tksS b u t.toNat F).1 ∧ F' = (tksS b u t.toNat F).2)) := by
  refine Ct.of [some (vr V 0), some (vi t)] (by decide) (by simp [lg_sl, vi_cat, vl_cat, vr_cat]) rfl (by simp [asc, lv_args, vi_cat, vl_cat, vr_cat]) (fun X hV hX => ?_)
  subst hV
  have hb : isSt b := Or.inl hbq
  obtain ⟨hs, hd, hS, hK, hL, hB, hk1, hk2, hS1, hS2⟩ := id h
  obtain ⟨hU, hA, hQ, hLo, hBd⟩ := id hS
  have hN := hU.1
  have hCC := hU.2.2.2.2.1
  refine R_aload_0 hX dX11_advance_0 ?_
  refine R_iload_1 hX dX11_advance_1 ?_
  refine R_v1i hX dX11_advance_2 li_X11_217 mk_X11_canAdvance mi_X11_canAdvance rfl o_0 (c_canAdvance hbq hu h h1) ⟨⟨by decide, by decide⟩, by decide, by decide, rfl, Nat.le_of_ble_eq_true rfl, rfl⟩ (fun x_2 F_2 h_2 => ?_)
  obtain ⟨h_2, e_2⟩ := h_2; replace e_2 := e_2.symm; subst e_2
  refine R_ifeq (tgt := 23) hX dX11_advance_5 (by decide) ⟨by omega, by omega⟩ (fun c_5 => ?_) (fun c_5 => ?_)
  · skip
    refine R_iconst hX dX11_advance_23 ?_
    exact R_iret hX dX11_advance_24 (by first | exact Or.inl ⟨by omega, rfl, rfl⟩ | exact Or.inr ⟨by omega, h_17.1, h_17.2⟩)
  · skip
    refine R_aload_0 hX dX11_advance_8 ?_
    refine R_getq (v := b) hX dX11_advance_9 fl_X11_40 o_0 hbq.symm (by omega) ?_
    refine R_aload_0 hX dX11_advance_12 ?_
    refine R_getoE (v := u) hX dX11_advance_13 fl_X11_33 o_0 rfl hs ?_
    refine R_iload_1 hX dX11_advance_16 ?_
    refine R_v2i hX dX11_advance_17 li_X11_220 mk_X8_makeTicks mi_X8_makeTicks rfl (so_0 hb) (c_makeTicks hu hb hS hK (by omega) (by omega)) ⟨⟨by decide, by decide⟩, by decide, by decide, rfl, Nat.le_of_ble_eq_true rfl, rfl⟩ (fun x_17 F_17 h_17 => ?_)
    refine R_goto (tgt := 24) hX dX11_advance_20 (by decide) ?_
    exact R_iret hX dX11_advance_24 (by first | exact Or.inl ⟨by omega, rfl, rfl⟩ | exact Or.inr ⟨by omega, h_17.1, h_17.2⟩)
