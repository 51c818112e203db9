set_option maxRecDepth 100000 in
set_option maxHeartbeats 4000000 in
theorem c_hasNode {V : VX} {T : Shp} {F : Hp} {u : Int} (hu : isSu u) (hN : 0 ≤ F u 0 ∧ F u 0 ≤ 12) {node : Int} (h1 : I32 node) : Ct V yX7_hasNode cX7_hasNode 2 (some .boolean) 0 0 0 0 (SH T) [vr V u, vi node] F (SH T) 1 (fun r F' => ((r = 1 ∧ (0 ≤ node ∧ node < F u 0)) ∨ (r = 0 ∧ ¬ (0 ≤ node ∧ node < F u 0))) ∧ F' = F) := by
  refine Ct.of [some (vr V u), some (vi node)] (by decide) (by simp [lg_sl, vi_cat, vl_cat, vr_cat]) rfl (by simp [asc, lv_args, vi_cat, vl_cat, vr_cat]) (fun X hV hX => ?_)
  subst hV
  refine R_iload_1 hX dX7_hasNode_0 ?_
  refine R_iflt (tgt := 22) hX dX7_hasNode_1 (by decide) ⟨by omega, by omega⟩ (fun c_1 => ?_) (fun c_1 => ?_)
  · skip
    refine R_iconst hX dX7_hasNode_22 ?_
    exact R_zret hX (by omega) dX7_hasNode_23 ⟨by omega, rfl⟩
  · skip
    refine R_iload_1 hX dX7_hasNode_4 ?_
    refine R_aload_0 hX dX7_hasNode_5 ?_
    refine R_geti hX dX7_hasNode_6 fl_X7_61 (to_0 hu) rfl ?_
    refine R_icmpge (tgt := 22) hX dX7_hasNode_9 (by decide) ⟨by omega, by omega⟩ ⟨by omega, by omega⟩ (fun c_9 => ?_) (fun c_9 => ?_)
    · skip
      refine R_iconst hX dX7_hasNode_22 ?_
      exact R_zret hX (by omega) dX7_hasNode_23 ⟨by omega, rfl⟩
    · skip
      refine R_iload_1 hX dX7_hasNode_12 ?_
      refine R_bipush hX dX7_hasNode_13 (by decide) ?_
      refine R_icmpge (tgt := 22) hX dX7_hasNode_15 (by decide) ⟨by omega, by omega⟩ ⟨by omega, by omega⟩ (fun c_15 => ?_) (fun c_15 => ?_)
      · skip
        refine R_iconst hX dX7_hasNode_22 ?_
        exact R_zret hX (by omega) dX7_hasNode_23 ⟨by omega, rfl⟩
      · skip
        refine R_iconst hX dX7_hasNode_18 ?_
        refine R_goto (tgt := 23) hX dX7_hasNode_19 (by decide) ?_
        exact R_zret hX (by omega) dX7_hasNode_23 ⟨by omega, rfl⟩
set_option maxRecDepth 100000 in
set_option maxHeartbeats 4000000 in
theorem c_hasLeaf {V : VX} {T : Shp} {F : Hp} {u : Int} (hu : isSu u) (hN : 0 ≤ F u 0 ∧ F u 0 ≤ 12) (hC : ∀ n : Int, 0 ≤ n → n < F u 0 → 0 ≤ F (u + 4) n ∧ F (u + 4) n ≤ 12) {node : Int} (h1 : I32 node) : Ct V yX7_hasLeaf cX7_hasLeaf 2 (some .boolean) 1 21 0 0 (SH T) [vr V u, vi node] F (SH T) 1 (fun r F' => ((r = 1 ∧ (0 ≤ node ∧ node < F u 0 ∧ F (u + 4) node = 0)) ∨ (r = 0 ∧ ¬ (0 ≤ node ∧ node < F u 0 ∧ F (u + 4) node = 0))) ∧ F' = F) := by
  refine Ct.of [some (vr V u), some (vi node)] (by decide) (by simp [lg_sl, vi_cat, vl_cat, vr_cat]) rfl (by simp [asc, lv_args, vi_cat, vl_cat, vr_cat]) (fun X hV hX => ?_)
  subst hV
  refine R_aload_0 hX dX7_hasLeaf_0 ?_
  refine R_iload_1 hX dX7_hasLeaf_1 ?_
  refine R_v1i hX dX7_hasLeaf_2 li_X7_67 mk_X7_hasNode mi_X7_hasNode rfl (to_0 hu) (c_hasNode hu hN ⟨by omega, by omega⟩) ⟨⟨by decide, by decide⟩, by decide, by decide, rfl, Nat.le_of_ble_eq_true rfl, rfl⟩ (fun x_2 F_2 h_2 => ?_)
  obtain ⟨h_2, e_2⟩ := h_2; replace e_2 := e_2.symm; subst e_2
  refine R_ifeq (tgt := 21) hX dX7_hasLeaf_5 (by decide) ⟨by omega, by omega⟩ (fun c_5 => ?_) (fun c_5 => ?_)
  · skip
    refine R_iconst hX dX7_hasLeaf_21 ?_
    exact R_zret hX (by omega) dX7_hasLeaf_22 ⟨by omega, rfl⟩
  · skip
    have hc := hC node (by omega) (by omega)
    refine R_aload_0 hX dX7_hasLeaf_8 ?_
    refine R_getq (v := u + 4) hX dX7_hasLeaf_9 fl_X7_22 (to_0 hu) rfl (by omega) ?_
    refine R_iload_1 hX dX7_hasLeaf_12 ?_
    refine R_iald hX dX7_hasLeaf_13 (ta_4 hu) ⟨by omega, by omega⟩ ?_
    refine R_ifne (tgt := 21) hX dX7_hasLeaf_14 (by decide) ⟨by omega, by omega⟩ (fun c_14 => ?_) (fun c_14 => ?_)
    · skip
      refine R_iconst hX dX7_hasLeaf_21 ?_
      exact R_zret hX (by omega) dX7_hasLeaf_22 ⟨by omega, rfl⟩
    · skip
      refine R_iconst hX dX7_hasLeaf_17 ?_
      refine R_goto (tgt := 22) hX dX7_hasLeaf_18 (by decide) ?_
      exact R_zret hX (by omega) dX7_hasLeaf_22 ⟨by omega, rfl⟩
