theorem tmod_rng {x n : Int} (hx : 0 ≤ x) (hn : 1 ≤ n) : 0 ≤ x.tmod n ∧ x.tmod n < n := ⟨Int.tmod_nonneg _ hx, Int.tmod_lt_of_pos _ (by omega)⟩
set_option maxRecDepth 100000 in
set_option maxHeartbeats 4000000 in
theorem c_mixed {V : VX} {T : Shp} {F : Hp} {v : Int} : Ct V yL_mixed cL_mixed 1 (some .int) 0 0 0 0 (SH T) [vi v] F (SH T) 1 (fun r F' => (0 ≤ r ∧ r < 8388608) ∧ F' = F) := by
  refine Ct.of [some (vi v)] (by decide) (by simp [lg_sl, vi_cat, vl_cat, vr_cat]) rfl (by simp [asc, lv_args, vi_cat, vl_cat, vr_cat]) (fun X hV hX => ?_)
  subst hV
  refine R_iload_0 hX dL_mixed_0 ?_
  refine R_ldc (n := 1103515245) hX k1_L_7 rfl dL_mixed_1 ?_
  refine R_imul hX dL_mixed_3 ?_
  refine R_sipush hX dL_mixed_4 (by decide) ?_
  refine R_iadd hX dL_mixed_7 ?_
  refine R_bipush hX dL_mixed_8 (by decide) ?_
  refine R_iushr (k := 9) hX (by decide) (by decide) (by decide) dL_mixed_10 (fun y_10 hy0_10 hy1_10 => ?_)
  have e23 : (2 : Int) ^ (32 - 9) = 8388608 := by decide
  rw [e23] at hy1_10
  exact R_iret hX dL_mixed_11 ⟨⟨hy0_10, hy1_10⟩, rfl⟩
set_option maxRecDepth 100000 in
set_option maxHeartbeats 4000000 in
theorem c_draw {V : VX} {T : Shp} {F : Hp} {d n : Int} (hd : isA (SH T) d .int 1) (hn : 1 ≤ n ∧ n ≤ 100) : Ct V yL_draw cL_draw 2 (some .int) 1 20 0 0 (SH T) [vr V d, vi n] F (SH T) 1 (fun r F' => (0 ≤ r ∧ r < n) ∧ ∃ v : Int, 0 ≤ v ∧ F' = up F d 0 v) := by
  refine Ct.of [some (vr V d), some (vi n)] (by decide) (by simp [lg_sl, vi_cat, vl_cat, vr_cat]) rfl (by simp [asc, lv_args, vi_cat, vl_cat, vr_cat]) (fun X hV hX => ?_)
  subst hV
  refine R_aload_0 hX dL_draw_0 ?_
  refine R_iconst hX dL_draw_1 ?_
  refine R_aload_0 hX dL_draw_2 ?_
  refine R_iconst hX dL_draw_3 ?_
  refine R_iald hX dL_draw_4 hd ⟨by omega, by omega⟩ ?_
  refine R_bipush hX dL_draw_5 (by decide) ?_
  refine R_iadd hX dL_draw_7 ?_
  refine R_s1i hX dL_draw_8 li_L_8 mk_L_mixed ms_L_mixed (c_mixed) ⟨⟨by decide, by decide⟩, by decide, by decide, rfl, Nat.le_of_ble_eq_true rfl, rfl⟩ (fun x_8 F_8 h_8 => ?_)
  obtain ⟨h_8, e_8⟩ := h_8; replace e_8 := e_8.symm; subst e_8
  refine R_iast hX dL_draw_11 hd ⟨by omega, by omega⟩ ?_
  refine R_aload_0 hX dL_draw_12 ?_
  refine R_iconst hX dL_draw_13 ?_
  refine R_iald hX dL_draw_14 hd ⟨by omega, by omega⟩ ?_
  refine R_iconst hX dL_draw_15 ?_
  refine R_iushr (k := 3) hX (by decide) (by decide) (by decide) dL_draw_16 (fun y_16 hy0_16 hy1_16 => ?_)
  refine R_iload_1 hX dL_draw_17 ?_
  have e29 : (2 : Int) ^ (32 - 3) = 536870912 := by decide
  rw [e29] at hy1_16
  have htm := tmod_rng (n := n) hy0_16 hn.1
  refine R_irem hX ⟨by omega, by omega⟩ ⟨by omega, by omega⟩ (by omega) dL_draw_18 ?_
  exact R_iret hX dL_draw_19 ⟨htm, _, h_8.1, rfl⟩
