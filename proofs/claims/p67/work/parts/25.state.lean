theorem dstS_rng {b u : Int} {F : Hp} (hU : SuI u F) : ∀ n : Int, 0 ≤ n → n < F u 0 → -20 ≤ dstS b u F n ∧ dstS b u F n ≤ 20 := fun n z0 z1 => by
  have k0 := hU.1
  have k1 := hU.2.2.2.1 n z0 z1
  have k2 := lndS_rng (b := b) (c := F (b + 11) (n * 16)) hU.2.1 z1
  unfold dstS
  split
  · omega
  · split
    · omega
    · have k3 := hU.2.2.2.1 (lndS b u F n (F (b + 11) (n * 16))) (by omega) (by omega)
      omega
set_option maxRecDepth 100000 in
set_option maxHeartbeats 4000000 in
theorem c_cmp {V : VX} {T : Shp} {F : Hp} {x y : Int} (hx : I64 x) (hy : I64 y) : Ct V yJ13_compare_74951 cJ13_compare_74951 4 (some .int) 0 0 0 0 (SH T) [vl x, vl y] F (SH T) 1 (fun r F' => ((r = -1 ∧ x < y) ∨ (r = 0 ∧ x = y) ∨ (r = 1 ∧ y < x)) ∧ F' = F) := by
  refine Ct.of [some (vl x), none, some (vl y), none] (by decide) (by simp [lg_sl, vi_cat, vl_cat, vr_cat]) rfl (by simp [asc, lv_args, vi_cat, vl_cat, vr_cat]) (fun X hV hX => ?_)
  subst hV
  refine R_lload_0 hX dJ13_compare_74951_0 ?_
  refine R_lload_2 hX dJ13_compare_74951_1 ?_
  refine R_lcmp hX ⟨by omega, by omega⟩ ⟨by omega, by omega⟩ dJ13_compare_74951_2 ?_
  refine R_ifge (tgt := 10) hX dJ13_compare_74951_3 (by decide) (by unfold lc; split <;> (try split) <;> constructor <;> omega) (fun c_3 => ?_) (fun c_3 => ?_)
  · skip
    refine R_lload_0 hX dJ13_compare_74951_10 ?_
    refine R_lload_2 hX dJ13_compare_74951_11 ?_
    refine R_lcmp hX ⟨by omega, by omega⟩ ⟨by omega, by omega⟩ dJ13_compare_74951_12 ?_
    refine R_ifne (tgt := 20) hX dJ13_compare_74951_13 (by decide) (by unfold lc; split <;> (try split) <;> constructor <;> omega) (fun c_13 => ?_) (fun c_13 => ?_)
    · skip
      have hh : y < x := by unfold lc at c_3 c_13; split at c_3 <;> (try split at c_3) <;> split at c_13 <;> (try split at c_13) <;> omega
      refine R_iconst hX dJ13_compare_74951_20 ?_
      exact R_iret hX dJ13_compare_74951_21 ⟨by omega, rfl⟩
    · skip
      have hh : x = y := by unfold lc at c_3 c_13; split at c_3 <;> (try split at c_3) <;> split at c_13 <;> (try split at c_13) <;> omega
      refine R_iconst hX dJ13_compare_74951_16 ?_
      refine R_goto (tgt := 21) hX dJ13_compare_74951_17 (by decide) ?_
      exact R_iret hX dJ13_compare_74951_21 ⟨by omega, rfl⟩
  · skip
    have hh : x < y := by unfold lc at c_3; split at c_3 <;> (try split at c_3) <;> omega
    refine R_iconst hX dJ13_compare_74951_6 ?_
    refine R_goto (tgt := 21) hX dJ13_compare_74951_7 (by decide) ?_
    exact R_iret hX dJ13_compare_74951_21 ⟨by omega, rfl⟩
set_option maxRecDepth 100000 in
set_option maxHeartbeats 4000000 in
theorem c_cmpServed {V : VX} {T : Shp} {F : Hp} {u b : Int} (hu : isSu u) (hN : 0 ≤ F u 0 ∧ F u 0 ≤ 12) (hb : isSt b) (hs : ∀ n : Int, 0 ≤ n → n < F u 0 → (0 ≤ F (b + 14) n ∧ F (b + 14) n ≤ 2000000) ∧ (1 ≤ F (b + 3) n ∧ F (b + 3) n ≤ 9)) {m n : Int} (h1 : 0 ≤ m ∧ m < F u 0) (h2 : 0 ≤ n ∧ n < F u 0) : Ct V yX8_compareServed cX8_compareServed 7 (some .int) 1 23 0 0 (SH T) [vr V b, vi m, vi n] F (SH T) 1 (fun r F' => ((r = -1 ∧ F (b + 14) m * F (b + 3) n < F (b + 14) n * F (b + 3) m) ∨ (r = 0 ∧ F (b + 14) m * F (b + 3) n = F (b + 14) n * F (b + 3) m) ∨ (r = 1 ∧ F (b + 14) n * F (b + 3) m < F (b + 14) m * F (b + 3) n)) ∧ F' = F) := by
  refine Ct.of [some (vr V b), some (vi m), some (vi n), none, none, none, none] (by decide) (by simp [lg_sl, vi_cat, vl_cat, vr_cat]) rfl (by simp [asc, lv_args, vi_cat, vl_cat, vr_cat]) (fun X hV hX => ?_)
  subst hV
  have q1 := hs m h1.1 h1.2
  have q2 := hs n h2.1 h2.2
  have m1 := mul_rng q1.1 (show 0 ≤ F (b + 3) n ∧ F (b + 3) n ≤ 9 by omega)
  have m2 := mul_rng q2.1 (show 0 ≤ F (b + 3) m ∧ F (b + 3) m ≤ 9 by omega)
  refine R_aload_0 hX dX8_compareServed_0 ?_
  refine R_getq (v := b + 13) hX dX8_compareServed_1 fl_X8_38 (so_0 hb) rfl (by omega) ?_
  refine R_getq (v := b + 14) hX dX8_compareServed_4 fl_X8_237 (so_13 hb) rfl (by omega) ?_
  refine R_iload_1 hX dX8_compareServed_7 ?_
  refine R_iald hX dX8_compareServed_8 (sa_14 hb) ⟨by omega, by omega⟩ ?_
  refine R_i2l hX ⟨by omega, by omega⟩ dX8_compareServed_9 ?_
  refine R_aload_0 hX dX8_compareServed_10 ?_
  refine R_getq (v := b + 3) hX dX8_compareServed_11 fl_X8_18 (so_0 hb) rfl (by omega) ?_
  refine R_iload_2 hX dX8_compareServed_14 ?_
  refine R_iald hX dX8_compareServed_15 (sa_3 hb) ⟨by omega, by omega⟩ ?_
  refine R_i2l hX ⟨by omega, by omega⟩ dX8_compareServed_16 ?_
  refine R_lmul hX dX8_compareServed_17 ?_
  refine R_lstore_3 hX c1_i dX8_compareServed_18 ?_
  refine R_aload_0 hX dX8_compareServed_19 ?_
  refine R_getq (v := b + 13) hX dX8_compareServed_20 fl_X8_38 (so_0 hb) rfl (by omega) ?_
  refine R_getq (v := b + 14) hX dX8_compareServed_23 fl_X8_237 (so_13 hb) rfl (by omega) ?_
  refine R_iload_2 hX dX8_compareServed_26 ?_
  refine R_iald hX dX8_compareServed_27 (sa_14 hb) ⟨by omega, by omega⟩ ?_
  refine R_i2l hX ⟨by omega, by omega⟩ dX8_compareServed_28 ?_
  refine R_aload_0 hX dX8_compareServed_29 ?_
  refine R_getq (v := b + 3) hX dX8_compareServed_30 fl_X8_18 (so_0 hb) rfl (by omega) ?_
  refine R_iload_1 hX dX8_compareServed_33 ?_
  refine R_iald hX dX8_compareServed_34 (sa_3 hb) ⟨by omega, by omega⟩ ?_
  refine R_i2l hX ⟨by omega, by omega⟩ dX8_compareServed_35 ?_
  refine R_lmul hX dX8_compareServed_36 ?_
  refine R_lstore_5 hX c1_n dX8_compareServed_37 ?_
  refine R_lload_3 hX dX8_compareServed_39 ?_
  refine R_lload_5 hX dX8_compareServed_40 ?_
  refine R_s2i hX dX8_compareServed_42 li_X8_240 mk_J13_compare_74951 ms_J13_compare_74951 (c_cmp ⟨by omega, by omega⟩ ⟨by omega, by omega⟩) ⟨⟨by decide, by decide⟩, by decide, by decide, rfl, Nat.le_of_ble_eq_true rfl, rfl⟩ (fun x_42 F_42 h_42 => ?_)
  obtain ⟨h_42, e_42⟩ := h_42; replace e_42 := e_42.symm; subst e_42
  exact R_iret hX dX8_compareServed_45 ⟨h_42, rfl⟩
set_option maxRecDepth 100000 in
set_option maxHeartbeats 4000000 in
theorem c_isFrontOld {V : VX} {T : Shp} {F : Hp} {u b : Int} (hu : isSu u) (hN : 0 ≤ F u 0 ∧ F u 0 ≤ 12) (hb : isSt b) (hQ : QuI b u F) {leaf age : Int} (hl : 0 ≤ leaf ∧ leaf < F u 0) (ha : I32 age) : Ct V yX8_isFrontOld cX8_isFrontOld 3 (some .boolean) 0 0 0 0 (SH T) [vr V b, vi leaf, vi age] F (SH T) 1 (fun r F' => ((r = 1 ∧ oldF b leaf age F = true) ∨ (r = 0 ∧ ¬ oldF b leaf age F = true)) ∧ F' = F) := by
  refine Ct.of [some (vr V b), some (vi leaf), some (vi age)] (by decide) (by simp [lg_sl, vi_cat, vl_cat, vr_cat]) rfl (by simp [asc, lv_args, vi_cat, vl_cat, vr_cat]) (fun X hV hX => ?_)
  subst hV
  have q1 := hQ.2.1 leaf hl.1 hl.2
  have q0 := hQ.1
  refine R_aload_0 hX dX8_isFrontOld_0 ?_
  refine R_getq (v := b + 8) hX dX8_isFrontOld_1 fl_X8_31 (so_0 hb) rfl (by omega) ?_
  refine R_getq (v := b + 9) hX dX8_isFrontOld_4 fl_X8_198 (so_8 hb) rfl (by omega) ?_
  refine R_iload_1 hX dX8_isFrontOld_7 ?_
  refine R_iald hX dX8_isFrontOld_8 (sa_9 hb) ⟨by omega, by omega⟩ ?_
  refine R_ifle (tgt := 37) hX dX8_isFrontOld_9 (by decide) ⟨by omega, by omega⟩ (fun c_9 => ?_) (fun c_9 => ?_)
  · skip
    refine R_iconst hX dX8_isFrontOld_37 ?_
    exact R_zret hX (by omega) dX8_isFrontOld_38 (by first | exact ⟨Or.inl ⟨rfl, decide_eq_true ⟨by omega, by omega⟩⟩, rfl⟩ | exact ⟨Or.inr ⟨rfl, fun z => by have := oldF_t z; omega⟩, rfl⟩)
  · skip
    have q2 := (hQ.2.2 leaf hl.1 hl.2 0 (by omega) (by omega)).2
    rw [Int.add_zero] at q2
    refine R_aload_0 hX dX8_isFrontOld_12 ?_
    refine R_geti hX dX8_isFrontOld_13 fl_X8_49 (so_0 hb) rfl ?_
    refine R_aload_0 hX dX8_isFrontOld_16 ?_
    refine R_getq (v := b + 8) hX dX8_isFrontOld_17 fl_X8_31 (so_0 hb) rfl (by omega) ?_
    refine R_getq (v := b + 12) hX dX8_isFrontOld_20 fl_X8_201 (so_8 hb) rfl (by omega) ?_
    refine R_iload_1 hX dX8_isFrontOld_23 ?_
    refine R_bipush hX dX8_isFrontOld_24 (by decide) ?_
    refine R_imul hX dX8_isFrontOld_26 ?_
    refine R_iald hX dX8_isFrontOld_27 (sa_12 hb) ⟨by omega, by omega⟩ ?_
    refine R_isub hX dX8_isFrontOld_28 ?_
    refine R_iload_2 hX dX8_isFrontOld_29 ?_
    refine R_icmple (tgt := 37) hX dX8_isFrontOld_30 (by decide) ⟨by omega, by omega⟩ ⟨by omega, by omega⟩ (fun c_30 => ?_) (fun c_30 => ?_)
    · skip
      refine R_iconst hX dX8_isFrontOld_37 ?_
      exact R_zret hX (by omega) dX8_isFrontOld_38 (by first | exact ⟨Or.inl ⟨rfl, decide_eq_true ⟨by omega, by omega⟩⟩, rfl⟩ | exact ⟨Or.inr ⟨rfl, fun z => by have := oldF_t z; omega⟩, rfl⟩)
    · skip
      refine R_iconst hX dX8_isFrontOld_33 ?_
      refine R_goto (tgt := 38) hX dX8_isFrontOld_34 (by decide) ?_
      exact R_zret hX (by omega) dX8_isFrontOld_38 (by first | exact ⟨Or.inl ⟨rfl, decide_eq_true ⟨by omega, by omega⟩⟩, rfl⟩ | exact ⟨Or.inr ⟨rfl, fun z => by have := oldF_t z; omega⟩, rfl⟩)
set_option maxRecDepth 100000 in
set_option maxHeartbeats 4000000 in
theorem c_frontDist {V : VX} {T : Shp} {F : Hp} {u b : Int} (hu : isSu u) (hb : isSt b) (hU : SuI u F) (hA : AcI b u F) (hQ : QuI b u F) {leaf : Int} (hl : 0 ≤ leaf ∧ leaf < F u 0) : Ct V yX8_frontDistance cX8_frontDistance 3 (some .int) 2 48 0 0 (SH T) [vr V b, vr V u, vi leaf] F (SH T) 1 (fun r F' => r = dstS b u F leaf ∧ F' = F) := by
  refine Ct.of [some (vr V b), some (vr V u), some (vi leaf)] (by decide) (by simp [lg_sl, vi_cat, vl_cat, vr_cat]) rfl (by simp [asc, lv_args, vi_cat, vl_cat, vr_cat]) (fun X hV hX => ?_)
  subst hV
  have q0 := hU.1
  have q1 := hQ.2.1 leaf hl.1 hl.2
  refine R_aload_0 hX dX8_frontDistance_0 ?_
  refine R_getq (v := b + 8) hX dX8_frontDistance_1 fl_X8_31 (so_0 hb) rfl (by omega) ?_
  refine R_getq (v := b + 9) hX dX8_frontDistance_4 fl_X8_198 (so_8 hb) rfl (by omega) ?_
  refine R_iload_2 hX dX8_frontDistance_7 ?_
  refine R_iald hX dX8_frontDistance_8 (sa_9 hb) ⟨by omega, by omega⟩ ?_
  refine R_ifne (tgt := 15) hX dX8_frontDistance_9 (by decide) ⟨by omega, by omega⟩ (fun c_9 => ?_) (fun c_9 => ?_)
  · skip
    have q2 := (hQ.2.2 leaf hl.1 hl.2 0 (by omega) (by omega)).1
    rw [Int.add_zero] at q2
    refine R_aload_1 hX dX8_frontDistance_15 ?_
    refine R_iload_2 hX dX8_frontDistance_16 ?_
    refine R_aload_0 hX dX8_frontDistance_17 ?_
    refine R_getq (v := b + 4) hX dX8_frontDistance_18 fl_X8_24 (so_0 hb) rfl (by omega) ?_
    refine R_aload_1 hX dX8_frontDistance_21 ?_
    refine R_iload_2 hX dX8_frontDistance_22 ?_
    refine R_aload_0 hX dX8_frontDistance_23 ?_
    refine R_getq (v := b + 8) hX dX8_frontDistance_24 fl_X8_31 (so_0 hb) rfl (by omega) ?_
    refine R_getq (v := b + 11) hX dX8_frontDistance_27 fl_X8_210 (so_8 hb) rfl (by omega) ?_
    refine R_iload_2 hX dX8_frontDistance_30 ?_
    refine R_bipush hX dX8_frontDistance_31 (by decide) ?_
    refine R_imul hX dX8_frontDistance_33 ?_
    refine R_iald hX dX8_frontDistance_34 (sa_11 hb) ⟨by omega, by omega⟩ ?_
    refine R_v3i hX dX8_frontDistance_35 li_X8_213 mk_X0_findLender mi_X0_findLender rfl (so_4 hb) (c_findLender hu hU.1 hb hU.2.1 (fun n q0 q1 => by have k1 := hA n q0 q1; have k2 := hU.2.2.2.2.2.2.1 n q0 q1; omega) hU.2.2.2.2.2.2.2.1 hl (by omega)) ⟨⟨by decide, by decide⟩, by decide, by decide, rfl, Nat.le_of_ble_eq_true rfl, rfl⟩ (fun x_35 F_35 h_35 => ?_)
    obtain ⟨h_35, e_35⟩ := h_35; replace e_35 := e_35.symm; subst e_35
    replace h_35 : x_35 = lndS b u F leaf (F (b + 11) (leaf * 16)) := h_35
    have hr := lndS_rng (b := b) (c := F (b + 11) (leaf * 16)) hU.2.1 hl.2
    refine R_v2i hX dX8_frontDistance_38 li_X8_228 mk_X7_distance mi_X7_distance rfl (to_0 hu) (c_distance hu hU.1 ⟨by omega, by omega⟩ ⟨by omega, by omega⟩) ⟨⟨by decide, by decide⟩, by decide, by decide, rfl, Nat.le_of_ble_eq_true rfl, rfl⟩ (fun x_38 F_38 h_38 => ?_)
    obtain ⟨h_38, e_38⟩ := h_38; replace e_38 := e_38.symm; subst e_38
    exact R_iret hX dX8_frontDistance_41 ⟨by unfold dstS; rw [if_neg c_9]; split <;> rw [h_35] at h_38 <;> omega, rfl⟩
  · skip
    have hr : dstS b u F leaf = -2 := if_pos c_9
    refine R_bipush hX dX8_frontDistance_12 (by decide) ?_
    exact R_iret hX dX8_frontDistance_14 ⟨hr.symm, rfl⟩
set_option maxRecDepth 100000 in
set_option maxHeartbeats 4000000 in
theorem c_precedes {V : VX} {T : Shp} {F : Hp} {u b : Int} (hu : isSu u) (hb : isSt b) (hs : ∀ n : Int, 0 ≤ n → n < F u 0 → (0 ≤ F (b + 14) n ∧ F (b + 14) n ≤ 2000000) ∧ (1 ≤ F (b + 3) n ∧ F (b + 3) n ≤ 9)) (hN : 0 ≤ F u 0 ∧ F u 0 ≤ 12) (hp : ∀ n : Int, 0 ≤ n → n < F u 0 → 0 ≤ F (u + 10) n ∧ F (u + 10) n ≤ 7) {m n : Int} (h1 : 0 ≤ m ∧ m < F u 0) (h2 : 0 ≤ n ∧ n < F u 0) : Ct V yX8_precedes cX8_precedes 4 (some .boolean) 2 49 0 0 (SH T) [vr V b, vr V u, vi m, vi n] F (SH T) 1 (fun r F' => ((r = 1 ∧ precB (F (u + 10)) (F (b + 14)) (F (b + 3)) m n = true) ∨ (r = 0 ∧ ¬ precB (F (u + 10)) (F (b + 14)) (F (b + 3)) m n = true)) ∧ F' = F) := by
  refine Ct.of [some (vr V b), some (vr V u), some (vi m), some (vi n)] (by decide) (by simp [lg_sl, vi_cat, vl_cat, vr_cat]) rfl (by simp [asc, lv_args, vi_cat, vl_cat, vr_cat]) (fun X hV hX => ?_)
  subst hV
  have p1 := hp m h1.1 h1.2
  have p2 := hp n h2.1 h2.2
  refine R_aload_1 hX dX8_precedes_0 ?_
  refine R_getq (v := u + 10) hX dX8_precedes_1 fl_X8_231 (to_0 hu) rfl (by omega) ?_
  refine R_iload_2 hX dX8_precedes_4 ?_
  refine R_iald hX dX8_precedes_5 (ta_10 hu) ⟨by omega, by omega⟩ ?_
  refine R_aload_1 hX dX8_precedes_6 ?_
  refine R_getq (v := u + 10) hX dX8_precedes_7 fl_X8_231 (to_0 hu) rfl (by omega) ?_
  refine R_iload_3 hX dX8_precedes_10 ?_
  refine R_iald hX dX8_precedes_11 (ta_10 hu) ⟨by omega, by omega⟩ ?_
  refine R_icmpeq (tgt := 36) hX dX8_precedes_12 (by decide) ⟨by omega, by omega⟩ ⟨by omega, by omega⟩ (fun c_12 => ?_) (fun c_12 => ?_)
  · skip
    refine R_aload_0 hX dX8_precedes_36 ?_
    refine R_iload_2 hX dX8_precedes_37 ?_
    refine R_iload_3 hX dX8_precedes_38 ?_
    refine R_v2i hX dX8_precedes_39 li_X8_234 mk_X8_compareServed mi_X8_compareServed rfl (so_0 hb) (c_cmpServed hu hN hb hs h1 h2) ⟨⟨by decide, by decide⟩, by decide, by decide, rfl, Nat.le_of_ble_eq_true rfl, rfl⟩ (fun x_39 F_39 h_39 => ?_)
    obtain ⟨h_39, e_39⟩ := h_39; replace e_39 := e_39.symm; subst e_39
    refine R_ifge (tgt := 49) hX dX8_precedes_42 (by decide) ⟨by omega, by omega⟩ (fun c_42 => ?_) (fun c_42 => ?_)
    · skip
      refine R_iconst hX dX8_precedes_49 ?_
      exact R_zret hX (by omega) dX8_precedes_50 (by first | exact ⟨Or.inl ⟨rfl, decide_eq_true (by omega)⟩, rfl⟩ | exact ⟨Or.inr ⟨rfl, fun z => by have := of_decide_eq_true z; omega⟩, rfl⟩)
    · skip
      refine R_iconst hX dX8_precedes_45 ?_
      refine R_goto (tgt := 50) hX dX8_precedes_46 (by decide) ?_
      exact R_zret hX (by omega) dX8_precedes_50 (by first | exact ⟨Or.inl ⟨rfl, decide_eq_true (by omega)⟩, rfl⟩ | exact ⟨Or.inr ⟨rfl, fun z => by have := of_decide_eq_true z; omega⟩, rfl⟩)
  · skip
    refine R_aload_1 hX dX8_precedes_15 ?_
    refine R_getq (v := u + 10) hX dX8_precedes_16 fl_X8_231 (to_0 hu) rfl (by omega) ?_
    refine R_iload_2 hX dX8_precedes_19 ?_
    refine R_iald hX dX8_precedes_20 (ta_10 hu) ⟨by omega, by omega⟩ ?_
    refine R_aload_1 hX dX8_precedes_21 ?_
    refine R_getq (v := u + 10) hX dX8_precedes_22 fl_X8_231 (to_0 hu) rfl (by omega) ?_
    refine R_iload_3 hX dX8_precedes_25 ?_
    refine R_iald hX dX8_precedes_26 (ta_10 hu) ⟨by omega, by omega⟩ ?_
    refine R_icmpge (tgt := 34) hX dX8_precedes_27 (by decide) ⟨by omega, by omega⟩ ⟨by omega, by omega⟩ (fun c_27 => ?_) (fun c_27 => ?_)
    · skip
      refine R_iconst hX dX8_precedes_34 ?_
      exact R_zret hX (by omega) dX8_precedes_35 (by first | exact ⟨Or.inl ⟨rfl, decide_eq_true (by omega)⟩, rfl⟩ | exact ⟨Or.inr ⟨rfl, fun z => by have := of_decide_eq_true z; omega⟩, rfl⟩)
    · skip
      refine R_iconst hX dX8_precedes_30 ?_
      refine R_goto (tgt := 35) hX dX8_precedes_31 (by decide) ?_
      exact R_zret hX (by omega) dX8_precedes_35 (by first | exact ⟨Or.inl ⟨rfl, decide_eq_true (by omega)⟩, rfl⟩ | exact ⟨Or.inr ⟨rfl, fun z => by have := of_decide_eq_true z; omega⟩, rfl⟩)
set_option maxRecDepth 100000 in
set_option maxHeartbeats 4000000 in
theorem c_chooseLeaf {V : VX} {T : Shp} {F : Hp} {u b : Int} (hu : isSu u) (hb : isSt b) (hU : SuI u F) (hA : AcI b u F) (hQ : QuI b u F) {K : Int} (hB : BdS b u K F) (hK : K ≤ 2000000) : Ct V yX8_chooseLeaf cX8_chooseLeaf 7 (some .int) 3 72 0 0 (SH T) [vr V b, vr V u] F (SH T) 1 (fun r F' => r = chlS b u F ∧ F' = F) := by
  refine Ct.of [some (vr V b), some (vr V u), none, none, none, none, none] (by decide) (by simp [lg_sl, vi_cat, vl_cat, vr_cat]) rfl (by simp [asc, lv_args, vi_cat, vl_cat, vr_cat]) (fun X hV hX => ?_)
  subst hV
  have q0 := hU.1
  have hs : ∀ n : Int, 0 ≤ n → n < F u 0 → (0 ≤ F (b + 14) n ∧ F (b + 14) n ≤ 2000000) ∧ (1 ≤ F (b + 3) n ∧ F (b + 3) n ≤ 9) := fun n z0 z1 => by have k1 := hB n z0 z1; have k2 := hA n z0 z1; have k3 := hQ.2.1 n z0 z1; omega
  have hdr := dstS_rng (b := b) hU
  refine R_bipush hX dX8_chooseLeaf_0 (by decide) ?_
  refine R_istore_2 hX c1_r dX8_chooseLeaf_2 ?_
  refine R_bipush hX dX8_chooseLeaf_3 (by decide) ?_
  refine R_istore_3 hX c1_i dX8_chooseLeaf_5 ?_
  refine R_iconst hX dX8_chooseLeaf_6 ?_
  refine R_istore_4 hX c1_i dX8_chooseLeaf_7 ?_
  have lp_9 : ∀ (n : Nat) (best : Int) (bd : Int) (i : Int), (0 ≤ i ∧ i ≤ F u 0) → (best = (choS (dstS b u F) (precB (F (u + 10)) (F (b + 14)) (F (b + 3))) i.toNat).1 ∧ bd = (choS (dstS b u F) (precB (F (u + 10)) (F (b + 14)) (F (b + 3))) i.toNat).2) → (13 - i).toNat < n → R X (SH T) 0 0 9 [some (vr (xV X) b), some (vr (xV X) u), some (vi best), some (vi bd), some (vi i), none, none] [] F (Zq X (SH T) 1 (fun r F' => r = chlS b u F ∧ F' = F) 0 0) := by
    intro n
    induction n with
    | zero => intro best bd i iv9_0 iv9_1 hm; exact absurd hm (Nat.not_lt_zero _)
    | succ n ih_9 =>
      intro best bd i iv9_0 iv9_1 hm_9
      have hc := choS_rng (dist := dstS b u F) (prec := precB (F (u + 10)) (F (b + 14)) (F (b + 3))) i.toNat
      have hcs := choS_s (dist := dstS b u F) (prec := precB (F (u + 10)) (F (b + 14)) (F (b + 3))) iv9_0.1
      have hbd : best = -2 ∨ (0 ≤ best ∧ best < F u 0 ∧ bd = dstS b u F best) := by rw [iv9_1.1, iv9_1.2]; omega
      have hbr : -20 ≤ bd ∧ bd ≤ 20 := by rcases hc with z | z; (rw [iv9_1.2]; omega); (have := hdr (choS (dstS b u F) (precB (F (u + 10)) (F (b + 14)) (F (b + 3))) i.toNat).1 (by omega) (by omega); rw [iv9_1.2]; omega)
      refine R_iload_4 hX dX8_chooseLeaf_9 ?_
      refine R_aload_1 hX dX8_chooseLeaf_11 ?_
      refine R_geti hX dX8_chooseLeaf_12 fl_X8_85 (to_0 hu) rfl ?_
      refine R_icmpge (tgt := 87) hX dX8_chooseLeaf_15 (by decide) ⟨by omega, by omega⟩ ⟨by omega, by omega⟩ (fun c_15 => ?_) (fun c_15 => ?_)
      · skip
        refine R_iload_2 hX dX8_chooseLeaf_87 ?_
        exact R_iret hX dX8_chooseLeaf_88 ⟨by unfold chlS; rw [iv9_1.1, show i = F u 0 by omega], rfl⟩
      · skip
        refine R_aload_0 hX dX8_chooseLeaf_18 ?_
        refine R_aload_1 hX dX8_chooseLeaf_19 ?_
        refine R_iload_4 hX dX8_chooseLeaf_20 ?_
        refine R_v2i hX dX8_chooseLeaf_22 li_X8_220 mk_X8_frontDistance mi_X8_frontDistance rfl (so_0 hb) (c_frontDist hu hb hU hA hQ (by omega)) ⟨⟨by decide, by decide⟩, by decide, by decide, rfl, Nat.le_of_ble_eq_true rfl, rfl⟩ (fun x_22 F_22 h_22 => ?_)
        obtain ⟨h_22, e_22⟩ := h_22; replace e_22 := e_22.symm; subst e_22
        have hd2 := hdr i (by omega) (by omega)
        refine R_istore_5 hX c1_i dX8_chooseLeaf_25 ?_
        refine R_iload_2 hX dX8_chooseLeaf_27 ?_
        refine R_bipush hX dX8_chooseLeaf_28 (by decide) ?_
        refine R_icmpeq (tgt := 39) hX dX8_chooseLeaf_30 (by decide) ⟨by omega, by omega⟩ ⟨by omega, by omega⟩ (fun c_30 => ?_) (fun c_30 => ?_)
        · skip
          refine R_iconst hX dX8_chooseLeaf_39 ?_
          refine R_goto (tgt := 44) hX dX8_chooseLeaf_40 (by decide) ?_
          refine R_istore_6 hX c1_i dX8_chooseLeaf_44 ?_
          refine R_iload_5 hX dX8_chooseLeaf_46 ?_
          refine R_bipush hX dX8_chooseLeaf_48 (by decide) ?_
          refine R_icmpeq (tgt := 81) hX dX8_chooseLeaf_50 (by decide) ⟨by omega, by omega⟩ ⟨by omega, by omega⟩ (fun c_50 => ?_) (fun c_50 => ?_)
          · skip
            refine R_iinc_4 hX c1_i dX8_chooseLeaf_81 ?_
            refine R_goto (tgt := 9) hX dX8_chooseLeaf_84 (by decide) ?_
            refine R_drop_5 ?_
            refine R_drop_6 ?_
            exact ih_9 _ _ _ (by omega) (by rw [hcs, ← iv9_1.1, ← iv9_1.2]; first | (rw [if_pos (by omega)]; exact ⟨rfl, by omega⟩) | (rw [if_neg (by omega)]; exact iv9_1) | (rw [if_pos ⟨by omega, Or.inr (Or.inr ⟨by omega, h_69.elim (fun z => z.2) (fun z => absurd z.1 c_72)⟩)⟩]; exact ⟨rfl, by omega⟩) | (rw [if_neg (fun q => h_69.elim (fun z => absurd (z.1.symm.trans c_72) (by decide)) (fun z => z.2 (by rcases q.2 with w | w | w <;> first | omega | exact w.2)))]; exact iv9_1)) (by omega)
          · skip
            refine R_iload_6 hX dX8_chooseLeaf_53 ?_
            refine R_ifne (tgt := 75) hX dX8_chooseLeaf_55 (by decide) ⟨by omega, by omega⟩ (fun c_55 => ?_) (fun c_55 => ?_)
            · skip
              refine R_iload_4 hX dX8_chooseLeaf_75 ?_
              refine R_istore_2 hX c1_r dX8_chooseLeaf_77 ?_
              refine R_iload_5 hX dX8_chooseLeaf_78 ?_
              refine R_istore_3 hX c1_i dX8_chooseLeaf_80 ?_
              refine R_iinc_4 hX c1_i dX8_chooseLeaf_81 ?_
              refine R_goto (tgt := 9) hX dX8_chooseLeaf_84 (by decide) ?_
              refine R_drop_5 ?_
              refine R_drop_6 ?_
              exact ih_9 _ _ _ (by omega) (by rw [hcs, ← iv9_1.1, ← iv9_1.2]; first | (rw [if_pos (by omega)]; exact ⟨rfl, by omega⟩) | (rw [if_neg (by omega)]; exact iv9_1) | (rw [if_pos ⟨by omega, Or.inr (Or.inr ⟨by omega, h_69.elim (fun z => z.2) (fun z => absurd z.1 c_72)⟩)⟩]; exact ⟨rfl, by omega⟩) | (rw [if_neg (fun q => h_69.elim (fun z => absurd (z.1.symm.trans c_72) (by decide)) (fun z => z.2 (by rcases q.2 with w | w | w <;> first | omega | exact w.2)))]; exact iv9_1)) (by omega)
            · skip
              refine R_iload_5 hX dX8_chooseLeaf_58 ?_
              refine R_iload_3 hX dX8_chooseLeaf_60 ?_
              refine R_icmpne (tgt := 81) hX dX8_chooseLeaf_61 (by decide) ⟨by omega, by omega⟩ ⟨by omega, by omega⟩ (fun c_61 => ?_) (fun c_61 => ?_)
              · skip
                refine R_iinc_4 hX c1_i dX8_chooseLeaf_81 ?_
                refine R_goto (tgt := 9) hX dX8_chooseLeaf_84 (by decide) ?_
                refine R_drop_5 ?_
                refine R_drop_6 ?_
                exact ih_9 _ _ _ (by omega) (by rw [hcs, ← iv9_1.1, ← iv9_1.2]; first | (rw [if_pos (by omega)]; exact ⟨rfl, by omega⟩) | (rw [if_neg (by omega)]; exact iv9_1) | (rw [if_pos ⟨by omega, Or.inr (Or.inr ⟨by omega, h_69.elim (fun z => z.2) (fun z => absurd z.1 c_72)⟩)⟩]; exact ⟨rfl, by omega⟩) | (rw [if_neg (fun q => h_69.elim (fun z => absurd (z.1.symm.trans c_72) (by decide)) (fun z => z.2 (by rcases q.2 with w | w | w <;> first | omega | exact w.2)))]; exact iv9_1)) (by omega)
              · skip
                refine R_aload_0 hX dX8_chooseLeaf_64 ?_
                refine R_aload_1 hX dX8_chooseLeaf_65 ?_
                refine R_iload_4 hX dX8_chooseLeaf_66 ?_
                refine R_iload_2 hX dX8_chooseLeaf_68 ?_
                refine R_v3i hX dX8_chooseLeaf_69 li_X8_224 mk_X8_precedes mi_X8_precedes rfl (so_0 hb) (c_precedes hu hb hs hU.1 (fun n z0 z1 => by have k2 := hU.2.2.2.2.2.2.1 n z0 z1; omega) (by omega) (by omega)) ⟨⟨by decide, by decide⟩, by decide, by decide, rfl, Nat.le_of_ble_eq_true rfl, rfl⟩ (fun x_69 F_69 h_69 => ?_)
                obtain ⟨h_69, e_69⟩ := h_69; replace e_69 := e_69.symm; subst e_69
                refine R_ifeq (tgt := 81) hX dX8_chooseLeaf_72 (by decide) ⟨by omega, by omega⟩ (fun c_72 => ?_) (fun c_72 => ?_)
                · skip
                  refine R_iinc_4 hX c1_i dX8_chooseLeaf_81 ?_
                  refine R_goto (tgt := 9) hX dX8_chooseLeaf_84 (by decide) ?_
                  refine R_drop_5 ?_
                  refine R_drop_6 ?_
                  exact ih_9 _ _ _ (by omega) (by rw [hcs, ← iv9_1.1, ← iv9_1.2]; first | (rw [if_pos (by omega)]; exact ⟨rfl, by omega⟩) | (rw [if_neg (by omega)]; exact iv9_1) | (rw [if_pos ⟨by omega, Or.inr (Or.inr ⟨by omega, h_69.elim (fun z => z.2) (fun z => absurd z.1 c_72)⟩)⟩]; exact ⟨rfl, by omega⟩) | (rw [if_neg (fun q => h_69.elim (fun z => absurd (z.1.symm.trans c_72) (by decide)) (fun z => z.2 (by rcases q.2 with w | w | w <;> first | omega | exact w.2)))]; exact iv9_1)) (by omega)
                · skip
                  refine R_iload_4 hX dX8_chooseLeaf_75 ?_
                  refine R_istore_2 hX c1_r dX8_chooseLeaf_77 ?_
                  refine R_iload_5 hX dX8_chooseLeaf_78 ?_
                  refine R_istore_3 hX c1_i dX8_chooseLeaf_80 ?_
                  refine R_iinc_4 hX c1_i dX8_chooseLeaf_81 ?_
                  refine R_goto (tgt := 9) hX dX8_chooseLeaf_84 (by decide) ?_
                  refine R_drop_5 ?_
                  refine R_drop_6 ?_
                  exact ih_9 _ _ _ (by omega) (by rw [hcs, ← iv9_1.1, ← iv9_1.2]; first | (rw [if_pos (by omega)]; exact ⟨rfl, by omega⟩) | (rw [if_neg (by omega)]; exact iv9_1) | (rw [if_pos ⟨by omega, Or.inr (Or.inr ⟨by omega, h_69.elim (fun z => z.2) (fun z => absurd z.1 c_72)⟩)⟩]; exact ⟨rfl, by omega⟩) | (rw [if_neg (fun q => h_69.elim (fun z => absurd (z.1.symm.trans c_72) (by decide)) (fun z => z.2 (by rcases q.2 with w | w | w <;> first | omega | exact w.2)))]; exact iv9_1)) (by omega)
        · skip
          refine R_iload_5 hX dX8_chooseLeaf_33 ?_
          refine R_iload_3 hX dX8_chooseLeaf_35 ?_
          refine R_icmpge (tgt := 43) hX dX8_chooseLeaf_36 (by decide) ⟨by omega, by omega⟩ ⟨by omega, by omega⟩ (fun c_36 => ?_) (fun c_36 => ?_)
          · skip
            refine R_iconst hX dX8_chooseLeaf_43 ?_
            refine R_istore_6 hX c1_i dX8_chooseLeaf_44 ?_
            refine R_iload_5 hX dX8_chooseLeaf_46 ?_
            refine R_bipush hX dX8_chooseLeaf_48 (by decide) ?_
            refine R_icmpeq (tgt := 81) hX dX8_chooseLeaf_50 (by decide) ⟨by omega, by omega⟩ ⟨by omega, by omega⟩ (fun c_50 => ?_) (fun c_50 => ?_)
            · skip
              refine R_iinc_4 hX c1_i dX8_chooseLeaf_81 ?_
              refine R_goto (tgt := 9) hX dX8_chooseLeaf_84 (by decide) ?_
              refine R_drop_5 ?_
              refine R_drop_6 ?_
              exact ih_9 _ _ _ (by omega) (by rw [hcs, ← iv9_1.1, ← iv9_1.2]; first | (rw [if_pos (by omega)]; exact ⟨rfl, by omega⟩) | (rw [if_neg (by omega)]; exact iv9_1) | (rw [if_pos ⟨by omega, Or.inr (Or.inr ⟨by omega, h_69.elim (fun z => z.2) (fun z => absurd z.1 c_72)⟩)⟩]; exact ⟨rfl, by omega⟩) | (rw [if_neg (fun q => h_69.elim (fun z => absurd (z.1.symm.trans c_72) (by decide)) (fun z => z.2 (by rcases q.2 with w | w | w <;> first | omega | exact w.2)))]; exact iv9_1)) (by omega)
            · skip
              refine R_iload_6 hX dX8_chooseLeaf_53 ?_
              refine R_ifne (tgt := 75) hX dX8_chooseLeaf_55 (by decide) ⟨by omega, by omega⟩ (fun c_55 => ?_) (fun c_55 => ?_)
              · skip
                refine R_iload_4 hX dX8_chooseLeaf_75 ?_
                refine R_istore_2 hX c1_r dX8_chooseLeaf_77 ?_
                refine R_iload_5 hX dX8_chooseLeaf_78 ?_
                refine R_istore_3 hX c1_i dX8_chooseLeaf_80 ?_
                refine R_iinc_4 hX c1_i dX8_chooseLeaf_81 ?_
                refine R_goto (tgt := 9) hX dX8_chooseLeaf_84 (by decide) ?_
                refine R_drop_5 ?_
                refine R_drop_6 ?_
                exact ih_9 _ _ _ (by omega) (by rw [hcs, ← iv9_1.1, ← iv9_1.2]; first | (rw [if_pos (by omega)]; exact ⟨rfl, by omega⟩) | (rw [if_neg (by omega)]; exact iv9_1) | (rw [if_pos ⟨by omega, Or.inr (Or.inr ⟨by omega, h_69.elim (fun z => z.2) (fun z => absurd z.1 c_72)⟩)⟩]; exact ⟨rfl, by omega⟩) | (rw [if_neg (fun q => h_69.elim (fun z => absurd (z.1.symm.trans c_72) (by decide)) (fun z => z.2 (by rcases q.2 with w | w | w <;> first | omega | exact w.2)))]; exact iv9_1)) (by omega)
              · skip
                refine R_iload_5 hX dX8_chooseLeaf_58 ?_
                refine R_iload_3 hX dX8_chooseLeaf_60 ?_
                refine R_icmpne (tgt := 81) hX dX8_chooseLeaf_61 (by decide) ⟨by omega, by omega⟩ ⟨by omega, by omega⟩ (fun c_61 => ?_) (fun c_61 => ?_)
                · skip
                  refine R_iinc_4 hX c1_i dX8_chooseLeaf_81 ?_
                  refine R_goto (tgt := 9) hX dX8_chooseLeaf_84 (by decide) ?_
                  refine R_drop_5 ?_
                  refine R_drop_6 ?_
                  exact ih_9 _ _ _ (by omega) (by rw [hcs, ← iv9_1.1, ← iv9_1.2]; first | (rw [if_pos (by omega)]; exact ⟨rfl, by omega⟩) | (rw [if_neg (by omega)]; exact iv9_1) | (rw [if_pos ⟨by omega, Or.inr (Or.inr ⟨by omega, h_69.elim (fun z => z.2) (fun z => absurd z.1 c_72)⟩)⟩]; exact ⟨rfl, by omega⟩) | (rw [if_neg (fun q => h_69.elim (fun z => absurd (z.1.symm.trans c_72) (by decide)) (fun z => z.2 (by rcases q.2 with w | w | w <;> first | omega | exact w.2)))]; exact iv9_1)) (by omega)
                · skip
                  refine R_aload_0 hX dX8_chooseLeaf_64 ?_
                  refine R_aload_1 hX dX8_chooseLeaf_65 ?_
                  refine R_iload_4 hX dX8_chooseLeaf_66 ?_
                  refine R_iload_2 hX dX8_chooseLeaf_68 ?_
                  refine R_v3i hX dX8_chooseLeaf_69 li_X8_224 mk_X8_precedes mi_X8_precedes rfl (so_0 hb) (c_precedes hu hb hs hU.1 (fun n z0 z1 => by have k2 := hU.2.2.2.2.2.2.1 n z0 z1; omega) (by omega) (by omega)) ⟨⟨by decide, by decide⟩, by decide, by decide, rfl, Nat.le_of_ble_eq_true rfl, rfl⟩ (fun x_69 F_69 h_69 => ?_)
                  obtain ⟨h_69, e_69⟩ := h_69; replace e_69 := e_69.symm; subst e_69
                  refine R_ifeq (tgt := 81) hX dX8_chooseLeaf_72 (by decide) ⟨by omega, by omega⟩ (fun c_72 => ?_) (fun c_72 => ?_)
                  · skip
                    refine R_iinc_4 hX c1_i dX8_chooseLeaf_81 ?_
                    refine R_goto (tgt := 9) hX dX8_chooseLeaf_84 (by decide) ?_
                    refine R_drop_5 ?_
                    refine R_drop_6 ?_
                    exact ih_9 _ _ _ (by omega) (by rw [hcs, ← iv9_1.1, ← iv9_1.2]; first | (rw [if_pos (by omega)]; exact ⟨rfl, by omega⟩) | (rw [if_neg (by omega)]; exact iv9_1) | (rw [if_pos ⟨by omega, Or.inr (Or.inr ⟨by omega, h_69.elim (fun z => z.2) (fun z => absurd z.1 c_72)⟩)⟩]; exact ⟨rfl, by omega⟩) | (rw [if_neg (fun q => h_69.elim (fun z => absurd (z.1.symm.trans c_72) (by decide)) (fun z => z.2 (by rcases q.2 with w | w | w <;> first | omega | exact w.2)))]; exact iv9_1)) (by omega)
                  · skip
                    refine R_iload_4 hX dX8_chooseLeaf_75 ?_
                    refine R_istore_2 hX c1_r dX8_chooseLeaf_77 ?_
                    refine R_iload_5 hX dX8_chooseLeaf_78 ?_
                    refine R_istore_3 hX c1_i dX8_chooseLeaf_80 ?_
                    refine R_iinc_4 hX c1_i dX8_chooseLeaf_81 ?_
                    refine R_goto (tgt := 9) hX dX8_chooseLeaf_84 (by decide) ?_
                    refine R_drop_5 ?_
                    refine R_drop_6 ?_
                    exact ih_9 _ _ _ (by omega) (by rw [hcs, ← iv9_1.1, ← iv9_1.2]; first | (rw [if_pos (by omega)]; exact ⟨rfl, by omega⟩) | (rw [if_neg (by omega)]; exact iv9_1) | (rw [if_pos ⟨by omega, Or.inr (Or.inr ⟨by omega, h_69.elim (fun z => z.2) (fun z => absurd z.1 c_72)⟩)⟩]; exact ⟨rfl, by omega⟩) | (rw [if_neg (fun q => h_69.elim (fun z => absurd (z.1.symm.trans c_72) (by decide)) (fun z => z.2 (by rcases q.2 with w | w | w <;> first | omega | exact w.2)))]; exact iv9_1)) (by omega)
          · skip
            refine R_iconst hX dX8_chooseLeaf_39 ?_
            refine R_goto (tgt := 44) hX dX8_chooseLeaf_40 (by decide) ?_
            refine R_istore_6 hX c1_i dX8_chooseLeaf_44 ?_
            refine R_iload_5 hX dX8_chooseLeaf_46 ?_
            refine R_bipush hX dX8_chooseLeaf_48 (by decide) ?_
            refine R_icmpeq (tgt := 81) hX dX8_chooseLeaf_50 (by decide) ⟨by omega, by omega⟩ ⟨by omega, by omega⟩ (fun c_50 => ?_) (fun c_50 => ?_)
            · skip
              refine R_iinc_4 hX c1_i dX8_chooseLeaf_81 ?_
              refine R_goto (tgt := 9) hX dX8_chooseLeaf_84 (by decide) ?_
              refine R_drop_5 ?_
              refine R_drop_6 ?_
              exact ih_9 _ _ _ (by omega) (by rw [hcs, ← iv9_1.1, ← iv9_1.2]; first | (rw [if_pos (by omega)]; exact ⟨rfl, by omega⟩) | (rw [if_neg (by omega)]; exact iv9_1) | (rw [if_pos ⟨by omega, Or.inr (Or.inr ⟨by omega, h_69.elim (fun z => z.2) (fun z => absurd z.1 c_72)⟩)⟩]; exact ⟨rfl, by omega⟩) | (rw [if_neg (fun q => h_69.elim (fun z => absurd (z.1.symm.trans c_72) (by decide)) (fun z => z.2 (by rcases q.2 with w | w | w <;> first | omega | exact w.2)))]; exact iv9_1)) (by omega)
            · skip
              refine R_iload_6 hX dX8_chooseLeaf_53 ?_
              refine R_ifne (tgt := 75) hX dX8_chooseLeaf_55 (by decide) ⟨by omega, by omega⟩ (fun c_55 => ?_) (fun c_55 => ?_)
              · skip
                refine R_iload_4 hX dX8_chooseLeaf_75 ?_
                refine R_istore_2 hX c1_r dX8_chooseLeaf_77 ?_
                refine R_iload_5 hX dX8_chooseLeaf_78 ?_
                refine R_istore_3 hX c1_i dX8_chooseLeaf_80 ?_
                refine R_iinc_4 hX c1_i dX8_chooseLeaf_81 ?_
                refine R_goto (tgt := 9) hX dX8_chooseLeaf_84 (by decide) ?_
                refine R_drop_5 ?_
                refine R_drop_6 ?_
                exact ih_9 _ _ _ (by omega) (by rw [hcs, ← iv9_1.1, ← iv9_1.2]; first | (rw [if_pos (by omega)]; exact ⟨rfl, by omega⟩) | (rw [if_neg (by omega)]; exact iv9_1) | (rw [if_pos ⟨by omega, Or.inr (Or.inr ⟨by omega, h_69.elim (fun z => z.2) (fun z => absurd z.1 c_72)⟩)⟩]; exact ⟨rfl, by omega⟩) | (rw [if_neg (fun q => h_69.elim (fun z => absurd (z.1.symm.trans c_72) (by decide)) (fun z => z.2 (by rcases q.2 with w | w | w <;> first | omega | exact w.2)))]; exact iv9_1)) (by omega)
              · skip
                refine R_iload_5 hX dX8_chooseLeaf_58 ?_
                refine R_iload_3 hX dX8_chooseLeaf_60 ?_
                refine R_icmpne (tgt := 81) hX dX8_chooseLeaf_61 (by decide) ⟨by omega, by omega⟩ ⟨by omega, by omega⟩ (fun c_61 => ?_) (fun c_61 => ?_)
                · skip
                  refine R_iinc_4 hX c1_i dX8_chooseLeaf_81 ?_
                  refine R_goto (tgt := 9) hX dX8_chooseLeaf_84 (by decide) ?_
                  refine R_drop_5 ?_
                  refine R_drop_6 ?_
                  exact ih_9 _ _ _ (by omega) (by rw [hcs, ← iv9_1.1, ← iv9_1.2]; first | (rw [if_pos (by omega)]; exact ⟨rfl, by omega⟩) | (rw [if_neg (by omega)]; exact iv9_1) | (rw [if_pos ⟨by omega, Or.inr (Or.inr ⟨by omega, h_69.elim (fun z => z.2) (fun z => absurd z.1 c_72)⟩)⟩]; exact ⟨rfl, by omega⟩) | (rw [if_neg (fun q => h_69.elim (fun z => absurd (z.1.symm.trans c_72) (by decide)) (fun z => z.2 (by rcases q.2 with w | w | w <;> first | omega | exact w.2)))]; exact iv9_1)) (by omega)
                · skip
                  refine R_aload_0 hX dX8_chooseLeaf_64 ?_
                  refine R_aload_1 hX dX8_chooseLeaf_65 ?_
                  refine R_iload_4 hX dX8_chooseLeaf_66 ?_
                  refine R_iload_2 hX dX8_chooseLeaf_68 ?_
                  refine R_v3i hX dX8_chooseLeaf_69 li_X8_224 mk_X8_precedes mi_X8_precedes rfl (so_0 hb) (c_precedes hu hb hs hU.1 (fun n z0 z1 => by have k2 := hU.2.2.2.2.2.2.1 n z0 z1; omega) (by omega) (by omega)) ⟨⟨by decide, by decide⟩, by decide, by decide, rfl, Nat.le_of_ble_eq_true rfl, rfl⟩ (fun x_69 F_69 h_69 => ?_)
                  obtain ⟨h_69, e_69⟩ := h_69; replace e_69 := e_69.symm; subst e_69
                  refine R_ifeq (tgt := 81) hX dX8_chooseLeaf_72 (by decide) ⟨by omega, by omega⟩ (fun c_72 => ?_) (fun c_72 => ?_)
                  · skip
                    refine R_iinc_4 hX c1_i dX8_chooseLeaf_81 ?_
                    refine R_goto (tgt := 9) hX dX8_chooseLeaf_84 (by decide) ?_
                    refine R_drop_5 ?_
                    refine R_drop_6 ?_
                    exact ih_9 _ _ _ (by omega) (by rw [hcs, ← iv9_1.1, ← iv9_1.2]; first | (rw [if_pos (by omega)]; exact ⟨rfl, by omega⟩) | (rw [if_neg (by omega)]; exact iv9_1) | (rw [if_pos ⟨by omega, Or.inr (Or.inr ⟨by omega, h_69.elim (fun z => z.2) (fun z => absurd z.1 c_72)⟩)⟩]; exact ⟨rfl, by omega⟩) | (rw [if_neg (fun q => h_69.elim (fun z => absurd (z.1.symm.trans c_72) (by decide)) (fun z => z.2 (by rcases q.2 with w | w | w <;> first | omega | exact w.2)))]; exact iv9_1)) (by omega)
                  · skip
                    refine R_iload_4 hX dX8_chooseLeaf_75 ?_
                    refine R_istore_2 hX c1_r dX8_chooseLeaf_77 ?_
                    refine R_iload_5 hX dX8_chooseLeaf_78 ?_
                    refine R_istore_3 hX c1_i dX8_chooseLeaf_80 ?_
                    refine R_iinc_4 hX c1_i dX8_chooseLeaf_81 ?_
                    refine R_goto (tgt := 9) hX dX8_chooseLeaf_84 (by decide) ?_
                    refine R_drop_5 ?_
                    refine R_drop_6 ?_
                    exact ih_9 _ _ _ (by omega) (by rw [hcs, ← iv9_1.1, ← iv9_1.2]; first | (rw [if_pos (by omega)]; exact ⟨rfl, by omega⟩) | (rw [if_neg (by omega)]; exact iv9_1) | (rw [if_pos ⟨by omega, Or.inr (Or.inr ⟨by omega, h_69.elim (fun z => z.2) (fun z => absurd z.1 c_72)⟩)⟩]; exact ⟨rfl, by omega⟩) | (rw [if_neg (fun q => h_69.elim (fun z => absurd (z.1.symm.trans c_72) (by decide)) (fun z => z.2 (by rcases q.2 with w | w | w <;> first | omega | exact w.2)))]; exact iv9_1)) (by omega)
  exact lp_9 14 _ _ _ (by omega) ⟨rfl, rfl⟩ (by omega)
