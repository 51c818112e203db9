set_option maxRecDepth 100000 in
set_option maxHeartbeats 4000000 in
theorem c_copyRow {V : VX} {T : Shp} {F : Hp} {a t nn : Int} {n : Nat} (ha : isA (SH T) a .int n) (ht : isA (SH T) t .int n) (hn : (n : Int) = nn) : Ct V yX11_copyRow cX11_copyRow 2 none 1 60 0 0 (SH T) [vr V a, vr V t] F (SH T) 0 (fun r F' => F' = cpy F a 0 t 0 nn) := by
  refine Ct.of [some (vr V a), some (vr V t)] (by decide) (by simp [lg_sl, vi_cat, vl_cat, vr_cat]) rfl (by simp [asc, lv_args, vi_cat, vl_cat, vr_cat]) (fun X hV hX => ?_)
  subst hV
  have hn1 := ha.2.2
  have hn2 := ht.2.2
  refine R_aload_0 hX dX11_copyRow_0 ?_
  refine R_iconst hX dX11_copyRow_1 ?_
  refine R_aload_1 hX dX11_copyRow_2 ?_
  refine R_iconst hX dX11_copyRow_3 ?_
  refine R_aload_0 hX dX11_copyRow_4 ?_
  refine R_alen hX (Or.inl rfl) dX11_copyRow_5 ha ?_
  refine R_aload_1 hX dX11_copyRow_6 ?_
  refine R_alen hX (Or.inl rfl) dX11_copyRow_7 ht ?_
  refine R_mmin hX dX11_copyRow_8 mm_X11_235 mm_s_min in_java_lang_Math mm_c_min ⟨by omega, by omega⟩ ⟨by omega, by omega⟩ ⟨by decide, by decide, by decide, by decide⟩ rfl (Nat.le_of_ble_eq_true rfl) ?_
  rw [show min (n : Int) (n : Int) = nn by omega]
  refine R_acopy hX dX11_copyRow_11 ay_X11_322 ay_n ay_s in_java_lang_System ha ht (by omega) (by omega) (by omega) (by omega) (by omega) ⟨by decide, by decide⟩ rfl (Nat.le_of_ble_eq_true rfl) ?_
  exact R_vret hX dX11_copyRow_14 rfl
set_option maxRecDepth 100000 in
set_option maxHeartbeats 4000000 in
theorem c_clearRow {V : VX} {T : Shp} {F : Hp} {t nn : Int} {m : Nat} (ht : isA (SH T) t .int m) (hn : (m : Int) = nn) : Ct V yX11_clearRow cX11_clearRow 2 none 0 0 0 0 (SH T) [vr V t] F (SH T) 0 (fun r F' => F' = fillz F t nn) := by
  refine Ct.of [some (vr V t), none] (by decide) (by simp [lg_sl, vi_cat, vl_cat, vr_cat]) rfl (by simp [asc, lv_args, vi_cat, vl_cat, vr_cat]) (fun X hV hX => ?_)
  subst hV
  have hn2 := ht.2.2
  refine R_iconst hX dX11_clearRow_0 ?_
  refine R_istore_1 hX c1_r dX11_clearRow_1 ?_
  have lp_2 : ∀ (n : Nat) (i : Int), (0 ≤ i ∧ i ≤ m) → ((m : Int) - i).toNat < n → R X (SH T) 0 0 2 [some (vr (xV X) t), some (vi i)] [] (fillz F t i) (Zq X (SH T) 0 (fun r F' => F' = fillz F t nn) 0 0) := by
    intro n
    induction n with
    | zero => intro i iv2_0 hm; exact absurd hm (Nat.not_lt_zero _)
    | succ n ih_2 =>
      intro i iv2_0 hm_2
      refine R_iload_1 hX dX11_clearRow_2 ?_
      refine R_aload_0 hX dX11_clearRow_3 ?_
      refine R_alen hX (Or.inl rfl) dX11_clearRow_4 ht ?_
      refine R_icmpge (tgt := 18) hX dX11_clearRow_5 (by decide) ⟨by omega, by omega⟩ ⟨by omega, by omega⟩ (fun c_5 => ?_) (fun c_5 => ?_)
      · skip
        exact R_vret hX dX11_clearRow_18 (by show fillz F t i = _; rw [show i = nn by omega])
      · skip
        refine R_aload_0 hX dX11_clearRow_8 ?_
        refine R_iload_1 hX dX11_clearRow_9 ?_
        refine R_iconst hX dX11_clearRow_10 ?_
        refine R_iast hX dX11_clearRow_11 ht ⟨by omega, by omega⟩ ?_
        rw [fillz_up (by omega)]
        refine R_iinc_1 hX c1_r dX11_clearRow_12 ?_
        refine R_goto (tgt := 2) hX dX11_clearRow_15 (by decide) ?_
        exact ih_2 _ (by omega) (by omega)
  refine R.eq rfl rfl (fillz_0 (t := t)).symm ?_
  exact lp_2 (m + 1) _ (by omega) (by omega)
set_option maxRecDepth 100000 in
set_option maxHeartbeats 4000000 in
theorem c_quotient {V : VX} {T : Shp} {F : Hp} {x y : Int} (hx : I64 x) (hy : I64 y) : Ct V yX11_quotient cX11_quotient 4 (some .long) 0 0 0 0 (SH T) [vl x, vl y] F (SH T) 2 (fun r F' => r = (if y = 0 then 0 else x.tdiv y) ∧ F' = F) := by
  refine Ct.of [some (vl x), none, some (vl y), none] (by decide) (by simp [lg_sl, vi_cat, vl_cat, vr_cat]) rfl (by simp [asc, lv_args, vi_cat, vl_cat, vr_cat]) (fun X hV hX => ?_)
  subst hV
  refine R_lload_2 hX dX11_quotient_0 ?_
  refine R_lconst0 hX dX11_quotient_1 ?_
  refine R_lcmp hX ⟨by omega, by omega⟩ ⟨by omega, by omega⟩ dX11_quotient_2 ?_
  refine R_ifne (tgt := 10) hX dX11_quotient_3 (by decide) (by unfold lc; split <;> (try split) <;> constructor <;> omega) (fun c_3 => ?_) (fun c_3 => ?_)
  · skip
    have hy0 : ¬ y = 0 := by unfold lc at c_3; split at c_3 <;> (try split at c_3) <;> omega
    refine R_lload_0 hX dX11_quotient_10 ?_
    refine R_lload_2 hX dX11_quotient_11 ?_
    refine R_ldiv hX ⟨by omega, by omega⟩ ⟨by omega, by omega⟩ (by omega) dX11_quotient_12 ?_
    exact R_lret hX dX11_quotient_13 ⟨by first | rw [if_pos hy0] | rw [if_neg hy0], rfl⟩
  · skip
    have hy0 : y = 0 := by unfold lc at c_3; split at c_3 <;> (try split at c_3) <;> omega
    refine R_lconst0 hX dX11_quotient_6 ?_
    refine R_goto (tgt := 13) hX dX11_quotient_7 (by decide) ?_
    exact R_lret hX dX11_quotient_13 ⟨by first | rw [if_pos hy0] | rw [if_neg hy0], rfl⟩
set_option maxRecDepth 100000 in
set_option maxHeartbeats 4000000 in
theorem c_clear {V : VX} {T : Shp} {F : Hp} {u : Int} (hu : isSu u) : Ct V yX7_clear cX7_clear 1 none 0 0 0 0 (SH T) [vr V u] F (SH T) 0 (fun r F' => F' = up (up (up (up F u 0 0) (u + 12) 0 0) u 13 10) u 14 (-1)) := by
  refine Ct.of [some (vr V u)] (by decide) (by simp [lg_sl, vi_cat, vl_cat, vr_cat]) rfl (by simp [asc, lv_args, vi_cat, vl_cat, vr_cat]) (fun X hV hX => ?_)
  subst hV
  refine R_aload_0 hX dX7_clear_0 ?_
  refine R_iconst hX dX7_clear_1 ?_
  refine R_puti hX dX7_clear_2 fl_X7_61 (to_0 hu) rfl ?_
  refine R_aload_0 hX dX7_clear_5 ?_
  refine R_getq (v := u + 12) hX dX7_clear_6 fl_X7_50 (to_0 hu) rfl (by omega) ?_
  refine R_iconst hX dX7_clear_9 ?_
  refine R_puti hX dX7_clear_10 fl_X7_64 (to_12 hu) rfl ?_
  refine R_aload_0 hX dX7_clear_13 ?_
  refine R_bipush hX dX7_clear_14 (by decide) ?_
  refine R_puti hX dX7_clear_16 fl_X7_54 (to_0 hu) rfl ?_
  refine R_aload_0 hX dX7_clear_19 ?_
  refine R_iconst hX dX7_clear_20 ?_
  refine R_puti hX dX7_clear_21 fl_X7_58 (to_0 hu) rfl ?_
  exact R_vret hX dX7_clear_24 rfl
set_option maxRecDepth 100000 in
set_option maxHeartbeats 4000000 in
theorem c_findNode {V : VX} {T : Shp} {F : Hp} {u : Int} (hu : isSu u) (hN : 0 ≤ F u 0 ∧ F u 0 ≤ 12) (hW : ∀ n : Int, 0 ≤ n → n < F u 0 → I64 (F (u + 1) n)) {w : Int} (hw : I64 w) : Ct V yX7_findNode cX7_findNode 4 (some .int) 0 0 0 0 (SH T) [vr V u, vl w] F (SH T) 1 (fun r F' => ((r = -2 ∧ ∀ n : Int, 0 ≤ n → n < F u 0 → F (u + 1) n ≠ w) ∨ (0 ≤ r ∧ r < F u 0 ∧ F (u + 1) r = w ∧ ∀ n : Int, 0 ≤ n → n < r → F (u + 1) n ≠ w)) ∧ F' = F) := by
  refine Ct.of [some (vr V u), some (vl w), none, none] (by decide) (by simp [lg_sl, vi_cat, vl_cat, vr_cat]) rfl (by simp [asc, lv_args, vi_cat, vl_cat, vr_cat]) (fun X hV hX => ?_)
  subst hV
  refine R_iconst hX dX7_findNode_0 ?_
  refine R_istore_3 hX c1_n dX7_findNode_1 ?_
  have lp_2 : ∀ (n : Nat) (i : Int), (0 ≤ i ∧ i ≤ F u 0) → (∀ n : Int, 0 ≤ n → n < i → F (u + 1) n ≠ w) → (13 - i).toNat < n → R X (SH T) 0 0 2 [some (vr (xV X) u), some (vl w), none, some (vi i)] [] F (Zq X (SH T) 1 (fun r F' => ((r = -2 ∧ ∀ n : Int, 0 ≤ n → n < F u 0 → F (u + 1) n ≠ w) ∨ (0 ≤ r ∧ r < F u 0 ∧ F (u + 1) r = w ∧ ∀ n : Int, 0 ≤ n → n < r → F (u + 1) n ≠ w)) ∧ F' = F) 0 0) := by
    intro n
    induction n with
    | zero => intro i iv2_0 iv2_1 hm; exact absurd hm (Nat.not_lt_zero _)
    | succ n ih_2 =>
      intro i iv2_0 iv2_1 hm_2
      refine R_iload_3 hX dX7_findNode_2 ?_
      refine R_aload_0 hX dX7_findNode_3 ?_
      refine R_geti hX dX7_findNode_4 fl_X7_61 (to_0 hu) rfl ?_
      refine R_icmpge (tgt := 29) hX dX7_findNode_7 (by decide) ⟨by omega, by omega⟩ ⟨by omega, by omega⟩ (fun c_7 => ?_) (fun c_7 => ?_)
      · skip
        refine R_bipush hX dX7_findNode_29 (by decide) ?_
        exact R_iret hX dX7_findNode_31 ⟨Or.inl ⟨rfl, fun n h0 h1 => iv2_1 n h0 (by omega)⟩, rfl⟩
      · skip
        refine R_aload_0 hX dX7_findNode_10 ?_
        refine R_getq (v := u + 1) hX dX7_findNode_11 fl_X7_9 (to_0 hu) rfl (by omega) ?_
        refine R_iload_3 hX dX7_findNode_14 ?_
        refine R_lald hX dX7_findNode_15 (ta_1 hu) ⟨by omega, by omega⟩ ?_
        refine R_lload_1 hX dX7_findNode_16 ?_
        refine R_lcmp hX (hW _ (by omega) (by omega)) hw dX7_findNode_17 ?_
        refine R_ifne (tgt := 23) hX dX7_findNode_18 (by decide) (by unfold lc; split <;> (try split) <;> constructor <;> omega) (fun c_18 => ?_) (fun c_18 => ?_)
        · skip
          have hne : F (u + 1) i ≠ w := by unfold lc at c_18; split at c_18 <;> (try split at c_18) <;> omega
          refine R_iinc_3 hX c1_n dX7_findNode_23 ?_
          refine R_goto (tgt := 2) hX dX7_findNode_26 (by decide) ?_
          exact ih_2 _ (by omega) (by intro n h0 h1; by_cases q : n = i; (subst q; exact hne); exact iv2_1 n h0 (by omega)) (by omega)
        · skip
          have heq : F (u + 1) i = w := by unfold lc at c_18; split at c_18 <;> (try split at c_18) <;> omega
          refine R_iload_3 hX dX7_findNode_21 ?_
          exact R_iret hX dX7_findNode_22 ⟨Or.inr ⟨by omega, by omega, heq, iv2_1⟩, rfl⟩
  exact lp_2 14 _ (by omega) (by intro n h0 h1; omega) (by omega)
set_option maxRecDepth 100000 in
set_option maxHeartbeats 4000000 in
theorem c_distance {V : VX} {T : Shp} {F : Hp} {u : Int} (hu : isSu u) (hN : 0 ≤ F u 0 ∧ F u 0 ≤ 12) {m n : Int} (h1 : I32 m) (h2 : I32 n) : Ct V yX7_distance cX7_distance 3 (some .int) 1 21 0 0 (SH T) [vr V u, vi m, vi n] F (SH T) 1 (fun r F' => ((0 ≤ m ∧ m < F u 0 ∧ 0 ≤ n ∧ n < F u 0 ∧ r = F (u + 3) m - F (u + 3) n) ∨ (¬ (0 ≤ m ∧ m < F u 0 ∧ 0 ≤ n ∧ n < F u 0) ∧ r = -2)) ∧ F' = F) := by
  refine Ct.of [some (vr V u), some (vi m), some (vi n)] (by decide) (by simp [lg_sl, vi_cat, vl_cat, vr_cat]) rfl (by simp [asc, lv_args, vi_cat, vl_cat, vr_cat]) (fun X hV hX => ?_)
  subst hV
  refine R_aload_0 hX dX7_distance_0 ?_
  refine R_iload_1 hX dX7_distance_1 ?_
  refine R_v1i hX dX7_distance_2 li_X7_67 mk_X7_hasNode mi_X7_hasNode rfl (to_0 hu) (c_hasNode hu hN ⟨by omega, by omega⟩) ⟨⟨by decide, by decide⟩, by decide, by decide, rfl, Nat.le_of_ble_eq_true rfl, rfl⟩ (fun x_2 F_2 h_2 => ?_)
  obtain ⟨h_2, e_2⟩ := h_2; replace e_2 := e_2.symm; subst e_2
  refine R_ifeq (tgt := 32) hX dX7_distance_5 (by decide) ⟨by omega, by omega⟩ (fun c_5 => ?_) (fun c_5 => ?_)
  · skip
    refine R_bipush hX dX7_distance_32 (by decide) ?_
    exact R_iret hX dX7_distance_34 ⟨by omega, rfl⟩
  · skip
    refine R_aload_0 hX dX7_distance_8 ?_
    refine R_iload_2 hX dX7_distance_9 ?_
    refine R_v1i hX dX7_distance_10 li_X7_67 mk_X7_hasNode mi_X7_hasNode rfl (to_0 hu) (c_hasNode hu hN ⟨by omega, by omega⟩) ⟨⟨by decide, by decide⟩, by decide, by decide, rfl, Nat.le_of_ble_eq_true rfl, rfl⟩ (fun x_10 F_10 h_10 => ?_)
    obtain ⟨h_10, e_10⟩ := h_10; replace e_10 := e_10.symm; subst e_10
    refine R_ifeq (tgt := 32) hX dX7_distance_13 (by decide) ⟨by omega, by omega⟩ (fun c_13 => ?_) (fun c_13 => ?_)
    · skip
      refine R_bipush hX dX7_distance_32 (by decide) ?_
      exact R_iret hX dX7_distance_34 ⟨by omega, rfl⟩
    · skip
      refine R_aload_0 hX dX7_distance_16 ?_
      refine R_getq (v := u + 3) hX dX7_distance_17 fl_X7_19 (to_0 hu) rfl (by omega) ?_
      refine R_iload_1 hX dX7_distance_20 ?_
      refine R_iald hX dX7_distance_21 (ta_3 hu) ⟨by omega, by omega⟩ ?_
      refine R_aload_0 hX dX7_distance_22 ?_
      refine R_getq (v := u + 3) hX dX7_distance_23 fl_X7_19 (to_0 hu) rfl (by omega) ?_
      refine R_iload_2 hX dX7_distance_26 ?_
      refine R_iald hX dX7_distance_27 (ta_3 hu) ⟨by omega, by omega⟩ ?_
      refine R_isub hX dX7_distance_28 ?_
      refine R_goto (tgt := 34) hX dX7_distance_29 (by decide) ?_
      exact R_iret hX dX7_distance_34 ⟨by omega, rfl⟩
set_option maxRecDepth 100000 in
set_option maxHeartbeats 4000000 in
theorem c_childOf {V : VX} {T : Shp} {F : Hp} {u : Int} (hu : isSu u) (hN : 0 ≤ F u 0 ∧ F u 0 ≤ 12) (hP : ∀ n : Int, 0 ≤ n → n < F u 0 → I32 (F (u + 2) n)) {node k : Int} (h1 : 0 ≤ node ∧ node < F u 0) (h2 : 0 ≤ k ∧ I32 k) : Ct V yX7_childOf cX7_childOf 5 (some .int) 0 0 0 0 (SH T) [vr V u, vi node, vi k] F (SH T) 1 (fun r F' => r = chS (F (u + 2)) node (F u 0) k 12 (node + 1) ∧ F' = F) := by
  refine Ct.of [some (vr V u), some (vi node), some (vi k), none, none] (by decide) (by simp [lg_sl, vi_cat, vl_cat, vr_cat]) rfl (by simp [asc, lv_args, vi_cat, vl_cat, vr_cat]) (fun X hV hX => ?_)
  subst hV
  refine R_iconst hX dX7_childOf_0 ?_
  refine R_istore_3 hX c1_i dX7_childOf_1 ?_
  refine R_iload_1 hX dX7_childOf_2 ?_
  refine R_iconst hX dX7_childOf_3 ?_
  refine R_iadd hX dX7_childOf_4 ?_
  refine R_istore_4 hX c1_i dX7_childOf_5 ?_
  have lp_7 : ∀ (n : Nat) (c : Int) (i : Int) (q : Nat), (0 ≤ c ∧ c ≤ k ∧ c < i ∧ node < i ∧ i ≤ F u 0 ∧ F u 0 - i ≤ q) → (chS (F (u + 2)) node (F u 0) (k - c) q i = chS (F (u + 2)) node (F u 0) k 12 (node + 1)) → (13 - i).toNat < n → R X (SH T) 0 0 7 [some (vr (xV X) u), some (vi node), some (vi k), some (vi c), some (vi i)] [] F (Zq X (SH T) 1 (fun r F' => r = chS (F (u + 2)) node (F u 0) k 12 (node + 1) ∧ F' = F) 0 0) := by
    intro n
    induction n with
    | zero => intro c i q iv7_0 iv7_1 hm; exact absurd hm (Nat.not_lt_zero _)
    | succ n ih_7 =>
      intro c i q iv7_0 iv7_1 hm_7
      refine R_iload_4 hX dX7_childOf_7 ?_
      refine R_aload_0 hX dX7_childOf_9 ?_
      refine R_geti hX dX7_childOf_10 fl_X7_61 (to_0 hu) rfl ?_
      refine R_icmpge (tgt := 44) hX dX7_childOf_13 (by decide) ⟨by omega, by omega⟩ ⟨by omega, by omega⟩ (fun c_13 => ?_) (fun c_13 => ?_)
      · skip
        refine R_bipush hX dX7_childOf_44 (by decide) ?_
        exact R_iret hX dX7_childOf_46 ⟨by rw [← iv7_1, chS_end (by omega)], rfl⟩
      · skip
        refine R_aload_0 hX dX7_childOf_16 ?_
        refine R_getq (v := u + 2) hX dX7_childOf_17 fl_X7_15 (to_0 hu) rfl (by omega) ?_
        refine R_iload_4 hX dX7_childOf_20 ?_
        refine R_iald hX dX7_childOf_22 (ta_2 hu) ⟨by omega, by omega⟩ ?_
        refine R_iload_1 hX dX7_childOf_23 ?_
        refine R_icmpne (tgt := 38) hX dX7_childOf_24 (by decide) (hP _ (by omega) (by omega)) ⟨by omega, by omega⟩ (fun c_24 => ?_) (fun c_24 => ?_)
        · skip
          refine R_iinc_4 hX c1_i dX7_childOf_38 ?_
          refine R_goto (tgt := 7) hX dX7_childOf_41 (by decide) ?_
          exact ih_7 _ _ (q - 1) (by omega) (by first | (rw [← iv7_1, chS_skip (q := q) (by omega) (by omega) (by omega)]) | (rw [← iv7_1, chS_next (q := q) (by omega) (by omega) (by omega) (by omega)]; congr 1; omega)) (by omega)
        · skip
          refine R_iload_3 hX dX7_childOf_27 ?_
          refine R_iload_2 hX dX7_childOf_28 ?_
          refine R_icmpne (tgt := 35) hX dX7_childOf_29 (by decide) ⟨by omega, by omega⟩ ⟨by omega, by omega⟩ (fun c_29 => ?_) (fun c_29 => ?_)
          · skip
            refine R_iinc_3 hX c1_i dX7_childOf_35 ?_
            refine R_iinc_4 hX c1_i dX7_childOf_38 ?_
            refine R_goto (tgt := 7) hX dX7_childOf_41 (by decide) ?_
            exact ih_7 _ _ (q - 1) (by omega) (by first | (rw [← iv7_1, chS_skip (q := q) (by omega) (by omega) (by omega)]) | (rw [← iv7_1, chS_next (q := q) (by omega) (by omega) (by omega) (by omega)]; congr 1; omega)) (by omega)
          · skip
            refine R_iload_4 hX dX7_childOf_32 ?_
            exact R_iret hX dX7_childOf_34 ⟨by rw [← iv7_1, chS_hit (by omega) (by omega) (by omega) (by omega)], rfl⟩
  exact lp_7 14 _ _ 12 (by omega) (by rw [Int.sub_zero]) (by omega)
