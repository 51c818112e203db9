theorem onP_0 {par : Int → Int} {N : Int} (hT : Tr N par) (hP : ∀ n : Int, 0 ≤ n → n < N → (n = 0 → par n = -2) ∧ (1 ≤ n → 0 ≤ par n)) : ∀ (k : Nat) (m : Int), 0 ≤ m → m < N → m < k → onP par k m 0 = true
  | 0, m, h0, _, hk => by omega
  | k + 1, m, h0, hm, hk => by
    have hp := hP m h0 hm
    have ht := hT m h0 hm
    by_cases q : m = 0
    · subst q
      unfold onP
      simp
    · rw [onP_up (by omega) hk (fun z => q z.symm)]
      exact onP_0 hT hP k (par m) (by omega) (by omega) (by omega)
set_option maxRecDepth 100000 in
set_option maxHeartbeats 4000000 in
theorem r_rate {V : VX} {F : Hp} {K : Int} (h : RI K F) {n : Int} (h1 : I32 n)  : Ct V yX12_rate cX12_rate 2 (some .int) 2 46 0 0 SH [vr V 136, vi n] F SH 1 (fun r F' => F' = up F 136 0 0 ∧ r = (if 0 ≤ n ∧ n < F' 136 3 then F' 137 (99 + n) else -1)) := by
  refine Ct.of [some (vr V 136), some (vi n)] (by decide) (by simp [lg_sl, vi_cat, vl_cat, vr_cat]) rfl (by simp [asc, lv_args, vi_cat, vl_cat, vr_cat]) (fun X hV hX => ?_)
  subst hV
  refine R_aload_0 hX dX12_rate_0 ?_
  refine R_iconst hX dX12_rate_1 ?_
  refine R_puti hX dX12_rate_2 fl_X12_88 o_136 rfl ?_
  refine R.gen (fun H hH => ?_)
  have hR : RI K H := by rw [hH]; exact h.z
  have hN := ri_N hR
  have hT := ri_T hR
  refine R_aload_0 hX dX12_rate_5 ?_
  refine R_iload_1 hX dX12_rate_6 ?_
  refine R_v1i hX dX12_rate_7 li_X12_98 mk_X12_isNode mi_X12_isNode rfl o_136 (r_isNode hR h1) ⟨⟨by decide, by decide⟩, by decide, by decide, rfl, Nat.le_of_ble_eq_true rfl, rfl⟩ (fun x_7 F_7 h_7 => ?_)
  obtain ⟨h_7, e_7⟩ := h_7; replace e_7 := e_7.symm; subst e_7
  refine R_ifeq (tgt := 25) hX dX12_rate_10 (by decide) (by constructor <;> first | omega | (simp (disch := omega) only [up_k, up_i, up_s]; omega)) (fun c_10 => ?_) (fun c_10 => ?_)
  · skip
    refine R_iconst hX dX12_rate_25 ?_
    exact R_iret hX dX12_rate_26 ⟨hH, by first | rw [if_pos (by omega)] | rw [if_neg (by omega)]⟩
  · skip
    refine R_aload_0 hX dX12_rate_13 ?_
    refine R_getq (v := 137) hX dX12_rate_14 fl_X12_7 o_136 rfl (by omega) ?_
    refine R_bipush hX dX12_rate_17 (by decide) ?_
    refine R_iload_1 hX dX12_rate_19 ?_
    refine R_iadd hX dX12_rate_20 ?_
    refine R_iald hX dX12_rate_21 a_137 ⟨by omega, by omega⟩ ?_
    refine R_goto (tgt := 26) hX dX12_rate_22 (by decide) ?_
    exact R_iret hX dX12_rate_26 ⟨hH, by first | rw [if_pos (by omega)] | rw [if_neg (by omega)]⟩
set_option maxRecDepth 100000 in
set_option maxHeartbeats 4000000 in
theorem r_ceiling {V : VX} {F : Hp} {K : Int} (h : RI K F) {n : Int} (h1 : I32 n)  : Ct V yX12_ceiling cX12_ceiling 2 (some .int) 2 46 0 0 SH [vr V 136, vi n] F SH 1 (fun r F' => F' = up F 136 0 0 ∧ r = (if 0 ≤ n ∧ n < F' 136 3 then F' 137 (111 + n) else -1)) := by
  refine Ct.of [some (vr V 136), some (vi n)] (by decide) (by simp [lg_sl, vi_cat, vl_cat, vr_cat]) rfl (by simp [asc, lv_args, vi_cat, vl_cat, vr_cat]) (fun X hV hX => ?_)
  subst hV
  refine R_aload_0 hX dX12_ceiling_0 ?_
  refine R_iconst hX dX12_ceiling_1 ?_
  refine R_puti hX dX12_ceiling_2 fl_X12_88 o_136 rfl ?_
  refine R.gen (fun H hH => ?_)
  have hR : RI K H := by rw [hH]; exact h.z
  have hN := ri_N hR
  have hT := ri_T hR
  refine R_aload_0 hX dX12_ceiling_5 ?_
  refine R_iload_1 hX dX12_ceiling_6 ?_
  refine R_v1i hX dX12_ceiling_7 li_X12_98 mk_X12_isNode mi_X12_isNode rfl o_136 (r_isNode hR h1) ⟨⟨by decide, by decide⟩, by decide, by decide, rfl, Nat.le_of_ble_eq_true rfl, rfl⟩ (fun x_7 F_7 h_7 => ?_)
  obtain ⟨h_7, e_7⟩ := h_7; replace e_7 := e_7.symm; subst e_7
  refine R_ifeq (tgt := 25) hX dX12_ceiling_10 (by decide) (by constructor <;> first | omega | (simp (disch := omega) only [up_k, up_i, up_s]; omega)) (fun c_10 => ?_) (fun c_10 => ?_)
  · skip
    refine R_iconst hX dX12_ceiling_25 ?_
    exact R_iret hX dX12_ceiling_26 ⟨hH, by first | rw [if_pos (by omega)] | rw [if_neg (by omega)]⟩
  · skip
    refine R_aload_0 hX dX12_ceiling_13 ?_
    refine R_getq (v := 137) hX dX12_ceiling_14 fl_X12_7 o_136 rfl (by omega) ?_
    refine R_bipush hX dX12_ceiling_17 (by decide) ?_
    refine R_iload_1 hX dX12_ceiling_19 ?_
    refine R_iadd hX dX12_ceiling_20 ?_
    refine R_iald hX dX12_ceiling_21 a_137 ⟨by omega, by omega⟩ ?_
    refine R_goto (tgt := 26) hX dX12_ceiling_22 (by decide) ?_
    exact R_iret hX dX12_ceiling_26 ⟨hH, by first | rw [if_pos (by omega)] | rw [if_neg (by omega)]⟩
set_option maxRecDepth 100000 in
set_option maxHeartbeats 4000000 in
theorem r_burst {V : VX} {F : Hp} {K : Int} (h : RI K F) {n : Int} (h1 : I32 n)  : Ct V yX12_burst cX12_burst 2 (some .int) 2 46 0 0 SH [vr V 136, vi n] F SH 1 (fun r F' => F' = up F 136 0 0 ∧ r = (if 0 ≤ n ∧ n < F' 136 3 then F' 142 n else -1)) := by
  refine Ct.of [some (vr V 136), some (vi n)] (by decide) (by simp [lg_sl, vi_cat, vl_cat, vr_cat]) rfl (by simp [asc, lv_args, vi_cat, vl_cat, vr_cat]) (fun X hV hX => ?_)
  subst hV
  refine R_aload_0 hX dX12_burst_0 ?_
  refine R_iconst hX dX12_burst_1 ?_
  refine R_puti hX dX12_burst_2 fl_X12_88 o_136 rfl ?_
  refine R.gen (fun H hH => ?_)
  have hR : RI K H := by rw [hH]; exact h.z
  have hN := ri_N hR
  have hT := ri_T hR
  refine R_aload_0 hX dX12_burst_5 ?_
  refine R_iload_1 hX dX12_burst_6 ?_
  refine R_v1i hX dX12_burst_7 li_X12_98 mk_X12_isNode mi_X12_isNode rfl o_136 (r_isNode hR h1) ⟨⟨by decide, by decide⟩, by decide, by decide, rfl, Nat.le_of_ble_eq_true rfl, rfl⟩ (fun x_7 F_7 h_7 => ?_)
  obtain ⟨h_7, e_7⟩ := h_7; replace e_7 := e_7.symm; subst e_7
  refine R_ifeq (tgt := 22) hX dX12_burst_10 (by decide) (by constructor <;> first | omega | (simp (disch := omega) only [up_k, up_i, up_s]; omega)) (fun c_10 => ?_) (fun c_10 => ?_)
  · skip
    refine R_iconst hX dX12_burst_22 ?_
    exact R_iret hX dX12_burst_23 ⟨hH, by first | rw [if_pos (by omega)] | rw [if_neg (by omega)]⟩
  · skip
    refine R_aload_0 hX dX12_burst_13 ?_
    refine R_getq (v := 142) hX dX12_burst_14 fl_X12_34 o_136 rfl (by omega) ?_
    refine R_iload_1 hX dX12_burst_17 ?_
    refine R_iald hX dX12_burst_18 a_142 ⟨by omega, by omega⟩ ?_
    refine R_goto (tgt := 23) hX dX12_burst_19 (by decide) ?_
    exact R_iret hX dX12_burst_23 ⟨hH, by first | rw [if_pos (by omega)] | rw [if_neg (by omega)]⟩
set_option maxRecDepth 100000 in
set_option maxHeartbeats 4000000 in
theorem r_creditLimit {V : VX} {F : Hp} {K : Int} (h : RI K F) {n : Int} (h1 : I32 n)  : Ct V yX12_creditLimit cX12_creditLimit 2 (some .int) 2 46 0 0 SH [vr V 136, vi n] F SH 1 (fun r F' => F' = up F 136 0 0 ∧ r = (if 0 ≤ n ∧ n < F' 136 3 then F' 143 n else -1)) := by
  refine Ct.of [some (vr V 136), some (vi n)] (by decide) (by simp [lg_sl, vi_cat, vl_cat, vr_cat]) rfl (by simp [asc, lv_args, vi_cat, vl_cat, vr_cat]) (fun X hV hX => ?_)
  subst hV
  refine R_aload_0 hX dX12_creditLimit_0 ?_
  refine R_iconst hX dX12_creditLimit_1 ?_
  refine R_puti hX dX12_creditLimit_2 fl_X12_88 o_136 rfl ?_
  refine R.gen (fun H hH => ?_)
  have hR : RI K H := by rw [hH]; exact h.z
  have hN := ri_N hR
  have hT := ri_T hR
  refine R_aload_0 hX dX12_creditLimit_5 ?_
  refine R_iload_1 hX dX12_creditLimit_6 ?_
  refine R_v1i hX dX12_creditLimit_7 li_X12_98 mk_X12_isNode mi_X12_isNode rfl o_136 (r_isNode hR h1) ⟨⟨by decide, by decide⟩, by decide, by decide, rfl, Nat.le_of_ble_eq_true rfl, rfl⟩ (fun x_7 F_7 h_7 => ?_)
  obtain ⟨h_7, e_7⟩ := h_7; replace e_7 := e_7.symm; subst e_7
  refine R_ifeq (tgt := 22) hX dX12_creditLimit_10 (by decide) (by constructor <;> first | omega | (simp (disch := omega) only [up_k, up_i, up_s]; omega)) (fun c_10 => ?_) (fun c_10 => ?_)
  · skip
    refine R_iconst hX dX12_creditLimit_22 ?_
    exact R_iret hX dX12_creditLimit_23 ⟨hH, by first | rw [if_pos (by omega)] | rw [if_neg (by omega)]⟩
  · skip
    refine R_aload_0 hX dX12_creditLimit_13 ?_
    refine R_getq (v := 143) hX dX12_creditLimit_14 fl_X12_37 o_136 rfl (by omega) ?_
    refine R_iload_1 hX dX12_creditLimit_17 ?_
    refine R_iald hX dX12_creditLimit_18 a_143 ⟨by omega, by omega⟩ ?_
    refine R_goto (tgt := 23) hX dX12_creditLimit_19 (by decide) ?_
    exact R_iret hX dX12_creditLimit_23 ⟨hH, by first | rw [if_pos (by omega)] | rw [if_neg (by omega)]⟩
set_option maxRecDepth 100000 in
set_option maxHeartbeats 4000000 in
theorem r_weight {V : VX} {F : Hp} {K : Int} (h : RI K F) {n : Int} (h1 : I32 n)  : Ct V yX12_weight cX12_weight 2 (some .int) 2 46 0 0 SH [vr V 136, vi n] F SH 1 (fun r F' => F' = up F 136 0 0 ∧ r = (if 0 ≤ n ∧ n < F' 136 3 then F' 137 (123 + n) else -1)) := by
  refine Ct.of [some (vr V 136), some (vi n)] (by decide) (by simp [lg_sl, vi_cat, vl_cat, vr_cat]) rfl (by simp [asc, lv_args, vi_cat, vl_cat, vr_cat]) (fun X hV hX => ?_)
  subst hV
  refine R_aload_0 hX dX12_weight_0 ?_
  refine R_iconst hX dX12_weight_1 ?_
  refine R_puti hX dX12_weight_2 fl_X12_88 o_136 rfl ?_
  refine R.gen (fun H hH => ?_)
  have hR : RI K H := by rw [hH]; exact h.z
  have hN := ri_N hR
  have hT := ri_T hR
  refine R_aload_0 hX dX12_weight_5 ?_
  refine R_iload_1 hX dX12_weight_6 ?_
  refine R_v1i hX dX12_weight_7 li_X12_98 mk_X12_isNode mi_X12_isNode rfl o_136 (r_isNode hR h1) ⟨⟨by decide, by decide⟩, by decide, by decide, rfl, Nat.le_of_ble_eq_true rfl, rfl⟩ (fun x_7 F_7 h_7 => ?_)
  obtain ⟨h_7, e_7⟩ := h_7; replace e_7 := e_7.symm; subst e_7
  refine R_ifeq (tgt := 25) hX dX12_weight_10 (by decide) (by constructor <;> first | omega | (simp (disch := omega) only [up_k, up_i, up_s]; omega)) (fun c_10 => ?_) (fun c_10 => ?_)
  · skip
    refine R_iconst hX dX12_weight_25 ?_
    exact R_iret hX dX12_weight_26 ⟨hH, by first | rw [if_pos (by omega)] | rw [if_neg (by omega)]⟩
  · skip
    refine R_aload_0 hX dX12_weight_13 ?_
    refine R_getq (v := 137) hX dX12_weight_14 fl_X12_7 o_136 rfl (by omega) ?_
    refine R_bipush hX dX12_weight_17 (by decide) ?_
    refine R_iload_1 hX dX12_weight_19 ?_
    refine R_iadd hX dX12_weight_20 ?_
    refine R_iald hX dX12_weight_21 a_137 ⟨by omega, by omega⟩ ?_
    refine R_goto (tgt := 26) hX dX12_weight_22 (by decide) ?_
    exact R_iret hX dX12_weight_26 ⟨hH, by first | rw [if_pos (by omega)] | rw [if_neg (by omega)]⟩
set_option maxRecDepth 100000 in
set_option maxHeartbeats 4000000 in
theorem r_priority {V : VX} {F : Hp} {K : Int} (h : RI K F) {n : Int} (h1 : I32 n)  : Ct V yX12_priority cX12_priority 2 (some .int) 2 46 0 0 SH [vr V 136, vi n] F SH 1 (fun r F' => F' = up F 136 0 0 ∧ r = (if 0 ≤ n ∧ n < F' 136 3 then F' 144 n else -1)) := by
  refine Ct.of [some (vr V 136), some (vi n)] (by decide) (by simp [lg_sl, vi_cat, vl_cat, vr_cat]) rfl (by simp [asc, lv_args, vi_cat, vl_cat, vr_cat]) (fun X hV hX => ?_)
  subst hV
  refine R_aload_0 hX dX12_priority_0 ?_
  refine R_iconst hX dX12_priority_1 ?_
  refine R_puti hX dX12_priority_2 fl_X12_88 o_136 rfl ?_
  refine R.gen (fun H hH => ?_)
  have hR : RI K H := by rw [hH]; exact h.z
  have hN := ri_N hR
  have hT := ri_T hR
  refine R_aload_0 hX dX12_priority_5 ?_
  refine R_iload_1 hX dX12_priority_6 ?_
  refine R_v1i hX dX12_priority_7 li_X12_98 mk_X12_isNode mi_X12_isNode rfl o_136 (r_isNode hR h1) ⟨⟨by decide, by decide⟩, by decide, by decide, rfl, Nat.le_of_ble_eq_true rfl, rfl⟩ (fun x_7 F_7 h_7 => ?_)
  obtain ⟨h_7, e_7⟩ := h_7; replace e_7 := e_7.symm; subst e_7
  refine R_ifeq (tgt := 22) hX dX12_priority_10 (by decide) (by constructor <;> first | omega | (simp (disch := omega) only [up_k, up_i, up_s]; omega)) (fun c_10 => ?_) (fun c_10 => ?_)
  · skip
    refine R_iconst hX dX12_priority_22 ?_
    exact R_iret hX dX12_priority_23 ⟨hH, by first | rw [if_pos (by omega)] | rw [if_neg (by omega)]⟩
  · skip
    refine R_aload_0 hX dX12_priority_13 ?_
    refine R_getq (v := 144) hX dX12_priority_14 fl_X12_40 o_136 rfl (by omega) ?_
    refine R_iload_1 hX dX12_priority_17 ?_
    refine R_iald hX dX12_priority_18 a_144 ⟨by omega, by omega⟩ ?_
    refine R_goto (tgt := 23) hX dX12_priority_19 (by decide) ?_
    exact R_iret hX dX12_priority_23 ⟨hH, by first | rw [if_pos (by omega)] | rw [if_neg (by omega)]⟩
set_option maxRecDepth 100000 in
set_option maxHeartbeats 4000000 in
theorem r_tokens {V : VX} {F : Hp} {K : Int} (h : RI K F) {n : Int} (h1 : I32 n)  : Ct V yX12_tokens cX12_tokens 2 (some .int) 2 46 0 0 SH [vr V 136, vi n] F SH 1 (fun r F' => F' = up F 136 0 0 ∧ r = (if 0 ≤ n ∧ n < F' 136 3 then F' 137 (3 + n) else -1)) := by
  refine Ct.of [some (vr V 136), some (vi n)] (by decide) (by simp [lg_sl, vi_cat, vl_cat, vr_cat]) rfl (by simp [asc, lv_args, vi_cat, vl_cat, vr_cat]) (fun X hV hX => ?_)
  subst hV
  refine R_aload_0 hX dX12_tokens_0 ?_
  refine R_iconst hX dX12_tokens_1 ?_
  refine R_puti hX dX12_tokens_2 fl_X12_88 o_136 rfl ?_
  refine R.gen (fun H hH => ?_)
  have hR : RI K H := by rw [hH]; exact h.z
  have hN := ri_N hR
  have hT := ri_T hR
  refine R_aload_0 hX dX12_tokens_5 ?_
  refine R_iload_1 hX dX12_tokens_6 ?_
  refine R_v1i hX dX12_tokens_7 li_X12_98 mk_X12_isNode mi_X12_isNode rfl o_136 (r_isNode hR h1) ⟨⟨by decide, by decide⟩, by decide, by decide, rfl, Nat.le_of_ble_eq_true rfl, rfl⟩ (fun x_7 F_7 h_7 => ?_)
  obtain ⟨h_7, e_7⟩ := h_7; replace e_7 := e_7.symm; subst e_7
  refine R_ifeq (tgt := 24) hX dX12_tokens_10 (by decide) (by constructor <;> first | omega | (simp (disch := omega) only [up_k, up_i, up_s]; omega)) (fun c_10 => ?_) (fun c_10 => ?_)
  · skip
    refine R_iconst hX dX12_tokens_24 ?_
    exact R_iret hX dX12_tokens_25 ⟨hH, by first | rw [if_pos (by omega)] | rw [if_neg (by omega)]⟩
  · skip
    refine R_aload_0 hX dX12_tokens_13 ?_
    refine R_getq (v := 137) hX dX12_tokens_14 fl_X12_7 o_136 rfl (by omega) ?_
    refine R_iconst hX dX12_tokens_17 ?_
    refine R_iload_1 hX dX12_tokens_18 ?_
    refine R_iadd hX dX12_tokens_19 ?_
    refine R_iald hX dX12_tokens_20 a_137 ⟨by omega, by omega⟩ ?_
    refine R_goto (tgt := 25) hX dX12_tokens_21 (by decide) ?_
    exact R_iret hX dX12_tokens_25 ⟨hH, by first | rw [if_pos (by omega)] | rw [if_neg (by omega)]⟩
set_option maxRecDepth 100000 in
set_option maxHeartbeats 4000000 in
theorem r_credit {V : VX} {F : Hp} {K : Int} (h : RI K F) {n : Int} (h1 : I32 n)  : Ct V yX12_credit cX12_credit 2 (some .int) 2 46 0 0 SH [vr V 136, vi n] F SH 1 (fun r F' => F' = up F 136 0 0 ∧ r = (if 0 ≤ n ∧ n < F' 136 3 then F' 137 (15 + n) else -1)) := by
  refine Ct.of [some (vr V 136), some (vi n)] (by decide) (by simp [lg_sl, vi_cat, vl_cat, vr_cat]) rfl (by simp [asc, lv_args, vi_cat, vl_cat, vr_cat]) (fun X hV hX => ?_)
  subst hV
  refine R_aload_0 hX dX12_credit_0 ?_
  refine R_iconst hX dX12_credit_1 ?_
  refine R_puti hX dX12_credit_2 fl_X12_88 o_136 rfl ?_
  refine R.gen (fun H hH => ?_)
  have hR : RI K H := by rw [hH]; exact h.z
  have hN := ri_N hR
  have hT := ri_T hR
  refine R_aload_0 hX dX12_credit_5 ?_
  refine R_iload_1 hX dX12_credit_6 ?_
  refine R_v1i hX dX12_credit_7 li_X12_98 mk_X12_isNode mi_X12_isNode rfl o_136 (r_isNode hR h1) ⟨⟨by decide, by decide⟩, by decide, by decide, rfl, Nat.le_of_ble_eq_true rfl, rfl⟩ (fun x_7 F_7 h_7 => ?_)
  obtain ⟨h_7, e_7⟩ := h_7; replace e_7 := e_7.symm; subst e_7
  refine R_ifeq (tgt := 25) hX dX12_credit_10 (by decide) (by constructor <;> first | omega | (simp (disch := omega) only [up_k, up_i, up_s]; omega)) (fun c_10 => ?_) (fun c_10 => ?_)
  · skip
    refine R_iconst hX dX12_credit_25 ?_
    exact R_iret hX dX12_credit_26 ⟨hH, by first | rw [if_pos (by omega)] | rw [if_neg (by omega)]⟩
  · skip
    refine R_aload_0 hX dX12_credit_13 ?_
    refine R_getq (v := 137) hX dX12_credit_14 fl_X12_7 o_136 rfl (by omega) ?_
    refine R_bipush hX dX12_credit_17 (by decide) ?_
    refine R_iload_1 hX dX12_credit_19 ?_
    refine R_iadd hX dX12_credit_20 ?_
    refine R_iald hX dX12_credit_21 a_137 ⟨by omega, by omega⟩ ?_
    refine R_goto (tgt := 26) hX dX12_credit_22 (by decide) ?_
    exact R_iret hX dX12_credit_26 ⟨hH, by first | rw [if_pos (by omega)] | rw [if_neg (by omega)]⟩
set_option maxRecDepth 100000 in
set_option maxHeartbeats 4000000 in
theorem r_headroom {V : VX} {F : Hp} {K : Int} (h : RI K F) {n : Int} (h1 : I32 n)  : Ct V yX12_headroom cX12_headroom 2 (some .int) 2 46 0 0 SH [vr V 136, vi n] F SH 1 (fun r F' => F' = up F 136 0 0 ∧ r = (if 0 ≤ n ∧ n < F' 136 3 then F' 137 (27 + n) else -1)) := by
  refine Ct.of [some (vr V 136), some (vi n)] (by decide) (by simp [lg_sl, vi_cat, vl_cat, vr_cat]) rfl (by simp [asc, lv_args, vi_cat, vl_cat, vr_cat]) (fun X hV hX => ?_)
  subst hV
  refine R_aload_0 hX dX12_headroom_0 ?_
  refine R_iconst hX dX12_headroom_1 ?_
  refine R_puti hX dX12_headroom_2 fl_X12_88 o_136 rfl ?_
  refine R.gen (fun H hH => ?_)
  have hR : RI K H := by rw [hH]; exact h.z
  have hN := ri_N hR
  have hT := ri_T hR
  refine R_aload_0 hX dX12_headroom_5 ?_
  refine R_iload_1 hX dX12_headroom_6 ?_
  refine R_v1i hX dX12_headroom_7 li_X12_98 mk_X12_isNode mi_X12_isNode rfl o_136 (r_isNode hR h1) ⟨⟨by decide, by decide⟩, by decide, by decide, rfl, Nat.le_of_ble_eq_true rfl, rfl⟩ (fun x_7 F_7 h_7 => ?_)
  obtain ⟨h_7, e_7⟩ := h_7; replace e_7 := e_7.symm; subst e_7
  refine R_ifeq (tgt := 25) hX dX12_headroom_10 (by decide) (by constructor <;> first | omega | (simp (disch := omega) only [up_k, up_i, up_s]; omega)) (fun c_10 => ?_) (fun c_10 => ?_)
  · skip
    refine R_iconst hX dX12_headroom_25 ?_
    exact R_iret hX dX12_headroom_26 ⟨hH, by first | rw [if_pos (by omega)] | rw [if_neg (by omega)]⟩
  · skip
    refine R_aload_0 hX dX12_headroom_13 ?_
    refine R_getq (v := 137) hX dX12_headroom_14 fl_X12_7 o_136 rfl (by omega) ?_
    refine R_bipush hX dX12_headroom_17 (by decide) ?_
    refine R_iload_1 hX dX12_headroom_19 ?_
    refine R_iadd hX dX12_headroom_20 ?_
    refine R_iald hX dX12_headroom_21 a_137 ⟨by omega, by omega⟩ ?_
    refine R_goto (tgt := 26) hX dX12_headroom_22 (by decide) ?_
    exact R_iret hX dX12_headroom_26 ⟨hH, by first | rw [if_pos (by omega)] | rw [if_neg (by omega)]⟩
set_option maxRecDepth 100000 in
set_option maxHeartbeats 4000000 in
theorem r_lentCost {V : VX} {F : Hp} {K : Int} (h : RI K F) {n : Int} (h1 : I32 n)  : Ct V yX12_lentCost cX12_lentCost 2 (some .int) 2 46 0 0 SH [vr V 136, vi n] F SH 1 (fun r F' => F' = up F 136 0 0 ∧ r = (if 0 ≤ n ∧ n < F' 136 3 then F' 137 (75 + n) else -1)) := by
  refine Ct.of [some (vr V 136), some (vi n)] (by decide) (by simp [lg_sl, vi_cat, vl_cat, vr_cat]) rfl (by simp [asc, lv_args, vi_cat, vl_cat, vr_cat]) (fun X hV hX => ?_)
  subst hV
  refine R_aload_0 hX dX12_lentCost_0 ?_
  refine R_iconst hX dX12_lentCost_1 ?_
  refine R_puti hX dX12_lentCost_2 fl_X12_88 o_136 rfl ?_
  refine R.gen (fun H hH => ?_)
  have hR : RI K H := by rw [hH]; exact h.z
  have hN := ri_N hR
  have hT := ri_T hR
  refine R_aload_0 hX dX12_lentCost_5 ?_
  refine R_iload_1 hX dX12_lentCost_6 ?_
  refine R_v1i hX dX12_lentCost_7 li_X12_98 mk_X12_isNode mi_X12_isNode rfl o_136 (r_isNode hR h1) ⟨⟨by decide, by decide⟩, by decide, by decide, rfl, Nat.le_of_ble_eq_true rfl, rfl⟩ (fun x_7 F_7 h_7 => ?_)
  obtain ⟨h_7, e_7⟩ := h_7; replace e_7 := e_7.symm; subst e_7
  refine R_ifeq (tgt := 25) hX dX12_lentCost_10 (by decide) (by constructor <;> first | omega | (simp (disch := omega) only [up_k, up_i, up_s]; omega)) (fun c_10 => ?_) (fun c_10 => ?_)
  · skip
    refine R_iconst hX dX12_lentCost_25 ?_
    exact R_iret hX dX12_lentCost_26 ⟨hH, by first | rw [if_pos (by omega)] | rw [if_neg (by omega)]⟩
  · skip
    refine R_aload_0 hX dX12_lentCost_13 ?_
    refine R_getq (v := 137) hX dX12_lentCost_14 fl_X12_7 o_136 rfl (by omega) ?_
    refine R_bipush hX dX12_lentCost_17 (by decide) ?_
    refine R_iload_1 hX dX12_lentCost_19 ?_
    refine R_iadd hX dX12_lentCost_20 ?_
    refine R_iald hX dX12_lentCost_21 a_137 ⟨by omega, by omega⟩ ?_
    refine R_goto (tgt := 26) hX dX12_lentCost_22 (by decide) ?_
    exact R_iret hX dX12_lentCost_26 ⟨hH, by first | rw [if_pos (by omega)] | rw [if_neg (by omega)]⟩
set_option maxRecDepth 100000 in
set_option maxHeartbeats 4000000 in
theorem r_parent {V : VX} {F : Hp} {K : Int} (h : RI K F) {n : Int} (h1 : I32 n)  : Ct V yX12_parent cX12_parent 2 (some .int) 2 46 0 0 SH [vr V 136, vi n] F SH 1 (fun r F' => F' = up F 136 0 0 ∧ r = (if 0 ≤ n ∧ n < F' 136 3 then (if n = 0 then -2 else F' 141 n) else -1)) := by
  refine Ct.of [some (vr V 136), some (vi n)] (by decide) (by simp [lg_sl, vi_cat, vl_cat, vr_cat]) rfl (by simp [asc, lv_args, vi_cat, vl_cat, vr_cat]) (fun X hV hX => ?_)
  subst hV
  refine R_aload_0 hX dX12_parent_0 ?_
  refine R_iconst hX dX12_parent_1 ?_
  refine R_puti hX dX12_parent_2 fl_X12_88 o_136 rfl ?_
  refine R.gen (fun H hH => ?_)
  have hR : RI K H := by rw [hH]; exact h.z
  have hN := ri_N hR
  have hT := ri_T hR
  refine R_aload_0 hX dX12_parent_5 ?_
  refine R_iload_1 hX dX12_parent_6 ?_
  refine R_v1i hX dX12_parent_7 li_X12_98 mk_X12_isNode mi_X12_isNode rfl o_136 (r_isNode hR h1) ⟨⟨by decide, by decide⟩, by decide, by decide, rfl, Nat.le_of_ble_eq_true rfl, rfl⟩ (fun x_7 F_7 h_7 => ?_)
  obtain ⟨h_7, e_7⟩ := h_7; replace e_7 := e_7.symm; subst e_7
  refine R_ifne (tgt := 17) hX dX12_parent_10 (by decide) (by constructor <;> first | omega | (simp (disch := omega) only [up_k, up_i, up_s]; omega)) (fun c_10 => ?_) (fun c_10 => ?_)
  · skip
    refine R_iload_1 hX dX12_parent_17 ?_
    refine R_ifne (tgt := 26) hX dX12_parent_18 (by decide) (by constructor <;> first | omega | (simp (disch := omega) only [up_k, up_i, up_s]; omega)) (fun c_18 => ?_) (fun c_18 => ?_)
    · skip
      refine R_aload_0 hX dX12_parent_26 ?_
      refine R_getq (v := 141) hX dX12_parent_27 fl_X12_31 o_136 rfl (by omega) ?_
      refine R_iload_1 hX dX12_parent_30 ?_
      refine R_iald hX dX12_parent_31 a_141 ⟨by omega, by omega⟩ ?_
      exact R_iret hX dX12_parent_32 ⟨hH, by first | (rw [if_pos (by omega)]; first | (rw [if_pos (by omega)]; done) | (rw [if_neg (by omega)]; done)) | (rw [if_neg (by omega)]; done)⟩
    · skip
      refine R_bipush hX dX12_parent_21 (by decide) ?_
      refine R_goto (tgt := 32) hX dX12_parent_23 (by decide) ?_
      exact R_iret hX dX12_parent_32 ⟨hH, by first | (rw [if_pos (by omega)]; first | (rw [if_pos (by omega)]; done) | (rw [if_neg (by omega)]; done)) | (rw [if_neg (by omega)]; done)⟩
  · skip
    refine R_iconst hX dX12_parent_13 ?_
    refine R_goto (tgt := 32) hX dX12_parent_14 (by decide) ?_
    exact R_iret hX dX12_parent_32 ⟨hH, by first | (rw [if_pos (by omega)]; first | (rw [if_pos (by omega)]; done) | (rw [if_neg (by omega)]; done)) | (rw [if_neg (by omega)]; done)⟩
set_option maxRecDepth 100000 in
set_option maxHeartbeats 4000000 in
theorem r_depth {V : VX} {F : Hp} {K : Int} (h : RI K F) {n : Int} (h1 : I32 n)  : Ct V yX12_depth cX12_depth 2 (some .int) 2 46 0 0 SH [vr V 136, vi n] F SH 1 (fun r F' => F' = up F 136 0 0 ∧ r = (if 0 ≤ n ∧ n < F' 136 3 then dptF (F' 141) 13 n - dptF (F' 141) 13 0 else -1)) := by
  refine Ct.of [some (vr V 136), some (vi n)] (by decide) (by simp [lg_sl, vi_cat, vl_cat, vr_cat]) rfl (by simp [asc, lv_args, vi_cat, vl_cat, vr_cat]) (fun X hV hX => ?_)
  subst hV
  refine R_aload_0 hX dX12_depth_0 ?_
  refine R_iconst hX dX12_depth_1 ?_
  refine R_puti hX dX12_depth_2 fl_X12_88 o_136 rfl ?_
  refine R.gen (fun H hH => ?_)
  have hR : RI K H := by rw [hH]; exact h.z
  have hN := ri_N hR
  have hT := ri_T hR
  refine R_aload_0 hX dX12_depth_5 ?_
  refine R_iload_1 hX dX12_depth_6 ?_
  refine R_v1i hX dX12_depth_7 li_X12_98 mk_X12_isNode mi_X12_isNode rfl o_136 (r_isNode hR h1) ⟨⟨by decide, by decide⟩, by decide, by decide, rfl, Nat.le_of_ble_eq_true rfl, rfl⟩ (fun x_7 F_7 h_7 => ?_)
  obtain ⟨h_7, e_7⟩ := h_7; replace e_7 := e_7.symm; subst e_7
  refine R_ifeq (tgt := 22) hX dX12_depth_10 (by decide) (by constructor <;> first | omega | (simp (disch := omega) only [up_k, up_i, up_s]; omega)) (fun c_10 => ?_) (fun c_10 => ?_)
  · skip
    refine R_iconst hX dX12_depth_22 ?_
    exact R_iret hX dX12_depth_23 ⟨hH, by first | (rw [if_pos (by omega)]; exact h_16) | (rw [if_neg (by omega)]; done)⟩
  · skip
    have hon : onP (H 141) 13 n 0 = true := onP_0 hT (ri_P hR) 13 n (by omega) (by omega) (by omega)
    refine R_aload_0 hX dX12_depth_13 ?_
    refine R_iload_1 hX dX12_depth_14 ?_
    refine R_iconst hX dX12_depth_15 ?_
    refine R_v2i hX dX12_depth_16 li_X12_250 mk_X12_steps mi_X12_steps rfl o_136 (r_steps hR (by omega) hon) ⟨⟨by decide, by decide⟩, by decide, by decide, rfl, Nat.le_of_ble_eq_true rfl, rfl⟩ (fun x_16 F_16 h_16 => ?_)
    obtain ⟨h_16, e_16⟩ := h_16; replace e_16 := e_16.symm; subst e_16
    refine R_goto (tgt := 23) hX dX12_depth_19 (by decide) ?_
    exact R_iret hX dX12_depth_23 ⟨hH, by first | (rw [if_pos (by omega)]; exact h_16) | (rw [if_neg (by omega)]; done)⟩
set_option maxRecDepth 100000 in
set_option maxHeartbeats 4000000 in
theorem r_queueLength {V : VX} {F : Hp} {K : Int} (h : RI K F) {n : Int} (h1 : I32 n)  : Ct V yX12_queueLength cX12_queueLength 2 (some .int) 3 68 0 0 SH [vr V 136, vi n] F SH 1 (fun r F' => F' = up F 136 0 0 ∧ r = (if 0 ≤ n ∧ n < F' 136 3 ∧ chlC (F' 141) (F' 136 3) n = 0 then F' 137 (135 + n) else -1)) := by
  refine Ct.of [some (vr V 136), some (vi n)] (by decide) (by simp [lg_sl, vi_cat, vl_cat, vr_cat]) rfl (by simp [asc, lv_args, vi_cat, vl_cat, vr_cat]) (fun X hV hX => ?_)
  subst hV
  refine R_aload_0 hX dX12_queueLength_0 ?_
  refine R_iconst hX dX12_queueLength_1 ?_
  refine R_puti hX dX12_queueLength_2 fl_X12_88 o_136 rfl ?_
  refine R.gen (fun H hH => ?_)
  have hR : RI K H := by rw [hH]; exact h.z
  have hN := ri_N hR
  have hT := ri_T hR
  refine R_aload_0 hX dX12_queueLength_5 ?_
  refine R_iload_1 hX dX12_queueLength_6 ?_
  refine R_v1i hX dX12_queueLength_7 li_X12_247 mk_X12_isBare mi_X12_isBare rfl o_136 (r_isBare hR h1) ⟨⟨by decide, by decide⟩, by decide, by decide, rfl, Nat.le_of_ble_eq_true rfl, rfl⟩ (fun x_7 F_7 h_7 => ?_)
  obtain ⟨h_7, e_7⟩ := h_7; replace e_7 := e_7.symm; subst e_7
  refine R_ifeq (tgt := 26) hX dX12_queueLength_10 (by decide) (by constructor <;> first | omega | (simp (disch := omega) only [up_k, up_i, up_s]; omega)) (fun c_10 => ?_) (fun c_10 => ?_)
  · skip
    refine R_iconst hX dX12_queueLength_26 ?_
    exact R_iret hX dX12_queueLength_27 ⟨hH, by first | rw [if_pos (by omega)] | rw [if_neg (by omega)]⟩
  · skip
    refine R_aload_0 hX dX12_queueLength_13 ?_
    refine R_getq (v := 137) hX dX12_queueLength_14 fl_X12_7 o_136 rfl (by omega) ?_
    refine R_sipush hX dX12_queueLength_17 (by decide) ?_
    refine R_iload_1 hX dX12_queueLength_20 ?_
    refine R_iadd hX dX12_queueLength_21 ?_
    refine R_iald hX dX12_queueLength_22 a_137 ⟨by omega, by omega⟩ ?_
    refine R_goto (tgt := 27) hX dX12_queueLength_23 (by decide) ?_
    exact R_iret hX dX12_queueLength_27 ⟨hH, by first | rw [if_pos (by omega)] | rw [if_neg (by omega)]⟩
set_option maxRecDepth 100000 in
set_option maxHeartbeats 4000000 in
theorem r_sentCost {V : VX} {F : Hp} {K : Int} (h : RI K F) {n : Int} (h1 : I32 n)  : Ct V yX12_sentCost cX12_sentCost 2 (some .int) 3 68 0 0 SH [vr V 136, vi n] F SH 1 (fun r F' => F' = up F 136 0 0 ∧ r = (if 0 ≤ n ∧ n < F' 136 3 ∧ chlC (F' 141) (F' 136 3) n = 0 then F' 137 (39 + n) else -1)) := by
  refine Ct.of [some (vr V 136), some (vi n)] (by decide) (by simp [lg_sl, vi_cat, vl_cat, vr_cat]) rfl (by simp [asc, lv_args, vi_cat, vl_cat, vr_cat]) (fun X hV hX => ?_)
  subst hV
  refine R_aload_0 hX dX12_sentCost_0 ?_
  refine R_iconst hX dX12_sentCost_1 ?_
  refine R_puti hX dX12_sentCost_2 fl_X12_88 o_136 rfl ?_
  refine R.gen (fun H hH => ?_)
  have hR : RI K H := by rw [hH]; exact h.z
  have hN := ri_N hR
  have hT := ri_T hR
  refine R_aload_0 hX dX12_sentCost_5 ?_
  refine R_iload_1 hX dX12_sentCost_6 ?_
  refine R_v1i hX dX12_sentCost_7 li_X12_247 mk_X12_isBare mi_X12_isBare rfl o_136 (r_isBare hR h1) ⟨⟨by decide, by decide⟩, by decide, by decide, rfl, Nat.le_of_ble_eq_true rfl, rfl⟩ (fun x_7 F_7 h_7 => ?_)
  obtain ⟨h_7, e_7⟩ := h_7; replace e_7 := e_7.symm; subst e_7
  refine R_ifeq (tgt := 25) hX dX12_sentCost_10 (by decide) (by constructor <;> first | omega | (simp (disch := omega) only [up_k, up_i, up_s]; omega)) (fun c_10 => ?_) (fun c_10 => ?_)
  · skip
    refine R_iconst hX dX12_sentCost_25 ?_
    exact R_iret hX dX12_sentCost_26 ⟨hH, by first | rw [if_pos (by omega)] | rw [if_neg (by omega)]⟩
  · skip
    refine R_aload_0 hX dX12_sentCost_13 ?_
    refine R_getq (v := 137) hX dX12_sentCost_14 fl_X12_7 o_136 rfl (by omega) ?_
    refine R_bipush hX dX12_sentCost_17 (by decide) ?_
    refine R_iload_1 hX dX12_sentCost_19 ?_
    refine R_iadd hX dX12_sentCost_20 ?_
    refine R_iald hX dX12_sentCost_21 a_137 ⟨by omega, by omega⟩ ?_
    refine R_goto (tgt := 26) hX dX12_sentCost_22 (by decide) ?_
    exact R_iret hX dX12_sentCost_26 ⟨hH, by first | rw [if_pos (by omega)] | rw [if_neg (by omega)]⟩
set_option maxRecDepth 100000 in
set_option maxHeartbeats 4000000 in
theorem r_sentCount {V : VX} {F : Hp} {K : Int} (h : RI K F) {n : Int} (h1 : I32 n)  : Ct V yX12_sentCount cX12_sentCount 2 (some .int) 3 68 0 0 SH [vr V 136, vi n] F SH 1 (fun r F' => F' = up F 136 0 0 ∧ r = (if 0 ≤ n ∧ n < F' 136 3 ∧ chlC (F' 141) (F' 136 3) n = 0 then F' 137 (51 + n) else -1)) := by
  refine Ct.of [some (vr V 136), some (vi n)] (by decide) (by simp [lg_sl, vi_cat, vl_cat, vr_cat]) rfl (by simp [asc, lv_args, vi_cat, vl_cat, vr_cat]) (fun X hV hX => ?_)
  subst hV
  refine R_aload_0 hX dX12_sentCount_0 ?_
  refine R_iconst hX dX12_sentCount_1 ?_
  refine R_puti hX dX12_sentCount_2 fl_X12_88 o_136 rfl ?_
  refine R.gen (fun H hH => ?_)
  have hR : RI K H := by rw [hH]; exact h.z
  have hN := ri_N hR
  have hT := ri_T hR
  refine R_aload_0 hX dX12_sentCount_5 ?_
  refine R_iload_1 hX dX12_sentCount_6 ?_
  refine R_v1i hX dX12_sentCount_7 li_X12_247 mk_X12_isBare mi_X12_isBare rfl o_136 (r_isBare hR h1) ⟨⟨by decide, by decide⟩, by decide, by decide, rfl, Nat.le_of_ble_eq_true rfl, rfl⟩ (fun x_7 F_7 h_7 => ?_)
  obtain ⟨h_7, e_7⟩ := h_7; replace e_7 := e_7.symm; subst e_7
  refine R_ifeq (tgt := 25) hX dX12_sentCount_10 (by decide) (by constructor <;> first | omega | (simp (disch := omega) only [up_k, up_i, up_s]; omega)) (fun c_10 => ?_) (fun c_10 => ?_)
  · skip
    refine R_iconst hX dX12_sentCount_25 ?_
    exact R_iret hX dX12_sentCount_26 ⟨hH, by first | rw [if_pos (by omega)] | rw [if_neg (by omega)]⟩
  · skip
    refine R_aload_0 hX dX12_sentCount_13 ?_
    refine R_getq (v := 137) hX dX12_sentCount_14 fl_X12_7 o_136 rfl (by omega) ?_
    refine R_bipush hX dX12_sentCount_17 (by decide) ?_
    refine R_iload_1 hX dX12_sentCount_19 ?_
    refine R_iadd hX dX12_sentCount_20 ?_
    refine R_iald hX dX12_sentCount_21 a_137 ⟨by omega, by omega⟩ ?_
    refine R_goto (tgt := 26) hX dX12_sentCount_22 (by decide) ?_
    exact R_iret hX dX12_sentCount_26 ⟨hH, by first | rw [if_pos (by omega)] | rw [if_neg (by omega)]⟩
set_option maxRecDepth 100000 in
set_option maxHeartbeats 4000000 in
theorem r_borrowedCost {V : VX} {F : Hp} {K : Int} (h : RI K F) {n : Int} (h1 : I32 n)  : Ct V yX12_borrowedCost cX12_borrowedCost 2 (some .int) 3 68 0 0 SH [vr V 136, vi n] F SH 1 (fun r F' => F' = up F 136 0 0 ∧ r = (if 0 ≤ n ∧ n < F' 136 3 ∧ chlC (F' 141) (F' 136 3) n = 0 then F' 137 (63 + n) else -1)) := by
  refine Ct.of [some (vr V 136), some (vi n)] (by decide) (by simp [lg_sl, vi_cat, vl_cat, vr_cat]) rfl (by simp [asc, lv_args, vi_cat, vl_cat, vr_cat]) (fun X hV hX => ?_)
  subst hV
  refine R_aload_0 hX dX12_borrowedCost_0 ?_
  refine R_iconst hX dX12_borrowedCost_1 ?_
  refine R_puti hX dX12_borrowedCost_2 fl_X12_88 o_136 rfl ?_
  refine R.gen (fun H hH => ?_)
  have hR : RI K H := by rw [hH]; exact h.z
  have hN := ri_N hR
  have hT := ri_T hR
  refine R_aload_0 hX dX12_borrowedCost_5 ?_
  refine R_iload_1 hX dX12_borrowedCost_6 ?_
  refine R_v1i hX dX12_borrowedCost_7 li_X12_247 mk_X12_isBare mi_X12_isBare rfl o_136 (r_isBare hR h1) ⟨⟨by decide, by decide⟩, by decide, by decide, rfl, Nat.le_of_ble_eq_true rfl, rfl⟩ (fun x_7 F_7 h_7 => ?_)
  obtain ⟨h_7, e_7⟩ := h_7; replace e_7 := e_7.symm; subst e_7
  refine R_ifeq (tgt := 25) hX dX12_borrowedCost_10 (by decide) (by constructor <;> first | omega | (simp (disch := omega) only [up_k, up_i, up_s]; omega)) (fun c_10 => ?_) (fun c_10 => ?_)
  · skip
    refine R_iconst hX dX12_borrowedCost_25 ?_
    exact R_iret hX dX12_borrowedCost_26 ⟨hH, by first | rw [if_pos (by omega)] | rw [if_neg (by omega)]⟩
  · skip
    refine R_aload_0 hX dX12_borrowedCost_13 ?_
    refine R_getq (v := 137) hX dX12_borrowedCost_14 fl_X12_7 o_136 rfl (by omega) ?_
    refine R_bipush hX dX12_borrowedCost_17 (by decide) ?_
    refine R_iload_1 hX dX12_borrowedCost_19 ?_
    refine R_iadd hX dX12_borrowedCost_20 ?_
    refine R_iald hX dX12_borrowedCost_21 a_137 ⟨by omega, by omega⟩ ?_
    refine R_goto (tgt := 26) hX dX12_borrowedCost_22 (by decide) ?_
    exact R_iret hX dX12_borrowedCost_26 ⟨hH, by first | rw [if_pos (by omega)] | rw [if_neg (by omega)]⟩
set_option maxRecDepth 100000 in
set_option maxHeartbeats 4000000 in
theorem r_droppedCount {V : VX} {F : Hp} {K : Int} (h : RI K F) {n : Int} (h1 : I32 n)  : Ct V yX12_droppedCount cX12_droppedCount 2 (some .int) 3 68 0 0 SH [vr V 136, vi n] F SH 1 (fun r F' => F' = up F 136 0 0 ∧ r = (if 0 ≤ n ∧ n < F' 136 3 ∧ chlC (F' 141) (F' 136 3) n = 0 then F' 137 (87 + n) else -1)) := by
  refine Ct.of [some (vr V 136), some (vi n)] (by decide) (by simp [lg_sl, vi_cat, vl_cat, vr_cat]) rfl (by simp [asc, lv_args, vi_cat, vl_cat, vr_cat]) (fun X hV hX => ?_)
  subst hV
  refine R_aload_0 hX dX12_droppedCount_0 ?_
  refine R_iconst hX dX12_droppedCount_1 ?_
  refine R_puti hX dX12_droppedCount_2 fl_X12_88 o_136 rfl ?_
  refine R.gen (fun H hH => ?_)
  have hR : RI K H := by rw [hH]; exact h.z
  have hN := ri_N hR
  have hT := ri_T hR
  refine R_aload_0 hX dX12_droppedCount_5 ?_
  refine R_iload_1 hX dX12_droppedCount_6 ?_
  refine R_v1i hX dX12_droppedCount_7 li_X12_247 mk_X12_isBare mi_X12_isBare rfl o_136 (r_isBare hR h1) ⟨⟨by decide, by decide⟩, by decide, by decide, rfl, Nat.le_of_ble_eq_true rfl, rfl⟩ (fun x_7 F_7 h_7 => ?_)
  obtain ⟨h_7, e_7⟩ := h_7; replace e_7 := e_7.symm; subst e_7
  refine R_ifeq (tgt := 25) hX dX12_droppedCount_10 (by decide) (by constructor <;> first | omega | (simp (disch := omega) only [up_k, up_i, up_s]; omega)) (fun c_10 => ?_) (fun c_10 => ?_)
  · skip
    refine R_iconst hX dX12_droppedCount_25 ?_
    exact R_iret hX dX12_droppedCount_26 ⟨hH, by first | rw [if_pos (by omega)] | rw [if_neg (by omega)]⟩
  · skip
    refine R_aload_0 hX dX12_droppedCount_13 ?_
    refine R_getq (v := 137) hX dX12_droppedCount_14 fl_X12_7 o_136 rfl (by omega) ?_
    refine R_bipush hX dX12_droppedCount_17 (by decide) ?_
    refine R_iload_1 hX dX12_droppedCount_19 ?_
    refine R_iadd hX dX12_droppedCount_20 ?_
    refine R_iald hX dX12_droppedCount_21 a_137 ⟨by omega, by omega⟩ ?_
    refine R_goto (tgt := 26) hX dX12_droppedCount_22 (by decide) ?_
    exact R_iret hX dX12_droppedCount_26 ⟨hH, by first | rw [if_pos (by omega)] | rw [if_neg (by omega)]⟩
set_option maxRecDepth 100000 in
set_option maxHeartbeats 4000000 in
theorem r_nodeCount {V : VX} {F : Hp} {K : Int} (h : RI K F)  : Ct V yX12_nodeCount cX12_nodeCount 1 (some .int) 0 0 0 0 SH [vr V 136] F SH 1 (fun r F' => F' = up F 136 0 0 ∧ r = F' 136 3) := by
  refine Ct.of [some (vr V 136)] (by decide) (by simp [lg_sl, vi_cat, vl_cat, vr_cat]) rfl (by simp [asc, lv_args, vi_cat, vl_cat, vr_cat]) (fun X hV hX => ?_)
  subst hV
  refine R_aload_0 hX dX12_nodeCount_0 ?_
  refine R_iconst hX dX12_nodeCount_1 ?_
  refine R_puti hX dX12_nodeCount_2 fl_X12_88 o_136 rfl ?_
  refine R.gen (fun H hH => ?_)
  have hR : RI K H := by rw [hH]; exact h.z
  have hN := ri_N hR
  have hT := ri_T hR
  refine R_aload_0 hX dX12_nodeCount_5 ?_
  refine R_geti hX dX12_nodeCount_6 fl_X12_91 o_136 rfl ?_
  exact R_iret hX dX12_nodeCount_9 ⟨hH, rfl⟩
set_option maxRecDepth 100000 in
set_option maxHeartbeats 4000000 in
theorem r_time {V : VX} {F : Hp} {K : Int} (h : RI K F)  : Ct V yX12_time cX12_time 1 (some .int) 0 0 0 0 SH [vr V 136] F SH 1 (fun r F' => F' = up F 136 0 0 ∧ r = F' 137 0) := by
  refine Ct.of [some (vr V 136)] (by decide) (by simp [lg_sl, vi_cat, vl_cat, vr_cat]) rfl (by simp [asc, lv_args, vi_cat, vl_cat, vr_cat]) (fun X hV hX => ?_)
  subst hV
  refine R_aload_0 hX dX12_time_0 ?_
  refine R_iconst hX dX12_time_1 ?_
  refine R_puti hX dX12_time_2 fl_X12_88 o_136 rfl ?_
  refine R.gen (fun H hH => ?_)
  have hR : RI K H := by rw [hH]; exact h.z
  have hN := ri_N hR
  have hT := ri_T hR
  refine R_aload_0 hX dX12_time_5 ?_
  refine R_getq (v := 137) hX dX12_time_6 fl_X12_7 o_136 rfl (by omega) ?_
  refine R_iconst hX dX12_time_9 ?_
  refine R_iald hX dX12_time_10 a_137 ⟨by omega, by omega⟩ ?_
  exact R_iret hX dX12_time_11 ⟨hH, rfl⟩
set_option maxRecDepth 100000 in
set_option maxHeartbeats 4000000 in
theorem r_logCount {V : VX} {F : Hp} {K : Int} (h : RI K F)  : Ct V yX12_logCount cX12_logCount 1 (some .int) 0 0 0 0 SH [vr V 136] F SH 1 (fun r F' => F' = up F 136 0 0 ∧ r = F' 137 2) := by
  refine Ct.of [some (vr V 136)] (by decide) (by simp [lg_sl, vi_cat, vl_cat, vr_cat]) rfl (by simp [asc, lv_args, vi_cat, vl_cat, vr_cat]) (fun X hV hX => ?_)
  subst hV
  refine R_aload_0 hX dX12_logCount_0 ?_
  refine R_iconst hX dX12_logCount_1 ?_
  refine R_puti hX dX12_logCount_2 fl_X12_88 o_136 rfl ?_
  refine R.gen (fun H hH => ?_)
  have hR : RI K H := by rw [hH]; exact h.z
  have hN := ri_N hR
  have hT := ri_T hR
  refine R_aload_0 hX dX12_logCount_5 ?_
  refine R_getq (v := 137) hX dX12_logCount_6 fl_X12_7 o_136 rfl (by omega) ?_
  refine R_iconst hX dX12_logCount_9 ?_
  refine R_iald hX dX12_logCount_10 a_137 ⟨by omega, by omega⟩ ?_
  exact R_iret hX dX12_logCount_11 ⟨hH, rfl⟩
set_option maxRecDepth 100000 in
set_option maxHeartbeats 4000000 in
theorem r_faultCode {V : VX} {F : Hp} {K : Int} (h : RI K F)  : Ct V yX12_faultCode cX12_faultCode 1 (some .int) 0 0 0 0 SH [vr V 136] F SH 1 (fun r F' => F' = up F 136 0 0 ∧ r = F' 136 19) := by
  refine Ct.of [some (vr V 136)] (by decide) (by simp [lg_sl, vi_cat, vl_cat, vr_cat]) rfl (by simp [asc, lv_args, vi_cat, vl_cat, vr_cat]) (fun X hV hX => ?_)
  subst hV
  refine R_aload_0 hX dX12_faultCode_0 ?_
  refine R_iconst hX dX12_faultCode_1 ?_
  refine R_puti hX dX12_faultCode_2 fl_X12_88 o_136 rfl ?_
  refine R.gen (fun H hH => ?_)
  have hR : RI K H := by rw [hH]; exact h.z
  have hN := ri_N hR
  have hT := ri_T hR
  refine R_aload_0 hX dX12_faultCode_5 ?_
  refine R_geti hX dX12_faultCode_6 fl_X12_109 o_136 rfl ?_
  exact R_iret hX dX12_faultCode_9 ⟨hH, rfl⟩
set_option maxRecDepth 100000 in
set_option maxHeartbeats 4000000 in
theorem r_faultPosition {V : VX} {F : Hp} {K : Int} (h : RI K F)  : Ct V yX12_faultPosition cX12_faultPosition 1 (some .int) 0 0 0 0 SH [vr V 136] F SH 1 (fun r F' => F' = up F 136 0 0 ∧ r = F' 136 20) := by
  refine Ct.of [some (vr V 136)] (by decide) (by simp [lg_sl, vi_cat, vl_cat, vr_cat]) rfl (by simp [asc, lv_args, vi_cat, vl_cat, vr_cat]) (fun X hV hX => ?_)
  subst hV
  refine R_aload_0 hX dX12_faultPosition_0 ?_
  refine R_iconst hX dX12_faultPosition_1 ?_
  refine R_puti hX dX12_faultPosition_2 fl_X12_88 o_136 rfl ?_
  refine R.gen (fun H hH => ?_)
  have hR : RI K H := by rw [hH]; exact h.z
  have hN := ri_N hR
  have hT := ri_T hR
  refine R_aload_0 hX dX12_faultPosition_5 ?_
  refine R_geti hX dX12_faultPosition_6 fl_X12_49 o_136 rfl ?_
  exact R_iret hX dX12_faultPosition_9 ⟨hH, rfl⟩
set_option maxRecDepth 100000 in
set_option maxHeartbeats 4000000 in
theorem r_isLeaf {V : VX} {F : Hp} {K : Int} (h : RI K F) {n : Int} (h1 : I32 n)  : Ct V yX12_isLeaf cX12_isLeaf 2 (some .boolean) 3 68 0 0 SH [vr V 136, vi n] F SH 1 (fun r F' => F' = up F 136 0 0 ∧ ((r = 1 ∧ (0 ≤ n ∧ n < F' 136 3 ∧ chlC (F' 141) (F' 136 3) n = 0)) ∨ (r = 0 ∧ ¬ (0 ≤ n ∧ n < F' 136 3 ∧ chlC (F' 141) (F' 136 3) n = 0)))) := by
  refine Ct.of [some (vr V 136), some (vi n)] (by decide) (by simp [lg_sl, vi_cat, vl_cat, vr_cat]) rfl (by simp [asc, lv_args, vi_cat, vl_cat, vr_cat]) (fun X hV hX => ?_)
  subst hV
  refine R_aload_0 hX dX12_isLeaf_0 ?_
  refine R_iconst hX dX12_isLeaf_1 ?_
  refine R_puti hX dX12_isLeaf_2 fl_X12_88 o_136 rfl ?_
  refine R.gen (fun H hH => ?_)
  have hR : RI K H := by rw [hH]; exact h.z
  have hN := ri_N hR
  have hT := ri_T hR
  refine R_aload_0 hX dX12_isLeaf_5 ?_
  refine R_iload_1 hX dX12_isLeaf_6 ?_
  refine R_v1i hX dX12_isLeaf_7 li_X12_247 mk_X12_isBare mi_X12_isBare rfl o_136 (r_isBare hR h1) ⟨⟨by decide, by decide⟩, by decide, by decide, rfl, Nat.le_of_ble_eq_true rfl, rfl⟩ (fun x_7 F_7 h_7 => ?_)
  obtain ⟨h_7, e_7⟩ := h_7; replace e_7 := e_7.symm; subst e_7
  exact R_zret hX (by omega) dX12_isLeaf_10 ⟨hH, h_7⟩
set_option maxRecDepth 100000 in
set_option maxHeartbeats 4000000 in
theorem r_mayBorrow {V : VX} {F : Hp} {K : Int} (h : RI K F) {n : Int} (h1 : I32 n)  : Ct V yX12_mayBorrow cX12_mayBorrow 2 (some .boolean) 2 46 0 0 SH [vr V 136, vi n] F SH 1 (fun r F' => F' = up F 136 0 0 ∧ ((r = 1 ∧ (0 ≤ n ∧ n < F' 136 3 ∧ F' 145 n = 0)) ∨ (r = 0 ∧ ¬ (0 ≤ n ∧ n < F' 136 3 ∧ F' 145 n = 0)))) := by
  refine Ct.of [some (vr V 136), some (vi n)] (by decide) (by simp [lg_sl, vi_cat, vl_cat, vr_cat]) rfl (by simp [asc, lv_args, vi_cat, vl_cat, vr_cat]) (fun X hV hX => ?_)
  subst hV
  refine R_aload_0 hX dX12_mayBorrow_0 ?_
  refine R_iconst hX dX12_mayBorrow_1 ?_
  refine R_puti hX dX12_mayBorrow_2 fl_X12_88 o_136 rfl ?_
  refine R.gen (fun H hH => ?_)
  have hR : RI K H := by rw [hH]; exact h.z
  have hN := ri_N hR
  have hT := ri_T hR
  have hA := ri_A hR
  have hSS := ri_S hR
  refine R_aload_0 hX dX12_mayBorrow_5 ?_
  refine R_iload_1 hX dX12_mayBorrow_6 ?_
  refine R_v1i hX dX12_mayBorrow_7 li_X12_98 mk_X12_isNode mi_X12_isNode rfl o_136 (r_isNode hR h1) ⟨⟨by decide, by decide⟩, by decide, by decide, rfl, Nat.le_of_ble_eq_true rfl, rfl⟩ (fun x_7 F_7 h_7 => ?_)
  obtain ⟨h_7, e_7⟩ := h_7; replace e_7 := e_7.symm; subst e_7
  refine R_ifeq (tgt := 26) hX dX12_mayBorrow_10 (by decide) (by constructor <;> first | omega | (simp (disch := omega) only [up_k, up_i, up_s]; omega)) (fun c_10 => ?_) (fun c_10 => ?_)
  · skip
    refine R_iconst hX dX12_mayBorrow_26 ?_
    exact R_zret hX (by omega) dX12_mayBorrow_27 ⟨hH, by omega⟩
  · skip
    have hs := hSS n (by omega) (by omega)
    refine R_aload_0 hX dX12_mayBorrow_13 ?_
    refine R_getq (v := 145) hX dX12_mayBorrow_14 fl_X12_43 o_136 rfl (by omega) ?_
    refine R_iload_1 hX dX12_mayBorrow_17 ?_
    refine R_zald hX dX12_mayBorrow_18 a_145 ⟨by omega, by omega⟩ ?_
    refine R_ifne (tgt := 26) hX dX12_mayBorrow_19 (by decide) (by constructor <;> first | omega | (simp (disch := omega) only [up_k, up_i, up_s]; omega)) (fun c_19 => ?_) (fun c_19 => ?_)
    · skip
      refine R_iconst hX dX12_mayBorrow_26 ?_
      exact R_zret hX (by omega) dX12_mayBorrow_27 ⟨hH, by omega⟩
    · skip
      refine R_iconst hX dX12_mayBorrow_22 ?_
      refine R_goto (tgt := 27) hX dX12_mayBorrow_23 (by decide) ?_
      exact R_zret hX (by omega) dX12_mayBorrow_27 ⟨hH, by omega⟩
