/-- what holds of the reference's reader between calls -/
def PZ (F : Hp) : Prop := (0 ≤ F 136 14 ∧ F 136 14 ≤ 900) ∧ (∀ i : Int, 0 ≤ i → i < F 136 14 → 0 ≤ F 146 i ∧ F 146 i ≤ 255) ∧ (0 ≤ F 136 17 ∧ F 136 17 ≤ 4) ∧ (0 ≤ F 136 18 ∧ F 136 18 ≤ 1000009) ∧ (0 ≤ F 136 21 ∧ F 136 21 < 1099511627776) ∧ (∀ n : Int, 0 ≤ n → n < 12 → 0 ≤ F 140 n ∧ F 140 n < 1099511627776) ∧ (∀ i : Int, 0 ≤ i → i < 84 → F 149 i = 0 ∨ F 149 i = 1)
def ld0 (F : Hp) : Hp := up (up (up (up (up (up (up (up (up (up F 136 0 0) 136 19 0) 136 20 (-2)) 136 16 0) 136 22 0) 136 23 10) 136 24 (-1)) 136 25 0) 136 26 0) 136 39 0
theorem pq_ld0 {F : Hp} (h : PZ F) : PQ (ld0 F) := by
  obtain ⟨h1, h2, h3, h4, h5, h6, h7⟩ := h
  unfold PQ TxQ ld0
  simp (disch := omega) only [up_i, up_k, up_s]
  exact ⟨⟨h1, h2, by omega⟩, by omega, h3, h4, h5, by omega, by omega, h6, by first | omega | simp, by first | omega | simp, h7⟩
theorem at_ld0 {F : Hp} (h : PZ F) : AtQ (sc (ld0 F)) := by
  have p := pq_ld0 h
  have g : ld0 F 136 19 = 0 := by unfold ld0; simp (disch := omega) only [up_i, up_s]
  rw [show sc (ld0 F) = scF (ld0 F) from if_pos g]
  have f := scF_f (ld0 F)
  have hr := rt_rng p.1
  have hk := rk_f p.1
  have hb := p.1.2.2
  unfold AtQ
  rw [f.1, f.2.1, f.2.2.1]
  exact ⟨by omega, by omega, fun y => (hr.2.2.2.2.1 y).2⟩
def rlS : Nat → Hp → Hp
  | 0, F => F
  | k + 1, F => if F 136 19 = 0 ∧ ¬ F 136 17 = 0 then rlS k (stmS F) else F
theorem rlS_go {k : Nat} {F : Hp} (hk : 0 < k) (h : F 136 19 = 0 ∧ ¬ F 136 17 = 0) : rlS k F = rlS (k - 1) (stmS F) := by
  cases k with
  | zero => omega
  | succ k => exact if_pos h
theorem rlS_stop {k : Nat} {F : Hp} (h : ¬ (F 136 19 = 0 ∧ ¬ F 136 17 = 0)) : rlS k F = F := by
  cases k with
  | zero => rfl
  | succ k => exact if_neg h
def ldS1 (F : Hp) : Hp := rlS 901 (sc (ld0 F))
set_option maxRecDepth 100000 in
set_option maxHeartbeats 4000000 in
theorem r_load {V : VX} {F : Hp} (h : PZ F) (h6s : ldS1 F 136 19 = 0 → ∀ d : Int, 0 ≤ d → d < ldS1 F 136 22 → ldS1 F 148 (7 * d + 6) = 0 ∨ ldS1 F 148 (7 * d + 6) = 1)  : Ct V yX12_load cX12_load 1 (some .int) 6 133 0 0 SH [vr V 136] F SH 1 (fun r F' => (¬ ldS1 F 136 19 = 0 ∧ r = -1 ∧ F' = up (ldS1 F) 136 14 0) ∨ (ldS1 F 136 19 = 0 ∧ r = ldS1 F 136 22 ∧ F' = tkR (up (ldS1 F) 136 14 0))) := by
  refine Ct.of [some (vr V 136)] (by decide) (by simp [lg_sl, vi_cat, vl_cat, vr_cat]) rfl (by simp [asc, lv_args, vi_cat, vl_cat, vr_cat]) (fun X hV hX => ?_)
  subst hV
  have p0 := pq_ld0 h
  have a0 := at_ld0 h
  refine R_aload_0 hX dX12_load_0 ?_
  refine R_iconst hX dX12_load_1 ?_
  refine R_puti hX dX12_load_2 fl_X12_88 o_136 rfl ?_
  refine R_aload_0 hX dX12_load_5 ?_
  refine R_iconst hX dX12_load_6 ?_
  refine R_puti hX dX12_load_7 fl_X12_109 o_136 rfl ?_
  refine R_aload_0 hX dX12_load_10 ?_
  refine R_bipush hX dX12_load_11 (by decide) ?_
  refine R_puti hX dX12_load_13 fl_X12_49 o_136 rfl ?_
  refine R_aload_0 hX dX12_load_16 ?_
  refine R_iconst hX dX12_load_17 ?_
  refine R_puti hX dX12_load_18 fl_X12_122 o_136 rfl ?_
  refine R_aload_0 hX dX12_load_21 ?_
  refine R_iconst hX dX12_load_22 ?_
  refine R_puti hX dX12_load_23 fl_X12_182 o_136 rfl ?_
  refine R_aload_0 hX dX12_load_26 ?_
  refine R_bipush hX dX12_load_27 (by decide) ?_
  refine R_puti hX dX12_load_29 fl_X12_221 o_136 rfl ?_
  refine R_aload_0 hX dX12_load_32 ?_
  refine R_iconst hX dX12_load_33 ?_
  refine R_puti hX dX12_load_34 fl_X12_227 o_136 rfl ?_
  refine R_aload_0 hX dX12_load_37 ?_
  refine R_iconst hX dX12_load_38 ?_
  refine R_putz hX dX12_load_39 fl_X12_217 o_136 rfl (by omega) ?_
  refine R_aload_0 hX dX12_load_42 ?_
  refine R_iconst hX dX12_load_43 ?_
  refine R_putz hX dX12_load_44 fl_X12_224 o_136 rfl (by omega) ?_
  refine R_aload_0 hX dX12_load_47 ?_
  refine R_iconst hX dX12_load_48 ?_
  refine R_puti hX dX12_load_49 fl_X12_205 o_136 rfl ?_
  refine R.eq rfl rfl (show _ = ld0 F from rfl) ?_
  refine R_aload_0 hX dX12_load_52 ?_
  refine R_v0v hX dX12_load_53 li_X12_179 mk_X12_scans mi_X12_scans rfl o_136 (r_scans (p0).1 (by have z := (p0).2.1; constructor <;> omega)) ⟨⟨by decide, by decide⟩, by decide, by decide, rfl, Nat.le_of_ble_eq_true rfl, rfl⟩ (fun x_53 F_53 h_53 => ?_)
  subst h_53
  have lp_56 : ∀ (n : Nat) (k : Nat) (G : Hp), (PQ G) → (AtQ G) → (rlS k G = ldS1 F) → (G 136 14 - G 136 15 < k ∨ ¬ G 136 19 = 0) → k < n → R X SH 0 0 56 [some (vr (xV X) 136)] [] G (Zq X SH 1 (fun r F' => (¬ ldS1 F 136 19 = 0 ∧ r = -1 ∧ F' = up (ldS1 F) 136 14 0) ∨ (ldS1 F 136 19 = 0 ∧ r = ldS1 F 136 22 ∧ F' = tkR (up (ldS1 F) 136 14 0))) 0 0) := by
    intro n
    induction n with
    | zero => intro k G iv56_0 iv56_1 iv56_2 iv56_3 hm; exact absurd hm (Nat.not_lt_zero _)
    | succ n ih_56 =>
      intro k G iv56_0 iv56_1 iv56_2 iv56_3 hm_56
      have q1 := iv56_0.1.2.2
      have q2 := iv56_1
      unfold AtQ at q2
      refine R_aload_0 hX dX12_load_56 ?_
      refine R_v0i hX dX12_load_57 li_X12_112 mk_X12_isGood mi_X12_isGood rfl o_136 (r_isGood (by have z := iv56_0.2.1; constructor <;> omega)) ⟨⟨by decide, by decide⟩, by decide, by decide, rfl, Nat.le_of_ble_eq_true rfl, rfl⟩ (fun x_57 F_57 h_57 => ?_)
      obtain ⟨h_57, e_57⟩ := h_57; replace e_57 := e_57.symm; subst e_57
      refine R_ifeq (tgt := 77) hX dX12_load_60 (by decide) (by constructor <;> first | omega | (simp (disch := omega) only [up_k, up_i, up_s]; omega)) (fun c_60 => ?_) (fun c_60 => ?_)
      · skip
        have hGL : G = ldS1 F := by rw [← iv56_2, rlS_stop (by omega)]
        subst hGL
        refine R_aload_0 hX dX12_load_77 ?_
        refine R_iconst hX dX12_load_78 ?_
        refine R_puti hX dX12_load_79 fl_X12_102 o_136 rfl ?_
        refine R_aload_0 hX dX12_load_82 ?_
        refine R_v0i hX dX12_load_83 li_X12_112 mk_X12_isGood mi_X12_isGood rfl o_136 (r_isGood (by rw [up_i (by decide)]; have z := iv56_0.2.1; constructor <;> omega)) ⟨⟨by decide, by decide⟩, by decide, by decide, rfl, Nat.le_of_ble_eq_true rfl, rfl⟩ (fun x_83 F_83 h_83 => ?_)
        obtain ⟨h_83, e_83⟩ := h_83; replace e_83 := e_83.symm; subst e_83
        refine R_ifne (tgt := 91) hX dX12_load_86 (by decide) (by constructor <;> first | omega | (simp (disch := omega) only [up_k, up_i, up_s]; omega)) (fun c_86 => ?_) (fun c_86 => ?_)
        · skip
          rw [up_i (by decide)] at h_83
          have hgd : ldS1 F 136 19 = 0 := by omega
          refine R_aload_0 hX dX12_load_91 ?_
          refine R_v0v hX dX12_load_92 li_X12_236 mk_X12_takes mi_X12_takes rfl o_136 (r_takes (by rw [up_i (by decide)]; exact iv56_0.2.2.2.2.2.1) (by rw [up_i (by decide)]; exact iv56_0.2.2.2.2.2.2.1) (by rw [up_i (by decide)]; exact iv56_0.2.2.2.2.2.2.2.2.2.1) (by rw [up_i (by decide), up_r (show (148 : Int) ≠ 136 by decide)]; exact h6s hgd)) ⟨⟨by decide, by decide⟩, by decide, by decide, rfl, Nat.le_of_ble_eq_true rfl, rfl⟩ (fun x_92 F_92 h_92 => ?_)
          subst h_92
          refine R_aload_0 hX dX12_load_95 ?_
          refine R_geti hX dX12_load_96 fl_X12_91 o_136 rfl ?_
          try simp (disch := omega) only [up_i, up_k, up_s]
          have e22 : tkR (up (ldS1 F) 136 14 0) 136 3 = ldS1 F 136 22 := by unfold tkR; rw [tnS_r (by decide), tkZ_f]; unfold tkH; rw [up_i (by decide), up_i (by decide), up_i (by decide), up_s, up_i (by decide)]
          exact R_iret hX dX12_load_99 (Or.inr ⟨hgd, e22, rfl⟩)
        · skip
          rw [up_i (by decide)] at h_83
          refine R_iconst hX dX12_load_89 ?_
          exact R_iret hX dX12_load_90 (Or.inl ⟨by omega, rfl, rfl⟩)
      · skip
        refine R_aload_0 hX dX12_load_63 ?_
        refine R_geti hX dX12_load_64 fl_X12_116 o_136 rfl ?_
        try simp (disch := omega) only [up_i, up_k, up_s]
        refine R_ifeq (tgt := 77) hX dX12_load_67 (by decide) (by have z := iv56_0.2.2.1; constructor <;> omega) (fun c_67 => ?_) (fun c_67 => ?_)
        · skip
          have hGL : G = ldS1 F := by rw [← iv56_2, rlS_stop (by omega)]
          subst hGL
          refine R_aload_0 hX dX12_load_77 ?_
          refine R_iconst hX dX12_load_78 ?_
          refine R_puti hX dX12_load_79 fl_X12_102 o_136 rfl ?_
          refine R_aload_0 hX dX12_load_82 ?_
          refine R_v0i hX dX12_load_83 li_X12_112 mk_X12_isGood mi_X12_isGood rfl o_136 (r_isGood (by rw [up_i (by decide)]; have z := iv56_0.2.1; constructor <;> omega)) ⟨⟨by decide, by decide⟩, by decide, by decide, rfl, Nat.le_of_ble_eq_true rfl, rfl⟩ (fun x_83 F_83 h_83 => ?_)
          obtain ⟨h_83, e_83⟩ := h_83; replace e_83 := e_83.symm; subst e_83
          refine R_ifne (tgt := 91) hX dX12_load_86 (by decide) (by constructor <;> first | omega | (simp (disch := omega) only [up_k, up_i, up_s]; omega)) (fun c_86 => ?_) (fun c_86 => ?_)
          · skip
            rw [up_i (by decide)] at h_83
            have hgd : ldS1 F 136 19 = 0 := by omega
            refine R_aload_0 hX dX12_load_91 ?_
            refine R_v0v hX dX12_load_92 li_X12_236 mk_X12_takes mi_X12_takes rfl o_136 (r_takes (by rw [up_i (by decide)]; exact iv56_0.2.2.2.2.2.1) (by rw [up_i (by decide)]; exact iv56_0.2.2.2.2.2.2.1) (by rw [up_i (by decide)]; exact iv56_0.2.2.2.2.2.2.2.2.2.1) (by rw [up_i (by decide), up_r (show (148 : Int) ≠ 136 by decide)]; exact h6s hgd)) ⟨⟨by decide, by decide⟩, by decide, by decide, rfl, Nat.le_of_ble_eq_true rfl, rfl⟩ (fun x_92 F_92 h_92 => ?_)
            subst h_92
            refine R_aload_0 hX dX12_load_95 ?_
            refine R_geti hX dX12_load_96 fl_X12_91 o_136 rfl ?_
            try simp (disch := omega) only [up_i, up_k, up_s]
            have e22 : tkR (up (ldS1 F) 136 14 0) 136 3 = ldS1 F 136 22 := by unfold tkR; rw [tnS_r (by decide), tkZ_f]; unfold tkH; rw [up_i (by decide), up_i (by decide), up_i (by decide), up_s, up_i (by decide)]
            exact R_iret hX dX12_load_99 (Or.inr ⟨hgd, e22, rfl⟩)
          · skip
            rw [up_i (by decide)] at h_83
            refine R_iconst hX dX12_load_89 ?_
            exact R_iret hX dX12_load_90 (Or.inl ⟨by omega, rfl, rfl⟩)
        · skip
          refine R_aload_0 hX dX12_load_70 ?_
          refine R_v0v hX dX12_load_71 li_X12_233 mk_X12_readsStatement mi_X12_readsStatement rfl o_136 (r_readsStatement iv56_0 iv56_1) ⟨⟨by decide, by decide⟩, by decide, by decide, rfl, Nat.le_of_ble_eq_true rfl, rfl⟩ (fun x_71 F_71 h_71 => ?_)
          subst h_71
          have hny := Ny.stm iv56_0 iv56_1
          refine R_goto (tgt := 56) hX dX12_load_74 (by decide) ?_
          exact ih_56 (k - 1) _ hny.1 hny.2.1 (by rw [← iv56_2]; exact (rlS_go (by omega) ⟨by omega, c_67⟩).symm) (by by_cases z : stmS G 136 19 = 0; (left; have q0 := stm_at iv56_0 iv56_1 z; have q3 := hny.2.2.1; omega); exact Or.inr z) (by omega)
  exact lp_56 902 901 _ p0.sc a0 rfl (Or.inl (by have q1 := p0.sc.1.1; have q2 := a0.1; omega)) (by omega)
