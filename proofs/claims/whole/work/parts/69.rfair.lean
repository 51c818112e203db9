theorem lv_0 {b u : Int} {F : Hp} : ∀ k : Nat, 0 ≤ sumN (lvS u F) k ∧ (sumN (lvS u F) k = 0 → sumN (fun n => fxS b u F n * fxS b u F n) k = 0)
  | 0 => ⟨Int.le_refl _, fun _ => rfl⟩
  | k + 1 => by
    obtain ⟨h1, h2⟩ := lv_0 (b := b) (u := u) (F := F) k
    unfold sumN
    have hl : lvS u F k = 0 ∨ lvS u F k = 1 := by unfold lvS; split; exact Or.inr rfl; exact Or.inl rfl
    refine ⟨by omega, fun z => ?_⟩
    have hz : lvS u F k = 0 := by omega
    have hc : ¬ F (u + 4) k = 0 := fun q => by unfold lvS at hz; rw [if_pos q] at hz; omega
    have hf : fxS b u F k = 0 := if_neg hc
    rw [h2 (by omega), hf]
    rfl
set_option maxRecDepth 100000 in
set_option maxHeartbeats 4000000 in
theorem r_fairness {V : VX} {F : Hp} {K : Int} (h : RI K F) (hK2 : K ≤ 100000)  : Ct V yX12_fairness cX12_fairness 9 (some .int) 3 68 0 0 SH [vr V 136] F SH 1 (fun r F' => F' = up F 136 0 0 ∧ r = (if F' 136 3 = 0 then -1 else frS 1000 1100 (vw 0 F'))) := by
  refine Ct.of [some (vr V 136), none, none, none, none, none, none, none, none] (by decide) (by simp [lg_sl, vi_cat, vl_cat, vr_cat]) rfl (by simp [asc, lv_args, vi_cat, vl_cat, vr_cat]) (fun X hV hX => ?_)
  subst hV
  refine R_aload_0 hX dX12_fairness_0 ?_
  refine R_iconst hX dX12_fairness_1 ?_
  refine R_puti hX dX12_fairness_2 fl_X12_88 o_136 rfl ?_
  refine R.gen (fun H hH => ?_)
  have hR : RI K H := by rw [hH]; exact h.z
  have hN := ri_N hR
  have hT := ri_T hR
  have hA := ri_A hR
  have hSS := ri_S hR
  have hB := ri_B hR
  have hQ := (ri_Q hR).2.1
  have hsd : ∀ n : Int, 0 ≤ n → n < vw 0 H 1100 0 → (0 ≤ vw 0 H (1000 + 14) n ∧ vw 0 H (1000 + 14) n ≤ 100000) ∧ (1 ≤ vw 0 H (1000 + 3) n ∧ vw 0 H (1000 + 3) n ≤ 9) := fun n z0 z1 => by
    rw [vw_1100_0] at z1
    have k1 := hB n z0 z1
    have k2 := hA n z0 z1
    have k3 := hQ n z0 z1
    rw [show (1000 : Int) + 14 = 1014 from rfl, show (1000 : Int) + 3 = 1003 from rfl, vw_14 (by omega), vw_3 (by omega)]
    omega
  have h4 : ∀ x : Int, vw 0 H (1100 + 4) x = chlC (H 141) (H 136 3) x := fun x => congrFun vw_1104 x
  have hv : ∀ i : Int, 0 ≤ i → i < 12 → vw 0 H (1000 + 14) i = H 137 (39 + i) ∧ vw 0 H (1000 + 3) i = H 137 (123 + i) := fun i z0 z1 => ⟨vw_14 ⟨z0, z1⟩, vw_3 ⟨z0, z1⟩⟩
  have hfb := fr_bd (b := 1000) (u := 1100) (F := vw 0 H) (fun n z0 z1 => fxS_rng (hsd n z0 z1).1 (hsd n z0 z1).2.1) (by rw [vw_1100_0]; exact hN)
  rw [vw_1100_0] at hfb
  refine R_aload_0 hX dX12_fairness_5 ?_
  refine R_geti hX dX12_fairness_6 fl_X12_91 o_136 rfl ?_
  refine R_ifne (tgt := 14) hX dX12_fairness_9 (by decide) (by constructor <;> first | omega | (simp (disch := omega) only [up_k, up_i, up_s]; omega)) (fun c_9 => ?_) (fun c_9 => ?_)
  · skip
    refine R_lconst0 hX dX12_fairness_14 ?_
    refine R_lstore_1 hX c1_r dX12_fairness_15 ?_
    refine R_lconst0 hX dX12_fairness_16 ?_
    refine R_lstore_3 hX c1_n dX12_fairness_17 ?_
    refine R_iconst hX dX12_fairness_18 ?_
    refine R_istore_5 hX c1_n dX12_fairness_19 ?_
    refine R_iconst hX dX12_fairness_21 ?_
    refine R_istore_6 hX c1_i dX12_fairness_22 ?_
    have lp_24 : ∀ (n : Nat) (x : Int), (0 ≤ x ∧ x ≤ H 136 3) → (13 - x).toNat < n → R X SH 0 0 24 [some (vr (xV X) 136), some (vl (sumN (fxS 1000 1100 (vw 0 H)) x.toNat)), none, some (vl (sumN (fun n => fxS 1000 1100 (vw 0 H) n * fxS 1000 1100 (vw 0 H) n) x.toNat)), none, some (vi (sumN (lvS 1100 (vw 0 H)) x.toNat)), some (vi x), none, none] [] H (Zq X SH 1 (fun r F' => F' = up F 136 0 0 ∧ r = (if F' 136 3 = 0 then -1 else frS 1000 1100 (vw 0 F'))) 0 0) := by
      intro n
      induction n with
      | zero => intro x iv24_0 hm; exact absurd hm (Nat.not_lt_zero _)
      | succ n ih_24 =>
        intro x iv24_0 hm_24
        have hfi := hfb x iv24_0.1 iv24_0.2
        refine R_iload_6 hX dX12_fairness_24 ?_
        refine R_aload_0 hX dX12_fairness_26 ?_
        refine R_geti hX dX12_fairness_27 fl_X12_91 o_136 rfl ?_
        refine R_icmpge (tgt := 96) hX dX12_fairness_30 (by decide) (by constructor <;> first | omega | (simp (disch := omega) only [up_k, up_i, up_s]; omega)) (by constructor <;> first | omega | (simp (disch := omega) only [up_k, up_i, up_s]; omega)) (fun c_30 => ?_) (fun c_30 => ?_)
        · skip
          have hi : x = H 136 3 := by omega
          subst hi
          have hl0 := lv_0 (b := 1000) (u := 1100) (F := vw 0 H) (H 136 3).toNat
          refine R_lload_3 hX dX12_fairness_96 ?_
          refine R_lconst0 hX dX12_fairness_97 ?_
          refine R_lcmp hX (by constructor <;> first | omega | (simp (disch := omega) only [up_k, up_i, up_s]; omega)) (by constructor <;> first | omega | (simp (disch := omega) only [up_k, up_i, up_s]; omega)) dX12_fairness_98 ?_
          refine R_ifne (tgt := 108) hX dX12_fairness_99 (by decide) (by unfold lc; split <;> (try split) <;> constructor <;> omega) (fun c_99 => ?_) (fun c_99 => ?_)
          · skip
            have hsq : ¬ sumN (fun n => fxS 1000 1100 (vw 0 H) n * fxS 1000 1100 (vw 0 H) n) (H 136 3).toNat = 0 := by unfold lc at c_99; split at c_99 <;> (try split at c_99) <;> omega
            have hm1 := mul_rng (show 0 ≤ 1000 * sumN (fxS 1000 1100 (vw 0 H)) (H 136 3).toNat ∧ 1000 * sumN (fxS 1000 1100 (vw 0 H)) (H 136 3).toNat ≤ 12000000000 by omega) hfi.1
            have hm2 := mul_rng hfi.2.2 hfi.2.1
            have hd0 : ¬ sumN (lvS 1100 (vw 0 H)) (H 136 3).toNat * sumN (fun n => fxS 1000 1100 (vw 0 H) n * fxS 1000 1100 (vw 0 H) n) (H 136 3).toNat = 0 := Int.mul_ne_zero (fun z => hsq (hl0.2 z)) hsq
            refine R_ldc2 (n := 1000) hX k2_X12_311 rfl dX12_fairness_108 ?_
            refine R_lload_1 hX dX12_fairness_111 ?_
            refine R_lmul hX dX12_fairness_112 ?_
            refine R_lload_1 hX dX12_fairness_113 ?_
            refine R_lmul hX dX12_fairness_114 ?_
            refine R_iload_5 hX dX12_fairness_115 ?_
            refine R_i2l hX (by constructor <;> first | omega | (simp (disch := omega) only [up_k, up_i, up_s]; omega)) dX12_fairness_117 ?_
            refine R_lload_3 hX dX12_fairness_118 ?_
            refine R_lmul hX dX12_fairness_119 ?_
            refine R_ldiv hX (by constructor <;> first | omega | (simp (disch := omega) only [up_k, up_i, up_s]; omega)) (by constructor <;> first | omega | (simp (disch := omega) only [up_k, up_i, up_s]; omega)) hd0 dX12_fairness_120 ?_
            refine R_l2i hX dX12_fairness_121 ?_
            exact R_iret hX dX12_fairness_122 ⟨hH, by rw [if_neg (by omega)]; unfold frS; rw [vw_1100_0]; first | (rw [if_pos hsq]; done) | (rw [if_neg hsq, if_neg hd0]; done)⟩
          · skip
            have hsq : sumN (fun n => fxS 1000 1100 (vw 0 H) n * fxS 1000 1100 (vw 0 H) n) (H 136 3).toNat = 0 := by unfold lc at c_99; split at c_99 <;> (try split at c_99) <;> omega
            refine R_sipush hX dX12_fairness_102 (by decide) ?_
            refine R_goto (tgt := 122) hX dX12_fairness_105 (by decide) ?_
            exact R_iret hX dX12_fairness_122 ⟨hH, by rw [if_neg (by omega)]; unfold frS; rw [vw_1100_0]; first | (rw [if_pos hsq]; done) | (rw [if_neg hsq, if_neg hd0]; done)⟩
        · skip
          refine R_aload_0 hX dX12_fairness_33 ?_
          refine R_iload_6 hX dX12_fairness_34 ?_
          refine R_v1i hX dX12_fairness_36 li_X12_247 mk_X12_isBare mi_X12_isBare rfl o_136 (r_isBare hR (by constructor <;> omega)) ⟨⟨by decide, by decide⟩, by decide, by decide, rfl, Nat.le_of_ble_eq_true rfl, rfl⟩ (fun x_36 F_36 h_36 => ?_)
          obtain ⟨h_36, e_36⟩ := h_36; replace e_36 := e_36.symm; subst e_36
          refine R_ifne (tgt := 45) hX dX12_fairness_39 (by decide) (by constructor <;> first | omega | (simp (disch := omega) only [up_k, up_i, up_s]; omega)) (fun c_39 => ?_) (fun c_39 => ?_)
          · skip
            have hlf : chlC (H 141) (H 136 3) x = 0 := by omega
            have hvx := hv x (by omega) (by omega)
            have ax := hA x (by omega) (by omega)
            have hsx := hsd x (by omega) (by rw [vw_1100_0]; omega)
            rw [hvx.1, hvx.2] at hsx
            have hxe : (10 * H 137 (39 + x)).tdiv (H 137 (123 + x)) = fxS 1000 1100 (vw 0 H) x := by unfold fxS; rw [if_pos (by rw [h4]; exact hlf), hvx.1, hvx.2]
            refine R_ldc2 (n := 10) hX k2_X12_309 rfl dX12_fairness_45 ?_
            refine R_aload_0 hX dX12_fairness_48 ?_
            refine R_getq (v := 137) hX dX12_fairness_49 fl_X12_7 o_136 rfl (by omega) ?_
            refine R_bipush hX dX12_fairness_52 (by decide) ?_
            refine R_iload_6 hX dX12_fairness_54 ?_
            refine R_iadd hX dX12_fairness_56 ?_
            refine R_iald hX dX12_fairness_57 a_137 ⟨by omega, by omega⟩ ?_
            refine R_i2l hX (by constructor <;> first | omega | (simp (disch := omega) only [up_k, up_i, up_s]; omega)) dX12_fairness_58 ?_
            refine R_lmul hX dX12_fairness_59 ?_
            refine R_aload_0 hX dX12_fairness_60 ?_
            refine R_getq (v := 137) hX dX12_fairness_61 fl_X12_7 o_136 rfl (by omega) ?_
            refine R_bipush hX dX12_fairness_64 (by decide) ?_
            refine R_iload_6 hX dX12_fairness_66 ?_
            refine R_iadd hX dX12_fairness_68 ?_
            refine R_iald hX dX12_fairness_69 a_137 ⟨by omega, by omega⟩ ?_
            refine R_i2l hX (by constructor <;> first | omega | (simp (disch := omega) only [up_k, up_i, up_s]; omega)) dX12_fairness_70 ?_
            refine R_ldiv hX (by constructor <;> first | omega | (simp (disch := omega) only [up_k, up_i, up_s]; omega)) (by constructor <;> first | omega | (simp (disch := omega) only [up_k, up_i, up_s]; omega)) (by omega) dX12_fairness_71 ?_
            refine R_lstore_7 hX c1_i dX12_fairness_72 ?_
            refine R_lload_1 hX dX12_fairness_74 ?_
            refine R_lload_7 hX dX12_fairness_75 ?_
            refine R_ladd hX dX12_fairness_77 ?_
            refine R_lstore_1 hX c1_r dX12_fairness_78 ?_
            refine R_lload_3 hX dX12_fairness_79 ?_
            refine R_lload_7 hX dX12_fairness_80 ?_
            refine R_lload_7 hX dX12_fairness_82 ?_
            refine R_lmul hX dX12_fairness_84 ?_
            refine R_ladd hX dX12_fairness_85 ?_
            refine R_lstore_3 hX c1_n dX12_fairness_86 ?_
            refine R_iinc_5 hX c1_n dX12_fairness_87 ?_
            first | (have hst := fr_n (b := 1000) (u := 1100) (F := vw 0 H) iv24_0.1 (show ¬ vw 0 H (1100 + 4) x = 0 by rw [h4]; omega); rw [← hst.1, ← hst.2.1, ← hst.2.2]) | (have hst := fr_l (b := 1000) (u := 1100) (F := vw 0 H) iv24_0.1 (show vw 0 H (1100 + 4) x = 0 by rw [h4]; exact hlf); rw [hxe, ← hst.1, ← hst.2.1, ← hst.2.2])
            refine R_iinc_6 hX c1_i dX12_fairness_90 ?_
            refine R_goto (tgt := 24) hX dX12_fairness_93 (by decide) ?_
            refine R_drop_7 ?_
            exact ih_24 (x + 1) (by omega) (by omega)
          · skip
            refine R_goto (tgt := 90) hX dX12_fairness_42 (by decide) ?_
            first | (have hst := fr_n (b := 1000) (u := 1100) (F := vw 0 H) iv24_0.1 (show ¬ vw 0 H (1100 + 4) x = 0 by rw [h4]; omega); rw [← hst.1, ← hst.2.1, ← hst.2.2]) | (have hst := fr_l (b := 1000) (u := 1100) (F := vw 0 H) iv24_0.1 (show vw 0 H (1100 + 4) x = 0 by rw [h4]; exact hlf); rw [hxe, ← hst.1, ← hst.2.1, ← hst.2.2])
            refine R_iinc_6 hX c1_i dX12_fairness_90 ?_
            refine R_goto (tgt := 24) hX dX12_fairness_93 (by decide) ?_
            exact ih_24 (x + 1) (by omega) (by omega)
    exact lp_24 14 0 (by omega) (by omega)
  · skip
    refine R_iconst hX dX12_fairness_12 ?_
    exact R_iret hX dX12_fairness_13 ⟨hH, by rw [if_pos (by omega)]⟩
set_option maxRecDepth 100000 in
set_option maxHeartbeats 4000000 in
theorem r_fairShare {V : VX} {F : Hp} {K : Int} (h : RI K F) {l : Int} (h1 : I32 l) (hK2 : K ≤ 100000)  : Ct V yX12_fairShare cX12_fairShare 6 (some .int) 3 68 0 0 SH [vr V 136, vi l] F SH 1 (fun r F' => F' = up F 136 0 0 ∧ r = (if 0 ≤ l ∧ l < F' 136 3 ∧ chlC (F' 141) (F' 136 3) l = 0 then fsS 1000 1100 (vw 0 F') l else -1)) := by
  refine Ct.of [some (vr V 136), some (vi l), none, none, none, none] (by decide) (by simp [lg_sl, vi_cat, vl_cat, vr_cat]) rfl (by simp [asc, lv_args, vi_cat, vl_cat, vr_cat]) (fun X hV hX => ?_)
  subst hV
  refine R_aload_0 hX dX12_fairShare_0 ?_
  refine R_iconst hX dX12_fairShare_1 ?_
  refine R_puti hX dX12_fairShare_2 fl_X12_88 o_136 rfl ?_
  refine R.gen (fun H hH => ?_)
  have hR : RI K H := by rw [hH]; exact h.z
  have hN := ri_N hR
  have hT := ri_T hR
  have hA := ri_A hR
  have hSS := ri_S hR
  have hB := ri_B hR
  have hQ := (ri_Q hR).2.1
  have hsd : ∀ n : Int, 0 ≤ n → n < vw 0 H 1100 0 → (0 ≤ vw 0 H (1000 + 14) n ∧ vw 0 H (1000 + 14) n ≤ 100000) ∧ (1 ≤ vw 0 H (1000 + 3) n ∧ vw 0 H (1000 + 3) n ≤ 9) := fun n z0 z1 => by
    rw [vw_1100_0] at z1
    have k1 := hB n z0 z1
    have k2 := hA n z0 z1
    have k3 := hQ n z0 z1
    rw [show (1000 : Int) + 14 = 1014 from rfl, show (1000 : Int) + 3 = 1003 from rfl, vw_14 (by omega), vw_3 (by omega)]
    omega
  have h4 : ∀ x : Int, vw 0 H (1100 + 4) x = chlC (H 141) (H 136 3) x := fun x => congrFun vw_1104 x
  have hv : ∀ i : Int, 0 ≤ i → i < 12 → vw 0 H (1000 + 14) i = H 137 (39 + i) ∧ vw 0 H (1000 + 3) i = H 137 (123 + i) := fun i z0 z1 => ⟨vw_14 ⟨z0, z1⟩, vw_3 ⟨z0, z1⟩⟩
  have hfb := fs_bd (b := 1000) (u := 1100) (F := vw 0 H) hsd (by rw [vw_1100_0]; exact hN)
  rw [vw_1100_0] at hfb
  refine R_aload_0 hX dX12_fairShare_5 ?_
  refine R_iload_1 hX dX12_fairShare_6 ?_
  refine R_v1i hX dX12_fairShare_7 li_X12_247 mk_X12_isBare mi_X12_isBare rfl o_136 (r_isBare hR h1) ⟨⟨by decide, by decide⟩, by decide, by decide, rfl, Nat.le_of_ble_eq_true rfl, rfl⟩ (fun x_7 F_7 h_7 => ?_)
  obtain ⟨h_7, e_7⟩ := h_7; replace e_7 := e_7.symm; subst e_7
  refine R_ifne (tgt := 15) hX dX12_fairShare_10 (by decide) (by constructor <;> first | omega | (simp (disch := omega) only [up_k, up_i, up_s]; omega)) (fun c_10 => ?_) (fun c_10 => ?_)
  · skip
    refine R_lconst0 hX dX12_fairShare_15 ?_
    refine R_lstore_2 hX c1_i dX12_fairShare_16 ?_
    refine R_iconst hX dX12_fairShare_17 ?_
    refine R_istore_4 hX c1_n dX12_fairShare_18 ?_
    refine R_iconst hX dX12_fairShare_20 ?_
    refine R_istore_5 hX c1_i dX12_fairShare_21 ?_
    have lp_23 : ∀ (n : Nat) (x : Int), (0 ≤ x ∧ x ≤ H 136 3) → (13 - x).toNat < n → R X SH 0 0 23 [some (vr (xV X) 136), some (vi l), some (vl (sumN (sxS 1000 1100 (vw 0 H)) x.toNat)), none, some (vi (sumN (swS 1000 1100 (vw 0 H)) x.toNat)), some (vi x)] [] H (Zq X SH 1 (fun r F' => F' = up F 136 0 0 ∧ r = (if 0 ≤ l ∧ l < F' 136 3 ∧ chlC (F' 141) (F' 136 3) l = 0 then fsS 1000 1100 (vw 0 F') l else -1)) 0 0) := by
      intro n
      induction n with
      | zero => intro x iv23_0 hm; exact absurd hm (Nat.not_lt_zero _)
      | succ n ih_23 =>
        intro x iv23_0 hm_23
        have hfi := hfb x iv23_0.1 iv23_0.2
        refine R_iload_5 hX dX12_fairShare_23 ?_
        refine R_aload_0 hX dX12_fairShare_25 ?_
        refine R_geti hX dX12_fairShare_26 fl_X12_91 o_136 rfl ?_
        refine R_icmpge (tgt := 93) hX dX12_fairShare_29 (by decide) (by constructor <;> first | omega | (simp (disch := omega) only [up_k, up_i, up_s]; omega)) (by constructor <;> first | omega | (simp (disch := omega) only [up_k, up_i, up_s]; omega)) (fun c_29 => ?_) (fun c_29 => ?_)
        · skip
          have hi : x = H 136 3 := by omega
          subst hi
          have hvl := hv l (by omega) (by omega)
          have hsl := hsd l (by omega) (by rw [vw_1100_0]; omega)
          rw [hvl.1, hvl.2] at hsl
          have hm := mul_rng hfi.1 (show 0 ≤ H 137 (123 + l) ∧ H 137 (123 + l) ≤ 9 by omega)
          have hwl : 1 ≤ sumN (swS 1000 1100 (vw 0 H)) (H 136 3).toNat := by
            have e := sumN_ge (f := swS 1000 1100 (vw 0 H)) (H 136 3).toNat l (fun k z0 z1 => by have := hsd k z0 (by rw [vw_1100_0]; omega); unfold swS; split <;> omega) (by omega) (by omega)
            have e2 : swS 1000 1100 (vw 0 H) l = H 137 (123 + l) := by unfold swS; rw [if_pos (by rw [h4]; omega), hvl.2]
            omega
          refine R_lload_2 hX dX12_fairShare_93 ?_
          refine R_aload_0 hX dX12_fairShare_94 ?_
          refine R_getq (v := 137) hX dX12_fairShare_95 fl_X12_7 o_136 rfl (by omega) ?_
          refine R_bipush hX dX12_fairShare_98 (by decide) ?_
          refine R_iload_1 hX dX12_fairShare_100 ?_
          refine R_iadd hX dX12_fairShare_101 ?_
          refine R_iald hX dX12_fairShare_102 a_137 ⟨by omega, by omega⟩ ?_
          refine R_i2l hX (by constructor <;> first | omega | (simp (disch := omega) only [up_k, up_i, up_s]; omega)) dX12_fairShare_103 ?_
          refine R_lmul hX dX12_fairShare_104 ?_
          refine R_iload_4 hX dX12_fairShare_105 ?_
          refine R_i2l hX (by constructor <;> first | omega | (simp (disch := omega) only [up_k, up_i, up_s]; omega)) dX12_fairShare_107 ?_
          refine R_ldiv hX (by constructor <;> first | omega | (simp (disch := omega) only [up_k, up_i, up_s]; omega)) (by constructor <;> first | omega | (simp (disch := omega) only [up_k, up_i, up_s]; omega)) (by omega) dX12_fairShare_108 ?_
          refine R_l2i hX dX12_fairShare_109 ?_
          exact R_iret hX dX12_fairShare_110 ⟨hH, by rw [if_pos (by omega)]; unfold fsS; rw [vw_1100_0, if_neg (by omega), hvl.2]⟩
        · skip
          have hvx := hv x (by omega) (by omega)
          have ax := hA x (by omega) (by omega)
          have hsx := hsd x (by omega) (by rw [vw_1100_0]; omega)
          rw [hvx.1, hvx.2] at hsx
          refine R_lload_2 hX dX12_fairShare_32 ?_
          refine R_aload_0 hX dX12_fairShare_33 ?_
          refine R_iload_5 hX dX12_fairShare_34 ?_
          refine R_v1i hX dX12_fairShare_36 li_X12_247 mk_X12_isBare mi_X12_isBare rfl o_136 (r_isBare hR (by constructor <;> omega)) ⟨⟨by decide, by decide⟩, by decide, by decide, rfl, Nat.le_of_ble_eq_true rfl, rfl⟩ (fun x_36 F_36 h_36 => ?_)
          obtain ⟨h_36, e_36⟩ := h_36; replace e_36 := e_36.symm; subst e_36
          refine R_ifeq (tgt := 56) hX dX12_fairShare_39 (by decide) (by constructor <;> first | omega | (simp (disch := omega) only [up_k, up_i, up_s]; omega)) (fun c_39 => ?_) (fun c_39 => ?_)
          · skip
            refine R_lconst0 hX dX12_fairShare_56 ?_
            refine R_ladd hX dX12_fairShare_57 ?_
            refine R_lstore_2 hX c1_i dX12_fairShare_58 ?_
            refine R_iload_4 hX dX12_fairShare_59 ?_
            refine R_aload_0 hX dX12_fairShare_61 ?_
            refine R_iload_5 hX dX12_fairShare_62 ?_
            refine R_v1i hX dX12_fairShare_64 li_X12_247 mk_X12_isBare mi_X12_isBare rfl o_136 (r_isBare hR (by constructor <;> omega)) ⟨⟨by decide, by decide⟩, by decide, by decide, rfl, Nat.le_of_ble_eq_true rfl, rfl⟩ (fun x_64 F_64 h_64 => ?_)
            obtain ⟨h_64, e_64⟩ := h_64; replace e_64 := e_64.symm; subst e_64
            refine R_ifeq (tgt := 83) hX dX12_fairShare_67 (by decide) (by constructor <;> first | omega | (simp (disch := omega) only [up_k, up_i, up_s]; omega)) (fun c_67 => ?_) (fun c_67 => ?_)
            · skip
              refine R_iconst hX dX12_fairShare_83 ?_
              refine R_iadd hX dX12_fairShare_84 ?_
              refine R_istore_4 hX c1_n dX12_fairShare_85 ?_
              first | (have hF : False := (by omega); refine R.eq (show _ = [some (vr (xV X) 136), some (vi l), some (vl (sumN (sxS 1000 1100 (vw 0 H)) (x + 1).toNat)), none, some (vi (sumN (swS 1000 1100 (vw 0 H)) (x + 1).toNat)), some (vi x)] from hF.elim) rfl rfl ?_) | (have hst := fs_n (b := 1000) (u := 1100) (F := vw 0 H) iv23_0.1 (show ¬ vw 0 H (1100 + 4) x = 0 by rw [h4]; omega); rw [Int.add_zero, Int.add_zero, ← hst.1, ← hst.2]) | (have hst := fs_l (b := 1000) (u := 1100) (F := vw 0 H) iv23_0.1 (show vw 0 H (1100 + 4) x = 0 by rw [h4]; omega); rw [hvx.1, hvx.2] at hst; rw [← hst.1, ← hst.2])
              refine R_iinc_5 hX c1_i dX12_fairShare_87 ?_
              refine R_goto (tgt := 23) hX dX12_fairShare_90 (by decide) ?_
              exact ih_23 (x + 1) (by omega) (by omega)
            · skip
              refine R_aload_0 hX dX12_fairShare_70 ?_
              refine R_getq (v := 137) hX dX12_fairShare_71 fl_X12_7 o_136 rfl (by omega) ?_
              refine R_bipush hX dX12_fairShare_74 (by decide) ?_
              refine R_iload_5 hX dX12_fairShare_76 ?_
              refine R_iadd hX dX12_fairShare_78 ?_
              refine R_iald hX dX12_fairShare_79 a_137 ⟨by omega, by omega⟩ ?_
              refine R_goto (tgt := 84) hX dX12_fairShare_80 (by decide) ?_
              refine R_iadd hX dX12_fairShare_84 ?_
              refine R_istore_4 hX c1_n dX12_fairShare_85 ?_
              first | (have hF : False := (by omega); refine R.eq (show _ = [some (vr (xV X) 136), some (vi l), some (vl (sumN (sxS 1000 1100 (vw 0 H)) (x + 1).toNat)), none, some (vi (sumN (swS 1000 1100 (vw 0 H)) (x + 1).toNat)), some (vi x)] from hF.elim) rfl rfl ?_) | (have hst := fs_n (b := 1000) (u := 1100) (F := vw 0 H) iv23_0.1 (show ¬ vw 0 H (1100 + 4) x = 0 by rw [h4]; omega); rw [Int.add_zero, Int.add_zero, ← hst.1, ← hst.2]) | (have hst := fs_l (b := 1000) (u := 1100) (F := vw 0 H) iv23_0.1 (show vw 0 H (1100 + 4) x = 0 by rw [h4]; omega); rw [hvx.1, hvx.2] at hst; rw [← hst.1, ← hst.2])
              refine R_iinc_5 hX c1_i dX12_fairShare_87 ?_
              refine R_goto (tgt := 23) hX dX12_fairShare_90 (by decide) ?_
              exact ih_23 (x + 1) (by omega) (by omega)
          · skip
            refine R_aload_0 hX dX12_fairShare_42 ?_
            refine R_getq (v := 137) hX dX12_fairShare_43 fl_X12_7 o_136 rfl (by omega) ?_
            refine R_bipush hX dX12_fairShare_46 (by decide) ?_
            refine R_iload_5 hX dX12_fairShare_48 ?_
            refine R_iadd hX dX12_fairShare_50 ?_
            refine R_iald hX dX12_fairShare_51 a_137 ⟨by omega, by omega⟩ ?_
            refine R_i2l hX (by constructor <;> first | omega | (simp (disch := omega) only [up_k, up_i, up_s]; omega)) dX12_fairShare_52 ?_
            refine R_goto (tgt := 57) hX dX12_fairShare_53 (by decide) ?_
            refine R_ladd hX dX12_fairShare_57 ?_
            refine R_lstore_2 hX c1_i dX12_fairShare_58 ?_
            refine R_iload_4 hX dX12_fairShare_59 ?_
            refine R_aload_0 hX dX12_fairShare_61 ?_
            refine R_iload_5 hX dX12_fairShare_62 ?_
            refine R_v1i hX dX12_fairShare_64 li_X12_247 mk_X12_isBare mi_X12_isBare rfl o_136 (r_isBare hR (by constructor <;> omega)) ⟨⟨by decide, by decide⟩, by decide, by decide, rfl, Nat.le_of_ble_eq_true rfl, rfl⟩ (fun x_64 F_64 h_64 => ?_)
            obtain ⟨h_64, e_64⟩ := h_64; replace e_64 := e_64.symm; subst e_64
            refine R_ifeq (tgt := 83) hX dX12_fairShare_67 (by decide) (by constructor <;> first | omega | (simp (disch := omega) only [up_k, up_i, up_s]; omega)) (fun c_67 => ?_) (fun c_67 => ?_)
            · skip
              refine R_iconst hX dX12_fairShare_83 ?_
              refine R_iadd hX dX12_fairShare_84 ?_
              refine R_istore_4 hX c1_n dX12_fairShare_85 ?_
              first | (have hF : False := (by omega); refine R.eq (show _ = [some (vr (xV X) 136), some (vi l), some (vl (sumN (sxS 1000 1100 (vw 0 H)) (x + 1).toNat)), none, some (vi (sumN (swS 1000 1100 (vw 0 H)) (x + 1).toNat)), some (vi x)] from hF.elim) rfl rfl ?_) | (have hst := fs_n (b := 1000) (u := 1100) (F := vw 0 H) iv23_0.1 (show ¬ vw 0 H (1100 + 4) x = 0 by rw [h4]; omega); rw [Int.add_zero, Int.add_zero, ← hst.1, ← hst.2]) | (have hst := fs_l (b := 1000) (u := 1100) (F := vw 0 H) iv23_0.1 (show vw 0 H (1100 + 4) x = 0 by rw [h4]; omega); rw [hvx.1, hvx.2] at hst; rw [← hst.1, ← hst.2])
              refine R_iinc_5 hX c1_i dX12_fairShare_87 ?_
              refine R_goto (tgt := 23) hX dX12_fairShare_90 (by decide) ?_
              exact ih_23 (x + 1) (by omega) (by omega)
            · skip
              refine R_aload_0 hX dX12_fairShare_70 ?_
              refine R_getq (v := 137) hX dX12_fairShare_71 fl_X12_7 o_136 rfl (by omega) ?_
              refine R_bipush hX dX12_fairShare_74 (by decide) ?_
              refine R_iload_5 hX dX12_fairShare_76 ?_
              refine R_iadd hX dX12_fairShare_78 ?_
              refine R_iald hX dX12_fairShare_79 a_137 ⟨by omega, by omega⟩ ?_
              refine R_goto (tgt := 84) hX dX12_fairShare_80 (by decide) ?_
              refine R_iadd hX dX12_fairShare_84 ?_
              refine R_istore_4 hX c1_n dX12_fairShare_85 ?_
              first | (have hF : False := (by omega); refine R.eq (show _ = [some (vr (xV X) 136), some (vi l), some (vl (sumN (sxS 1000 1100 (vw 0 H)) (x + 1).toNat)), none, some (vi (sumN (swS 1000 1100 (vw 0 H)) (x + 1).toNat)), some (vi x)] from hF.elim) rfl rfl ?_) | (have hst := fs_n (b := 1000) (u := 1100) (F := vw 0 H) iv23_0.1 (show ¬ vw 0 H (1100 + 4) x = 0 by rw [h4]; omega); rw [Int.add_zero, Int.add_zero, ← hst.1, ← hst.2]) | (have hst := fs_l (b := 1000) (u := 1100) (F := vw 0 H) iv23_0.1 (show vw 0 H (1100 + 4) x = 0 by rw [h4]; omega); rw [hvx.1, hvx.2] at hst; rw [← hst.1, ← hst.2])
              refine R_iinc_5 hX c1_i dX12_fairShare_87 ?_
              refine R_goto (tgt := 23) hX dX12_fairShare_90 (by decide) ?_
              exact ih_23 (x + 1) (by omega) (by omega)
    exact lp_23 14 0 (by omega) (by omega)
  · skip
    refine R_iconst hX dX12_fairShare_13 ?_
    exact R_iret hX dX12_fairShare_14 ⟨hH, by rw [if_neg (by omega)]⟩
