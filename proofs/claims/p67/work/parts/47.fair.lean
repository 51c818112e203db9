theorem sq_rng {x : Int} (h : 0 ≤ x ∧ x ≤ 1000000) : 0 ≤ x * x ∧ x * x ≤ 1000000000000 := mul_rng h h
theorem fr_bd {b u : Int} {F : Hp} (hx : ∀ n : Int, 0 ≤ n → n < F u 0 → 0 ≤ fxS b u F n ∧ fxS b u F n ≤ 1000000) (hN : 0 ≤ F u 0 ∧ F u 0 ≤ 12) : ∀ i : Int, 0 ≤ i → i ≤ F u 0 → (0 ≤ sumN (fxS b u F) i.toNat ∧ sumN (fxS b u F) i.toNat ≤ 12000000) ∧ (0 ≤ sumN (fun n => fxS b u F n * fxS b u F n) i.toNat ∧ sumN (fun n => fxS b u F n * fxS b u F n) i.toNat ≤ 12000000000000) ∧ (0 ≤ sumN (lvS u F) i.toNat ∧ sumN (lvS u F) i.toNat ≤ 12) := by
  intro i h0 h1
  have a := sumN_bd (f := fxS b u F) (c := 1000000) i.toNat (fun k q0 q1 => hx k q0 (by omega))
  have c := sumN_bd (f := fun n => fxS b u F n * fxS b u F n) (c := 1000000000000) i.toNat (fun k q0 q1 => sq_rng (hx k q0 (by omega)))
  have d := sumN_bd (f := lvS u F) (c := 1) i.toNat (fun k q0 q1 => by unfold lvS; split <;> omega)
  omega
theorem fr_l {b u i : Int} {F : Hp} (h : 0 ≤ i) (hl : F (u + 4) i = 0) : sumN (lvS u F) (i + 1).toNat = sumN (lvS u F) i.toNat + 1 ∧ sumN (fxS b u F) (i + 1).toNat = sumN (fxS b u F) i.toNat + fxS b u F i ∧ sumN (fun n => fxS b u F n * fxS b u F n) (i + 1).toNat = sumN (fun n => fxS b u F n * fxS b u F n) i.toNat + fxS b u F i * fxS b u F i := by
  rw [sumN_s h, sumN_s h, sumN_s h]
  exact ⟨by rw [show lvS u F i = 1 from if_pos hl], rfl, rfl⟩
theorem fr_n {b u i : Int} {F : Hp} (h : 0 ≤ i) (hl : ¬ F (u + 4) i = 0) : sumN (lvS u F) (i + 1).toNat = sumN (lvS u F) i.toNat ∧ sumN (fxS b u F) (i + 1).toNat = sumN (fxS b u F) i.toNat ∧ sumN (fun n => fxS b u F n * fxS b u F n) (i + 1).toNat = sumN (fun n => fxS b u F n * fxS b u F n) i.toNat := by
  rw [sumN_s h, sumN_s h, sumN_s h]
  have h0 : fxS b u F i = 0 := if_neg hl
  exact ⟨by rw [show lvS u F i = 0 from if_neg hl, Int.add_zero], by rw [h0, Int.add_zero], by rw [h0, Int.mul_zero, Int.add_zero]⟩
theorem fs_l {b u i : Int} {F : Hp} (h : 0 ≤ i) (hl : F (u + 4) i = 0) : sumN (sxS b u F) (i + 1).toNat = sumN (sxS b u F) i.toNat + F (b + 14) i ∧ sumN (swS b u F) (i + 1).toNat = sumN (swS b u F) i.toNat + F (b + 3) i := by
  rw [sumN_s h, sumN_s h]
  exact ⟨by rw [show sxS b u F i = F (b + 14) i from if_pos hl], by rw [show swS b u F i = F (b + 3) i from if_pos hl]⟩
theorem fs_n {b u i : Int} {F : Hp} (h : 0 ≤ i) (hl : ¬ F (u + 4) i = 0) : sumN (sxS b u F) (i + 1).toNat = sumN (sxS b u F) i.toNat ∧ sumN (swS b u F) (i + 1).toNat = sumN (swS b u F) i.toNat := by
  rw [sumN_s h, sumN_s h]
  exact ⟨by rw [show sxS b u F i = 0 from if_neg hl, Int.add_zero], by rw [show swS b u F i = 0 from if_neg hl, Int.add_zero]⟩
def fsS (b u : Int) (F : Hp) (l : Int) : Int := if sumN (swS b u F) (F u 0).toNat = 0 then 0 else (sumN (sxS b u F) (F u 0).toNat * F (b + 3) l).tdiv (sumN (swS b u F) (F u 0).toNat)
theorem fs_bd {b u : Int} {F : Hp} (hx : ∀ n : Int, 0 ≤ n → n < F u 0 → (0 ≤ F (b + 14) n ∧ F (b + 14) n ≤ 100000) ∧ (1 ≤ F (b + 3) n ∧ F (b + 3) n ≤ 9)) (hN : 0 ≤ F u 0 ∧ F u 0 ≤ 12) : ∀ i : Int, 0 ≤ i → i ≤ F u 0 → (0 ≤ sumN (sxS b u F) i.toNat ∧ sumN (sxS b u F) i.toNat ≤ 1200000) ∧ (0 ≤ sumN (swS b u F) i.toNat ∧ sumN (swS b u F) i.toNat ≤ 108) := by
  intro i h0 h1
  have a := sumN_bd (f := sxS b u F) (c := 100000) i.toNat (fun k q0 q1 => by have := hx k q0 (by omega); unfold sxS; split <;> omega)
  have c := sumN_bd (f := swS b u F) (c := 9) i.toNat (fun k q0 q1 => by have := hx k q0 (by omega); unfold swS; split <;> omega)
  omega
set_option maxRecDepth 100000 in
set_option maxHeartbeats 4000000 in
theorem c_fairness {V : VX} {T : Shp} {F : Hp} {b u v K : Int} (hbq : b = 40) (hu : isSu u) (h : CI b u v K F) (hK2 : K ≤ 100000)  : Ct V yX11_fairness cX11_fairness 10 (some .int) 2 42 0 0 (SH T) [vr V 0] F (SH T) 1 (fun r F' => r = (if F u 0 = 0 then -1 else frS b u F) ∧ F' = F) := by
  refine Ct.of [some (vr V 0), none, none, none, none, none, none, none, none, none] (by decide) (by simp [lg_sl, vi_cat, vl_cat, vr_cat]) rfl (by simp [asc, lv_args, vi_cat, vl_cat, vr_cat]) (fun X hV hX => ?_)
  subst hV
  have hb : isSt b := Or.inl hbq
  obtain ⟨hs, hd, hS, hK, hL, hB, hk1, hk2, hS1, hS2⟩ := id h
  obtain ⟨hU, hA, hQ, hLo, hBd⟩ := id hS
  have hN := hU.1
  have hCC := hU.2.2.2.2.1
  have hsd : ∀ n : Int, 0 ≤ n → n < F u 0 → (0 ≤ F (b + 14) n ∧ F (b + 14) n ≤ 100000) ∧ (1 ≤ F (b + 3) n ∧ F (b + 3) n ≤ 9) := fun n z0 z1 => by have k1 := hBd n z0 z1; have k2 := hA n z0 z1; have k3 := hQ.2.1 n z0 z1; omega
  have hfx : ∀ n : Int, 0 ≤ n → n < F u 0 → 0 ≤ fxS b u F n ∧ fxS b u F n ≤ 1000000 := fun n z0 z1 => fxS_rng (hsd n z0 z1).1 (hsd n z0 z1).2.1
  have hfb := fr_bd hfx hN
  refine R_aload_0 hX dX11_fairness_0 ?_
  refine R_getoE (v := u) hX dX11_fairness_1 fl_X11_33 o_0 rfl hs ?_
  refine R_geti hX dX11_fairness_4 fl_X11_79 (to_0 hu) rfl ?_
  refine R_ifne (tgt := 12) hX dX11_fairness_7 (by decide) ⟨by omega, by omega⟩ (fun c_7 => ?_) (fun c_7 => ?_)
  · skip
    refine R_lconst0 hX dX11_fairness_12 ?_
    refine R_lstore_1 hX c1_r dX11_fairness_13 ?_
    refine R_lconst0 hX dX11_fairness_14 ?_
    refine R_lstore_3 hX c1_n dX11_fairness_15 ?_
    refine R_lconst0 hX dX11_fairness_16 ?_
    refine R_lstore_5 hX c1_n dX11_fairness_17 ?_
    refine R_iconst hX dX11_fairness_19 ?_
    refine R_istore_7 hX c1_n dX11_fairness_20 ?_
    have lp_22 : ∀ (n : Nat) (i : Int), (0 ≤ i ∧ i ≤ F u 0) → (13 - i).toNat < n → R X (SH T) 0 0 22 [some (vr (xV X) 0), some (vl (sumN (lvS u F) i.toNat)), none, some (vl (sumN (fxS b u F) i.toNat)), none, some (vl (sumN (fun n => fxS b u F n * fxS b u F n) i.toNat)), none, some (vi i), none, none] [] F (Zq X (SH T) 1 (fun r F' => r = (if F u 0 = 0 then -1 else frS b u F) ∧ F' = F) 0 0) := by
      intro n
      induction n with
      | zero => intro i iv22_0 hm; exact absurd hm (Nat.not_lt_zero _)
      | succ n ih_22 =>
        intro i iv22_0 hm_22
        have hfi := hfb i iv22_0.1 iv22_0.2
        refine R_iload_7 hX dX11_fairness_22 ?_
        refine R_aload_0 hX dX11_fairness_24 ?_
        refine R_getoE (v := u) hX dX11_fairness_25 fl_X11_33 o_0 rfl hs ?_
        refine R_geti hX dX11_fairness_28 fl_X11_79 (to_0 hu) rfl ?_
        refine R_icmpge (tgt := 105) hX dX11_fairness_31 (by decide) ⟨by omega, by omega⟩ ⟨by omega, by omega⟩ (fun c_31 => ?_) (fun c_31 => ?_)
        · skip
          have hi : i = F u 0 := by omega
          subst hi
          refine R_lload_5 hX dX11_fairness_105 ?_
          refine R_lconst0 hX dX11_fairness_107 ?_
          refine R_lcmp hX ⟨by omega, by omega⟩ ⟨by omega, by omega⟩ dX11_fairness_108 ?_
          refine R_ifne (tgt := 118) hX dX11_fairness_109 (by decide) (by unfold lc; split <;> (try split) <;> constructor <;> omega) (fun c_109 => ?_) (fun c_109 => ?_)
          · skip
            have hsq : ¬ sumN (fun n => fxS b u F n * fxS b u F n) (F u 0).toNat = 0 := by unfold lc at c_109; split at c_109 <;> (try split at c_109) <;> omega
            have hm1 := mul_rng (show 0 ≤ 1000 * sumN (fxS b u F) (F u 0).toNat ∧ 1000 * sumN (fxS b u F) (F u 0).toNat ≤ 12000000000 by omega) hfi.1
            have hm2 := mul_rng hfi.2.2 hfi.2.1
            have hd1 : I64 (1000 * sumN (fxS b u F) (F u 0).toNat * sumN (fxS b u F) (F u 0).toNat) := ⟨by omega, by omega⟩
            have hd2 : I64 (sumN (lvS u F) (F u 0).toNat * sumN (fun n => fxS b u F n * fxS b u F n) (F u 0).toNat) := ⟨by omega, by omega⟩
            refine R_ldc2 (n := 1000) hX k2_X11_261 rfl dX11_fairness_118 ?_
            refine R_lload_3 hX dX11_fairness_121 ?_
            refine R_lmul hX dX11_fairness_122 ?_
            refine R_lload_3 hX dX11_fairness_123 ?_
            refine R_lmul hX dX11_fairness_124 ?_
            refine R_lload_1 hX dX11_fairness_125 ?_
            refine R_lload_5 hX dX11_fairness_126 ?_
            refine R_lmul hX dX11_fairness_128 ?_
            refine R_s2l hX dX11_fairness_129 li_X11_257 mk_X11_quotient ms_X11_quotient (c_quotient hd1 hd2) ⟨⟨by decide, by decide⟩, by decide, by decide, rfl, Nat.le_of_ble_eq_true rfl, rfl⟩ (fun x_129 F_129 h_129 => ?_)
            obtain ⟨h_129, e_129⟩ := h_129; replace e_129 := e_129.symm; subst e_129
            refine R_l2i hX dX11_fairness_132 ?_
            exact R_iret hX dX11_fairness_133 ⟨by rw [if_neg (by omega)]; unfold frS; first | (rw [if_pos hsq]; done) | (rw [if_neg hsq]; exact h_129), rfl⟩
          · skip
            have hsq : sumN (fun n => fxS b u F n * fxS b u F n) (F u 0).toNat = 0 := by unfold lc at c_109; split at c_109 <;> (try split at c_109) <;> omega
            refine R_sipush hX dX11_fairness_112 (by decide) ?_
            refine R_goto (tgt := 133) hX dX11_fairness_115 (by decide) ?_
            exact R_iret hX dX11_fairness_133 ⟨by rw [if_neg (by omega)]; unfold frS; first | (rw [if_pos hsq]; done) | (rw [if_neg hsq]; exact h_129), rfl⟩
        · skip
          have hsi := hsd i (by omega) (by omega)
          refine R_aload_0 hX dX11_fairness_34 ?_
          refine R_getoE (v := u) hX dX11_fairness_35 fl_X11_33 o_0 rfl hs ?_
          refine R_iload_7 hX dX11_fairness_38 ?_
          refine R_v1i hX dX11_fairness_40 li_X11_105 mk_X7_hasLeaf mi_X7_hasLeaf rfl (to_0 hu) (c_hasLeaf hu hN hCC (by constructor <;> omega)) ⟨⟨by decide, by decide⟩, by decide, by decide, rfl, Nat.le_of_ble_eq_true rfl, rfl⟩ (fun x_40 F_40 h_40 => ?_)
          obtain ⟨h_40, e_40⟩ := h_40; replace e_40 := e_40.symm; subst e_40
          refine R_ifeq (tgt := 99) hX dX11_fairness_43 (by decide) ⟨by omega, by omega⟩ (fun c_43 => ?_) (fun c_43 => ?_)
          · skip
            first | (have hst := fr_n (b := b) iv22_0.1 (show ¬ F (u + 4) i = 0 by omega); rw [← hst.1, ← hst.2.1, ← hst.2.2]) | (have hst := fr_l (b := b) iv22_0.1 hlf; rw [hxe, ← hst.1, ← hst.2.1, ← hst.2.2])
            refine R_iinc_7 hX c1_n dX11_fairness_99 ?_
            refine R_goto (tgt := 22) hX dX11_fairness_102 (by decide) ?_
            exact ih_22 _ (by omega) (by omega)
          · skip
            have hlf : F (u + 4) i = 0 := by omega
            refine R_ldc2 (n := 10) hX k2_X11_255 rfl dX11_fairness_46 ?_
            refine R_aload_0 hX dX11_fairness_49 ?_
            refine R_getq (v := b) hX dX11_fairness_50 fl_X11_40 o_0 hbq.symm (by omega) ?_
            refine R_getq (v := b + 13) hX dX11_fairness_53 fl_X11_226 (so_0 hb) rfl (by omega) ?_
            refine R_getq (v := b + 14) hX dX11_fairness_56 fl_X11_243 (so_13 hb) rfl (by omega) ?_
            refine R_iload_7 hX dX11_fairness_59 ?_
            refine R_iald hX dX11_fairness_61 (sa_14 hb) ⟨by omega, by omega⟩ ?_
            refine R_i2l hX ⟨by omega, by omega⟩ dX11_fairness_62 ?_
            refine R_lmul hX dX11_fairness_63 ?_
            refine R_aload_0 hX dX11_fairness_64 ?_
            refine R_getq (v := b) hX dX11_fairness_65 fl_X11_40 o_0 hbq.symm (by omega) ?_
            refine R_getq (v := b + 3) hX dX11_fairness_68 fl_X11_123 (so_0 hb) rfl (by omega) ?_
            refine R_iload_7 hX dX11_fairness_71 ?_
            refine R_iald hX dX11_fairness_73 (sa_3 hb) ⟨by omega, by omega⟩ ?_
            refine R_i2l hX ⟨by omega, by omega⟩ dX11_fairness_74 ?_
            refine R_s2l hX dX11_fairness_75 li_X11_257 mk_X11_quotient ms_X11_quotient (c_quotient (by constructor <;> omega) (by constructor <;> omega)) ⟨⟨by decide, by decide⟩, by decide, by decide, rfl, Nat.le_of_ble_eq_true rfl, rfl⟩ (fun x_75 F_75 h_75 => ?_)
            obtain ⟨h_75, e_75⟩ := h_75; replace e_75 := e_75.symm; subst e_75
            have hxe : x_75 = fxS b u F i := by rw [h_75, if_neg (by omega)]; unfold fxS; rw [if_pos hlf]
            clear h_75
            refine R_lstore_8 hX c1_i dX11_fairness_78 ?_
            refine R_lload_1 hX dX11_fairness_80 ?_
            refine R_lconst1 hX dX11_fairness_81 ?_
            refine R_ladd hX dX11_fairness_82 ?_
            refine R_lstore_1 hX c1_r dX11_fairness_83 ?_
            refine R_lload_3 hX dX11_fairness_84 ?_
            refine R_lload_8 hX dX11_fairness_85 ?_
            refine R_ladd hX dX11_fairness_87 ?_
            refine R_lstore_3 hX c1_n dX11_fairness_88 ?_
            refine R_lload_5 hX dX11_fairness_89 ?_
            refine R_lload_8 hX dX11_fairness_91 ?_
            refine R_lload_8 hX dX11_fairness_93 ?_
            refine R_lmul hX dX11_fairness_95 ?_
            refine R_ladd hX dX11_fairness_96 ?_
            refine R_lstore_5 hX c1_n dX11_fairness_97 ?_
            first | (have hst := fr_n (b := b) iv22_0.1 (show ¬ F (u + 4) i = 0 by omega); rw [← hst.1, ← hst.2.1, ← hst.2.2]) | (have hst := fr_l (b := b) iv22_0.1 hlf; rw [hxe, ← hst.1, ← hst.2.1, ← hst.2.2])
            refine R_iinc_7 hX c1_n dX11_fairness_99 ?_
            refine R_goto (tgt := 22) hX dX11_fairness_102 (by decide) ?_
            refine R_drop_8 ?_
            exact ih_22 _ (by omega) (by omega)
    exact lp_22 14 0 (by omega) (by omega)
  · skip
    refine R_iconst hX dX11_fairness_10 ?_
    exact R_iret hX dX11_fairness_11 ⟨(if_pos (by omega)).symm, rfl⟩
