/-- a row of the reference is copied -/
def cpR (f t m : Int) (F : Hp) : Hp := fun a i => if a = 137 ∧ 819 * t ≤ i ∧ i < 819 * t + m then F 137 (i - 819 * t + 819 * f) else F a i
theorem cpR_o {f t m a i : Int} {F : Hp} (h : ¬ (a = 137 ∧ 819 * t ≤ i ∧ i < 819 * t + m)) : cpR f t m F a i = F a i := if_neg h
theorem cpR_i {f t m i : Int} {F : Hp} (h : 819 * t ≤ i ∧ i < 819 * t + m) : cpR f t m F 137 i = F 137 (i - 819 * t + 819 * f) := if_pos ⟨rfl, h⟩
theorem cpR_0 {f t : Int} {F : Hp} : cpR f t 0 F = F := by funext a i; exact cpR_o (by omega)
theorem cpR_s {f t k : Int} {F : Hp} (hf : f ≠ t) (hk : 0 ≤ k ∧ k < 819) : up (cpR f t k F) 137 (819 * t + k) (cpR f t k F 137 (819 * f + k)) = cpR f t (k + 1) F := by
  have e : cpR f t k F 137 (819 * f + k) = F 137 (819 * f + k) := cpR_o (by omega)
  rw [e]
  funext a i
  by_cases q : a = 137 ∧ i = 819 * t + k
  · rw [q.1, q.2, up_s, cpR_i (by omega)]
    congr 1
    omega
  · rw [up_n q]
    by_cases p : a = 137 ∧ 819 * t ≤ i ∧ i < 819 * t + k
    · rw [p.1, cpR_i p.2, cpR_i (by omega)]
    · rw [cpR_o p, cpR_o (by omega)]
theorem cpR_r {f t m a : Int} {F : Hp} (h : a ≠ 137) : cpR f t m F a = F a := by funext i; exact cpR_o (fun z => h z.1)
theorem vw_cp {f t : Int} {F : Hp} : vw (819 * t) (cpR f t 819 F) = vw (819 * f) F := by
  funext a i
  unfold vw
  by_cases p : 0 ≤ pos a i
  · have := pos_dec p
    rw [if_pos p, if_pos p, cpR_i (by omega)]
    congr 1
    omega
  · rw [if_neg p, if_neg p]
    split
    · rfl
    · unfold sv
      rw [cpR_r (by decide), cpR_r (by decide), cpR_r (by decide), cpR_r (by decide), cpR_r (by decide), cpR_r (by decide), cpR_r (by decide), cpR_r (by decide), cpR_r (by decide), cpR_r (by decide), cpR_r (by decide)]
theorem vw_cpo {f t o : Int} {F : Hp} (h : o + 819 ≤ 819 * t ∨ 819 * t + 819 ≤ o) : vw o (cpR f t 819 F) = vw o F := vw_fr (fun j z1 z2 => cpR_o (by omega)) ⟨cpR_o (by omega), cpR_o (by omega), cpR_o (by omega), cpR_o (by omega)⟩ (fun a z => cpR_r (by omega))
/-- what was tried is taken back -/
theorem cp_back {F G : Hp} (h : Fr (cpR 0 3 819 F) G) : (∀ a : Int, a ≠ 137 → cpR 3 0 819 G a = F a) ∧ (∀ i : Int, 0 ≤ i → i < 2457 → cpR 3 0 819 G 137 i = F 137 i) := by
  refine ⟨fun a z => ?_, fun i z1 z2 => ?_⟩
  · rw [cpR_r z, h.1 a z, cpR_r z]
  · by_cases q : i < 819
    · rw [cpR_i (by omega), h.2 _ (by omega), cpR_i (by omega)]
      congr 1
      omega
    · rw [cpR_o (by omega), h.2 i (by omega), cpR_o (by omega)]
theorem lnd_ag {F D G : Hp} {l c : Int} (h : Tv F D G) (hT : Tr (D 1100 0) (D 1102)) (hl : l < D 1100 0) : lndS 1000 1100 (vw 0 G) l c = lndS 1000 1100 D l c := (Ag.lnd h.U h.1 hT hl).symm
set_option maxRecDepth 100000 in
set_option maxHeartbeats 4000000 in
theorem r_copies {V : VX} {F : Hp} {f t : Int} (hf : 0 ≤ f ∧ f ≤ 3) (ht : 0 ≤ t ∧ t ≤ 3) (hne : f ≠ t)  : Ct V yX12_copies cX12_copies 4 none 0 0 0 0 SH [vr V 136, vi f, vi t] F SH 0 (fun r F' => F' = cpR f t 819 F) := by
  refine Ct.of [some (vr V 136), some (vi f), some (vi t), none] (by decide) (by simp [lg_sl, vi_cat, vl_cat, vr_cat]) rfl (by simp [asc, lv_args, vi_cat, vl_cat, vr_cat]) (fun X hV hX => ?_)
  subst hV
  refine R_iconst hX dX12_copies_0 ?_
  refine R_istore_3 hX c1_i dX12_copies_1 ?_
  have lp_2 : ∀ (n : Nat) (k : Int), (0 ≤ k ∧ k ≤ 819) → (820 - k).toNat < n → R X SH 0 0 2 [some (vr (xV X) 136), some (vi f), some (vi t), some (vi k)] [] (cpR f t k F) (Zq X SH 0 (fun r F' => F' = cpR f t 819 F) 0 0) := by
    intro n
    induction n with
    | zero => intro k iv2_0 hm; exact absurd hm (Nat.not_lt_zero _)
    | succ n ih_2 =>
      intro k iv2_0 hm_2
      refine R_iload_3 hX dX12_copies_2 ?_
      refine R_sipush hX dX12_copies_3 (by decide) ?_
      refine R_icmpge (tgt := 39) hX dX12_copies_6 (by decide) (by constructor <;> first | omega | (simp (disch := omega) only [up_k, up_i, up_s]; omega)) (by constructor <;> first | omega | (simp (disch := omega) only [up_k, up_i, up_s]; omega)) (fun c_6 => ?_) (fun c_6 => ?_)
      · skip
        exact R_vret hX dX12_copies_39 (by rw [show k = 819 by omega])
      · skip
        refine R_aload_0 hX dX12_copies_9 ?_
        refine R_getq (v := 137) hX dX12_copies_10 fl_X12_7 o_136 rfl (by omega) ?_
        refine R_sipush hX dX12_copies_13 (by decide) ?_
        refine R_iload_2 hX dX12_copies_16 ?_
        refine R_imul hX dX12_copies_17 ?_
        refine R_iload_3 hX dX12_copies_18 ?_
        refine R_iadd hX dX12_copies_19 ?_
        refine R_aload_0 hX dX12_copies_20 ?_
        refine R_getq (v := 137) hX dX12_copies_21 fl_X12_7 o_136 rfl (by omega) ?_
        refine R_sipush hX dX12_copies_24 (by decide) ?_
        refine R_iload_1 hX dX12_copies_27 ?_
        refine R_imul hX dX12_copies_28 ?_
        refine R_iload_3 hX dX12_copies_29 ?_
        refine R_iadd hX dX12_copies_30 ?_
        refine R_iald hX dX12_copies_31 a_137 ⟨by omega, by omega⟩ ?_
        refine R_iast hX dX12_copies_32 a_137 ⟨by omega, by omega⟩ ?_
        refine R.eq rfl rfl (cpR_s hne (by omega)) ?_
        refine R_iinc_3 hX c1_i dX12_copies_33 ?_
        refine R_goto (tgt := 2) hX dX12_copies_36 (by decide) ?_
        exact ih_2 (k + 1) (by omega) (by omega)
  refine R.eq rfl rfl (cpR_0 (f := f) (t := t)).symm ?_
  exact lp_2 822 0 (by omega) (by omega)
set_option maxRecDepth 100000 in
set_option maxHeartbeats 4000000 in
theorem r_mayTick {V : VX} {F : Hp} {K : Int} (h : RI K F) {m : Int} (h1 : I32 m)  : Ct V yX12_mayTick cX12_mayTick 2 (some .boolean) 1 25 0 0 SH [vr V 136, vi m] F SH 1 (fun r F' => ((r = 1 ∧ (1 ≤ m ∧ m ≤ 500 ∧ F 137 0 + m ≤ 5000 ∧ 0 < F 136 3)) ∨ (r = 0 ∧ ¬ (1 ≤ m ∧ m ≤ 500 ∧ F 137 0 + m ≤ 5000 ∧ 0 < F 136 3))) ∧ F' = F) := by
  refine Ct.of [some (vr V 136), some (vi m)] (by decide) (by simp [lg_sl, vi_cat, vl_cat, vr_cat]) rfl (by simp [asc, lv_args, vi_cat, vl_cat, vr_cat]) (fun X hV hX => ?_)
  subst hV
  have hN := ri_N h
  have hT := ri_T h
  have hQ := (ri_Q h).1
  refine R_iload_1 hX dX12_mayTick_0 ?_
  refine R_i2l hX (by constructor <;> first | omega | (simp (disch := omega) only [up_k, up_i, up_s]; omega)) dX12_mayTick_1 ?_
  refine R_lconst1 hX dX12_mayTick_2 ?_
  refine R_ldc2 (n := 500) hX k2_X12_301 rfl dX12_mayTick_3 ?_
  refine R_s3i hX dX12_mayTick_6 li_X12_94 mk_X12_in ms_X12_in (r_in (by constructor <;> omega) (by constructor <;> omega) (by constructor <;> omega)) ⟨⟨by decide, by decide⟩, by decide, by decide, rfl, Nat.le_of_ble_eq_true rfl, rfl⟩ (fun x_6 F_6 h_6 => ?_)
  obtain ⟨h_6, e_6⟩ := h_6; replace e_6 := e_6.symm; subst e_6
  refine R_ifeq (tgt := 37) hX dX12_mayTick_9 (by decide) (by constructor <;> first | omega | (simp (disch := omega) only [up_k, up_i, up_s]; omega)) (fun c_9 => ?_) (fun c_9 => ?_)
  · skip
    refine R_iconst hX dX12_mayTick_37 ?_
    exact R_zret hX (by omega) dX12_mayTick_38 ⟨by omega, rfl⟩
  · skip
    refine R_aload_0 hX dX12_mayTick_12 ?_
    refine R_getq (v := 137) hX dX12_mayTick_13 fl_X12_7 o_136 rfl (by omega) ?_
    refine R_iconst hX dX12_mayTick_16 ?_
    refine R_iald hX dX12_mayTick_17 a_137 ⟨by omega, by omega⟩ ?_
    refine R_iload_1 hX dX12_mayTick_18 ?_
    refine R_iadd hX dX12_mayTick_19 ?_
    refine R_sipush hX dX12_mayTick_20 (by decide) ?_
    refine R_icmpgt (tgt := 37) hX dX12_mayTick_23 (by decide) (by constructor <;> first | omega | (simp (disch := omega) only [up_k, up_i, up_s]; omega)) (by constructor <;> first | omega | (simp (disch := omega) only [up_k, up_i, up_s]; omega)) (fun c_23 => ?_) (fun c_23 => ?_)
    · skip
      refine R_iconst hX dX12_mayTick_37 ?_
      exact R_zret hX (by omega) dX12_mayTick_38 ⟨by omega, rfl⟩
    · skip
      refine R_aload_0 hX dX12_mayTick_26 ?_
      refine R_geti hX dX12_mayTick_27 fl_X12_91 o_136 rfl ?_
      refine R_ifle (tgt := 37) hX dX12_mayTick_30 (by decide) (by constructor <;> first | omega | (simp (disch := omega) only [up_k, up_i, up_s]; omega)) (fun c_30 => ?_) (fun c_30 => ?_)
      · skip
        refine R_iconst hX dX12_mayTick_37 ?_
        exact R_zret hX (by omega) dX12_mayTick_38 ⟨by omega, rfl⟩
      · skip
        refine R_iconst hX dX12_mayTick_33 ?_
        refine R_goto (tgt := 38) hX dX12_mayTick_34 (by decide) ?_
        exact R_zret hX (by omega) dX12_mayTick_38 ⟨by omega, rfl⟩
set_option maxRecDepth 100000 in
set_option maxHeartbeats 4000000 in
theorem r_ticks {V : VX} {F : Hp} {K : Int} (h : RI K F) (hK : K ≤ 1000000) (ht : F 137 0 < 5000)  : Ct V yX12_ticks cX12_ticks 4 (some .int) 4 92 0 0 SH [vr V 136] F SH 1 (fun r F' => r = (tikS 1000 1100 (vw 0 F)).1 ∧ Tv F (tikS 1000 1100 (vw 0 F)).2 F') := by
  refine Ct.of [some (vr V 136), none, none, none] (by decide) (by simp [lg_sl, vi_cat, vl_cat, vr_cat]) rfl (by simp [asc, lv_args, vi_cat, vl_cat, vr_cat]) (fun X hV hX => ?_)
  subst hV
  have hN := ri_N h
  have hT := ri_T h
  have hL := ri_L h
  have hQ := (ri_Q h).1
  have hN0 : vw 0 F 1100 0 = F 136 3 := vw_1100_0
  have h12 : vw 0 F 1112 0 = F 136 38 := vw_1112_0
  have hv1 : vw 0 (up F 137 0 (F 137 0 + 1)) = up (vw 0 F) 1000 1 (vw 0 F 1000 1 + 1) := vu_t
  have a1 := StA.tm dj1 h (show vw 0 F 1000 1 < 5000 from ht)
  have hR1 : RI K (up F 137 0 (F 137 0 + 1)) := RI.of (by rw [hv1]; exact a1)
  have f1 : Fr F (up F 137 0 (F 137 0 + 1)) := Fr.rf.up (by decide)
  refine R_aload_0 hX dX12_ticks_0 ?_
  refine R_getq (v := 137) hX dX12_ticks_1 fl_X12_7 o_136 rfl (by omega) ?_
  refine R_iconst hX dX12_ticks_4 ?_
  refine R_dup2 hX c1_i c1_r dX12_ticks_5 ?_
  refine R_iald hX dX12_ticks_6 a_137 ⟨by omega, by omega⟩ ?_
  refine R_iconst hX dX12_ticks_7 ?_
  refine R_iadd hX dX12_ticks_8 ?_
  refine R_iast hX dX12_ticks_9 a_137 ⟨by omega, by omega⟩ ?_
  refine R_aload_0 hX dX12_ticks_10 ?_
  refine R_v0v hX dX12_ticks_11 li_X12_295 mk_X12_timedChanges mi_X12_timedChanges rfl o_136 (r_timedChanges hR1) ⟨⟨by decide, by decide⟩, by decide, by decide, rfl, Nat.le_of_ble_eq_true rfl, rfl⟩ (fun x_11 F_11 h_11 => ?_)
  obtain ⟨v2, f2⟩ := h_11
  rw [hv1, up_k (show (136 : Int) ≠ 137 by decide)] at v2
  have a2 := a1.chg dj1
  rw [up_r (show (1100 : Int) + 12 ≠ 1000 by decide), show (1100 : Int) + 12 = 1112 from rfl, h12, ← v2] at a2
  have hR2 : RI K F_11 := RI.of a2
  have f12 := f1.tr f2
  have g3 : F_11 136 3 = F 136 3 := by rw [f12.1 136 (by decide)]
  refine R_aload_0 hX dX12_ticks_14 ?_
  refine R_v0v hX dX12_ticks_15 li_X12_279 mk_X12_refills mi_X12_refills rfl o_136 (r_refills hR2) ⟨⟨by decide, by decide⟩, by decide, by decide, rfl, Nat.le_of_ble_eq_true rfl, rfl⟩ (fun x_15 F_15 h_15 => ?_)
  obtain ⟨v3, f3⟩ := h_15
  have a3 := a2.ref dj1
  rw [show vw 0 F_11 1100 0 = F_11 136 3 from vw_1100_0, ← v3] at a3
  have hR3 : RI K F_15 := RI.of a3
  have f13 := f12.tr f3
  refine R_aload_0 hX dX12_ticks_18 ?_
  refine R_v0v hX dX12_ticks_19 li_X12_298 mk_X12_drops mi_X12_drops rfl o_136 (r_drops hR3) ⟨⟨by decide, by decide⟩, by decide, by decide, rfl, Nat.le_of_ble_eq_true rfl, rfl⟩ (fun x_19 F_19 h_19 => ?_)
  have e4 : tikP 1000 1100 (vw 0 F) = drpA 1000 1100 (vw 0 F_15) := by unfold tikP; rw [hN0, show (1100 : Int) + 12 = 1112 from rfl, h12, v3, v2, g3]
  have t4 : Tv F (tikP 1000 1100 (vw 0 F)) F_19 := by rw [e4]; exact ⟨h_19.1, fun a z => by rw [h_19.2.1 a z, f13.su z], f13.tr h_19.2.2⟩
  have a4 : StA 1000 1100 K (tikP 1000 1100 (vw 0 F)) := StA.ptikP dj1 h (show vw 0 F 1000 1 < 5000 from ht)
  have hG := t4.ri h a4
  have q4 : F_19 136 4 = F 136 4 := by rw [t4.2.2.1 136 (by decide)]
  have q3 : F_19 136 3 = F 136 3 := by rw [t4.2.2.1 136 (by decide)]
  refine R_iconst hX dX12_ticks_22 ?_
  refine R_istore_1 hX c1_r dX12_ticks_23 ?_
  refine R_aload_0 hX dX12_ticks_24 ?_
  refine R_geti hX dX12_ticks_25 fl_X12_17 o_136 rfl ?_
  refine R_ifle (tgt := 38) hX dX12_ticks_28 (by decide) (by constructor <;> first | omega | (simp (disch := omega) only [up_k, up_i, up_s]; omega)) (fun c_28 => ?_) (fun c_28 => ?_)
  · skip
    refine R_bipush hX dX12_ticks_38 (by decide) ?_
    refine R_istore_2 hX c1_i dX12_ticks_40 ?_
    have lp_41 : ∀ (n : Nat) (t : Int) (leaf : Int) (D : Hp) (G : Hp), (Tv F D G) → (StA 1000 1100 K D) → (0 ≤ t ∧ t ≤ F 136 4 ∧ (t < F 136 4 → leaf = chlS 1000 1100 D) ∧ (t = F 136 4 → leaf = -2)) → (tikS 1000 1100 (vw 0 F) = ((dspS 1000 1100 (F 136 4 - t).toNat D).1 + t, (dspS 1000 1100 (F 136 4 - t).toNat D).2)) → (100 - t).toNat < n → R X SH 0 0 41 [some (vr (xV X) 136), some (vi t), some (vi leaf), none] [] G (Zq X SH 1 (fun r F' => r = (tikS 1000 1100 (vw 0 F)).1 ∧ Tv F (tikS 1000 1100 (vw 0 F)).2 F') 0 0) := by
      intro n
      induction n with
      | zero => intro t leaf D G iv41_0 iv41_1 iv41_2 iv41_3 hm; exact absurd hm (Nat.not_lt_zero _)
      | succ n ih_41 =>
        intro t leaf D G iv41_0 iv41_1 iv41_2 iv41_3 hm_41
        have hG := iv41_0.ri h iv41_1
        have r3 : G 136 3 = F 136 3 := by rw [iv41_0.2.2.1 136 (by decide)]
        have r4 : G 136 4 = F 136 4 := by rw [iv41_0.2.2.1 136 (by decide)]
        have hlrg := chlS_rng 1000 1100 D iv41_1.1.1.1
        have hDN := iv41_0.N
        refine R_iload_2 hX dX12_ticks_41 ?_
        refine R_bipush hX dX12_ticks_42 (by decide) ?_
        refine R_icmpeq (tgt := 101) hX dX12_ticks_44 (by decide) (by constructor <;> first | omega | (simp (disch := omega) only [up_k, up_i, up_s]; omega)) (by constructor <;> first | omega | (simp (disch := omega) only [up_k, up_i, up_s]; omega)) (fun c_44 => ?_) (fun c_44 => ?_)
        · skip
          refine R_iload_1 hX dX12_ticks_101 ?_
          exact R_iret hX dX12_ticks_102 (by have e : leaf = -2 := (by omega); rw [iv41_3]; by_cases q : t = F 136 4; (rw [q, Int.sub_self]; exact ⟨by rw [show dspS 1000 1100 (Int.toNat 0) D = (0, D) from rfl]; exact (Int.zero_add _).symm, iv41_0⟩); (rw [dspS_stop (by rw [← iv41_2.2.2.1 (by omega)]; exact e)]; exact ⟨(Int.zero_add _).symm, iv41_0⟩))
        · skip
          have htl : t < F 136 4 := by omega
          have hleaf := iv41_2.2.2.1 htl
          have hrg : 0 ≤ leaf ∧ leaf < D 1100 0 ∧ dstS 1000 1100 D leaf ≠ -2 := by rw [hleaf]; omega
          have hk := dstS_ok iv41_1.2.2.1 hrg.1 hrg.2.1 hrg.2.2
          obtain ⟨cst, hcst0⟩ : ∃ cst : Int, cst = D (1000 + 11) (leaf * 16) := ⟨_, rfl⟩
          rw [← hcst0] at hk
          have hcst : cst = G 137 (147 + 3 * (leaf * 16 + 0) + 1) := by have e := (iv41_0.1.2.2.2.2.2.1 leaf hrg.1 hrg.2.1 0 (Int.le_refl _) (by omega)).2.1; rw [Int.add_zero] at e; rw [hcst0, e, show (1000 : Int) + 11 = 1011 from rfl, vw_q1 (by omega), Int.add_zero]
          have hk2 : 1 ≤ G 137 (147 + 3 * (leaf * 16 + 0) + 1) ∧ G 137 (147 + 3 * (leaf * 16 + 0) + 1) ≤ 99 := by rw [← hcst]; exact hk.2.2
          refine R_aload_0 hX dX12_ticks_47 ?_
          refine R_getq (v := 137) hX dX12_ticks_48 fl_X12_7 o_136 rfl (by omega) ?_
          refine R_iload_2 hX dX12_ticks_51 ?_
          refine R_iconst hX dX12_ticks_52 ?_
          refine R_s2i hX dX12_ticks_53 li_X12_272 mk_X12_place ms_X12_place (r_place) ⟨⟨by decide, by decide⟩, by decide, by decide, rfl, Nat.le_of_ble_eq_true rfl, rfl⟩ (fun x_53 F_53 h_53 => ?_)
          obtain ⟨h_53, e_53⟩ := h_53; replace e_53 := e_53.symm; subst e_53
          rw [h_53]
          refine R_iconst hX dX12_ticks_56 ?_
          refine R_iadd hX dX12_ticks_57 ?_
          refine R_iald hX dX12_ticks_58 a_137 ⟨by omega, by omega⟩ ?_
          refine R_istore_3 hX c1_i dX12_ticks_59 ?_
          refine R_aload_0 hX dX12_ticks_60 ?_
          refine R_iload_2 hX dX12_ticks_61 ?_
          refine R_iload_3 hX dX12_ticks_62 ?_
          refine R_aload_0 hX dX12_ticks_63 ?_
          refine R_iload_2 hX dX12_ticks_64 ?_
          refine R_iload_3 hX dX12_ticks_65 ?_
          refine R_v2i hX dX12_ticks_66 li_X12_266 mk_X12_lends mi_X12_lends rfl o_136 (r_lends hG (by omega) (by constructor <;> omega)) ⟨⟨by decide, by decide⟩, by decide, by decide, rfl, Nat.le_of_ble_eq_true rfl, rfl⟩ (fun x_66 F_66 h_66 => ?_)
          obtain ⟨h_66, e_66⟩ := h_66; replace e_66 := e_66.symm; subst e_66
          replace h_66 : x_66 = lndS 1000 1100 D leaf cst := by rw [h_66, ← hcst]; exact lnd_ag iv41_0 iv41_1.1.2.1 (by rw [iv41_0.N]; omega)
          have hok2 : lOk 1000 1100 (vw 0 G) leaf x_66 (G 137 (147 + 3 * (leaf * 16 + 0) + 1)) := by rw [h_66, ← hcst, ← lnd_ag iv41_0 iv41_1.1.2.1 (by rw [iv41_0.N]; omega)]; exact lndS_ok hG.1.2.1 (show leaf < vw 0 G 1100 0 by rw [vw_1100_0]; omega) (by rw [lnd_ag iv41_0 iv41_1.1.2.1 (by rw [iv41_0.N]; omega)]; exact hk.2.1)
          have hlr := lndS_rng (b := 1000) (c := cst) iv41_1.1.2.1 (show leaf < D 1100 0 by rw [iv41_0.N]; omega)
          refine R_v3v hX dX12_ticks_69 li_X12_269 mk_X12_sends mi_X12_sends rfl o_136 (r_sends hG (by omega) hok2 hk2) ⟨⟨by decide, by decide⟩, by decide, by decide, rfl, Nat.le_of_ble_eq_true rfl, rfl⟩ (fun x_69 F_69 h_69 => ?_)
          obtain ⟨v5, f5⟩ := h_69
          rw [← hcst] at v5
          have hlk := lndS_ok (b := 1000) (c := cst) iv41_1.1.2.1 (show leaf < D 1100 0 by rw [iv41_0.N]; omega) hk.2.1
          have s5 := StA.snd dj1 (by decide) iv41_1 hlk ⟨hrg.1, hrg.2.1⟩ (by omega)
          have t5 : Tv F (sndS 1000 1100 leaf (lndS 1000 1100 D leaf cst) cst D) F_69 := iv41_0.sn h iv41_1 (by omega) (by have := hk.2.1; omega) (by rw [v5, h_66]) f5
          have l5 := t5.l9 hN.2 (l := leaf) (by omega)
          rw [sndS_r (by omega)] at l5
          have hD9 := iv41_1.2.2.1.2.1 leaf hrg.1 hrg.2.1
          have hlen : 1 ≤ F_69 137 (135 + leaf) ∧ F_69 137 (135 + leaf) ≤ 16 := by rw [← l5]; exact ⟨hk.1, hD9.1.2⟩
          refine R_aload_0 hX dX12_ticks_72 ?_
          refine R_iload_2 hX dX12_ticks_73 ?_
          refine R_v1v hX dX12_ticks_74 li_X12_292 mk_X12_shifts mi_X12_shifts rfl o_136 (r_shifts (by omega) hlen) ⟨⟨by decide, by decide⟩, by decide, by decide, rfl, Nat.le_of_ble_eq_true rfl, rfl⟩ (fun x_74 F_74 h_74 => ?_)
          subst h_74
          have t6 : Tv F (rmS 1000 leaf (sndS 1000 1100 leaf (lndS 1000 1100 D leaf cst) cst D)) (shR leaf F_69) := t5.sh (h.mono (show K ≤ K + 99 by omega)) s5 (by omega) (by rw [sndS_r (by omega)]; exact hk.1)
          have a6 : StA 1000 1100 K (rmS 1000 leaf (sndS 1000 1100 leaf (lndS 1000 1100 D leaf cst) cst D)) := iv41_1.dis dj1 (by decide) hlk ⟨hrg.1, hrg.2.1⟩ (by omega) hk.1
          have hG2 := t6.ri h a6
          have p4 : shR leaf F_69 136 4 = F 136 4 := by rw [t6.2.2.1 136 (by decide)]
          have hgo : tikS 1000 1100 (vw 0 F) = ((dspS 1000 1100 (F 136 4 - (t + 1)).toNat (rmS 1000 leaf (sndS 1000 1100 leaf (lndS 1000 1100 D leaf cst) cst D))).1 + (t + 1), (dspS 1000 1100 (F 136 4 - (t + 1)).toNat (rmS 1000 leaf (sndS 1000 1100 leaf (lndS 1000 1100 D leaf cst) cst D))).2) := by rw [iv41_3, dspS_go (by omega) (by rw [← hleaf]; exact c_44), show (F 136 4 - t).toNat - 1 = (F 136 4 - (t + 1)).toNat by omega, ← hleaf, ← hcst0]; exact Prod.ext (by dsimp only; omega) rfl
          refine R_iinc_1 hX c1_r dX12_ticks_77 ?_
          refine R_iload_1 hX dX12_ticks_80 ?_
          refine R_aload_0 hX dX12_ticks_81 ?_
          refine R_geti hX dX12_ticks_82 fl_X12_17 o_136 rfl ?_
          refine R_icmpge (tgt := 95) hX dX12_ticks_85 (by decide) (by constructor <;> first | omega | (simp (disch := omega) only [up_k, up_i, up_s]; omega)) (by constructor <;> first | omega | (simp (disch := omega) only [up_k, up_i, up_s]; omega)) (fun c_85 => ?_) (fun c_85 => ?_)
          · skip
            refine R_bipush hX dX12_ticks_95 (by decide) ?_
            refine R_istore_2 hX c1_i dX12_ticks_97 ?_
            refine R_goto (tgt := 41) hX dX12_ticks_98 (by decide) ?_
            refine R_drop_3 ?_
            exact ih_41 (t + 1) _ _ _ t6 a6 (by omega) hgo (by omega)
          · skip
            refine R_aload_0 hX dX12_ticks_88 ?_
            refine R_v0i hX dX12_ticks_89 li_X12_285 mk_X12_chosen mi_X12_chosen rfl o_136 (r_chosen hG2 hK) ⟨⟨by decide, by decide⟩, by decide, by decide, rfl, Nat.le_of_ble_eq_true rfl, rfl⟩ (fun x_89 F_89 h_89 => ?_)
            obtain ⟨h_89, e_89⟩ := h_89; replace e_89 := e_89.symm; subst e_89
            replace h_89 : x_89 = chlS 1000 1100 (rmS 1000 leaf (sndS 1000 1100 leaf (lndS 1000 1100 D leaf cst) cst D)) := h_89.trans (Ag.chl t6.U t6.1 a6.1 a6.2.2.1).symm
            refine R_goto (tgt := 97) hX dX12_ticks_92 (by decide) ?_
            refine R_istore_2 hX c1_i dX12_ticks_97 ?_
            refine R_goto (tgt := 41) hX dX12_ticks_98 (by decide) ?_
            refine R_drop_3 ?_
            exact ih_41 (t + 1) _ _ _ t6 a6 (by omega) hgo (by omega)
    exact lp_41 102 0 _ _ _ t4 a4 (by omega) (by rw [Int.add_zero, Int.sub_zero]; unfold tikS; rw [vw_1100_13]) (by omega)
  · skip
    refine R_aload_0 hX dX12_ticks_31 ?_
    refine R_v0i hX dX12_ticks_32 li_X12_285 mk_X12_chosen mi_X12_chosen rfl o_136 (r_chosen hG hK) ⟨⟨by decide, by decide⟩, by decide, by decide, rfl, Nat.le_of_ble_eq_true rfl, rfl⟩ (fun x_32 F_32 h_32 => ?_)
    obtain ⟨h_32, e_32⟩ := h_32; replace e_32 := e_32.symm; subst e_32
    replace h_32 : x_32 = chlS 1000 1100 (tikP 1000 1100 (vw 0 F)) := h_32.trans (Ag.chl t4.U t4.1 a4.1 a4.2.2.1).symm
    refine R_goto (tgt := 40) hX dX12_ticks_35 (by decide) ?_
    refine R_istore_2 hX c1_i dX12_ticks_40 ?_
    have lp_41 : ∀ (n : Nat) (t : Int) (leaf : Int) (D : Hp) (G : Hp), (Tv F D G) → (StA 1000 1100 K D) → (0 ≤ t ∧ t ≤ F 136 4 ∧ (t < F 136 4 → leaf = chlS 1000 1100 D) ∧ (t = F 136 4 → leaf = -2)) → (tikS 1000 1100 (vw 0 F) = ((dspS 1000 1100 (F 136 4 - t).toNat D).1 + t, (dspS 1000 1100 (F 136 4 - t).toNat D).2)) → (100 - t).toNat < n → R X SH 0 0 41 [some (vr (xV X) 136), some (vi t), some (vi leaf), none] [] G (Zq X SH 1 (fun r F' => r = (tikS 1000 1100 (vw 0 F)).1 ∧ Tv F (tikS 1000 1100 (vw 0 F)).2 F') 0 0) := by
      intro n
      induction n with
      | zero => intro t leaf D G iv41_0 iv41_1 iv41_2 iv41_3 hm; exact absurd hm (Nat.not_lt_zero _)
      | succ n ih_41 =>
        intro t leaf D G iv41_0 iv41_1 iv41_2 iv41_3 hm_41
        have hG := iv41_0.ri h iv41_1
        have r3 : G 136 3 = F 136 3 := by rw [iv41_0.2.2.1 136 (by decide)]
        have r4 : G 136 4 = F 136 4 := by rw [iv41_0.2.2.1 136 (by decide)]
        have hlrg := chlS_rng 1000 1100 D iv41_1.1.1.1
        have hDN := iv41_0.N
        refine R_iload_2 hX dX12_ticks_41 ?_
        refine R_bipush hX dX12_ticks_42 (by decide) ?_
        refine R_icmpeq (tgt := 101) hX dX12_ticks_44 (by decide) (by constructor <;> first | omega | (simp (disch := omega) only [up_k, up_i, up_s]; omega)) (by constructor <;> first | omega | (simp (disch := omega) only [up_k, up_i, up_s]; omega)) (fun c_44 => ?_) (fun c_44 => ?_)
        · skip
          refine R_iload_1 hX dX12_ticks_101 ?_
          exact R_iret hX dX12_ticks_102 (by have e : leaf = -2 := (by omega); rw [iv41_3]; by_cases q : t = F 136 4; (rw [q, Int.sub_self]; exact ⟨by rw [show dspS 1000 1100 (Int.toNat 0) D = (0, D) from rfl]; exact (Int.zero_add _).symm, iv41_0⟩); (rw [dspS_stop (by rw [← iv41_2.2.2.1 (by omega)]; exact e)]; exact ⟨(Int.zero_add _).symm, iv41_0⟩))
        · skip
          have htl : t < F 136 4 := by omega
          have hleaf := iv41_2.2.2.1 htl
          have hrg : 0 ≤ leaf ∧ leaf < D 1100 0 ∧ dstS 1000 1100 D leaf ≠ -2 := by rw [hleaf]; omega
          have hk := dstS_ok iv41_1.2.2.1 hrg.1 hrg.2.1 hrg.2.2
          obtain ⟨cst, hcst0⟩ : ∃ cst : Int, cst = D (1000 + 11) (leaf * 16) := ⟨_, rfl⟩
          rw [← hcst0] at hk
          have hcst : cst = G 137 (147 + 3 * (leaf * 16 + 0) + 1) := by have e := (iv41_0.1.2.2.2.2.2.1 leaf hrg.1 hrg.2.1 0 (Int.le_refl _) (by omega)).2.1; rw [Int.add_zero] at e; rw [hcst0, e, show (1000 : Int) + 11 = 1011 from rfl, vw_q1 (by omega), Int.add_zero]
          have hk2 : 1 ≤ G 137 (147 + 3 * (leaf * 16 + 0) + 1) ∧ G 137 (147 + 3 * (leaf * 16 + 0) + 1) ≤ 99 := by rw [← hcst]; exact hk.2.2
          refine R_aload_0 hX dX12_ticks_47 ?_
          refine R_getq (v := 137) hX dX12_ticks_48 fl_X12_7 o_136 rfl (by omega) ?_
          refine R_iload_2 hX dX12_ticks_51 ?_
          refine R_iconst hX dX12_ticks_52 ?_
          refine R_s2i hX dX12_ticks_53 li_X12_272 mk_X12_place ms_X12_place (r_place) ⟨⟨by decide, by decide⟩, by decide, by decide, rfl, Nat.le_of_ble_eq_true rfl, rfl⟩ (fun x_53 F_53 h_53 => ?_)
          obtain ⟨h_53, e_53⟩ := h_53; replace e_53 := e_53.symm; subst e_53
          rw [h_53]
          refine R_iconst hX dX12_ticks_56 ?_
          refine R_iadd hX dX12_ticks_57 ?_
          refine R_iald hX dX12_ticks_58 a_137 ⟨by omega, by omega⟩ ?_
          refine R_istore_3 hX c1_i dX12_ticks_59 ?_
          refine R_aload_0 hX dX12_ticks_60 ?_
          refine R_iload_2 hX dX12_ticks_61 ?_
          refine R_iload_3 hX dX12_ticks_62 ?_
          refine R_aload_0 hX dX12_ticks_63 ?_
          refine R_iload_2 hX dX12_ticks_64 ?_
          refine R_iload_3 hX dX12_ticks_65 ?_
          refine R_v2i hX dX12_ticks_66 li_X12_266 mk_X12_lends mi_X12_lends rfl o_136 (r_lends hG (by omega) (by constructor <;> omega)) ⟨⟨by decide, by decide⟩, by decide, by decide, rfl, Nat.le_of_ble_eq_true rfl, rfl⟩ (fun x_66 F_66 h_66 => ?_)
          obtain ⟨h_66, e_66⟩ := h_66; replace e_66 := e_66.symm; subst e_66
          replace h_66 : x_66 = lndS 1000 1100 D leaf cst := by rw [h_66, ← hcst]; exact lnd_ag iv41_0 iv41_1.1.2.1 (by rw [iv41_0.N]; omega)
          have hok2 : lOk 1000 1100 (vw 0 G) leaf x_66 (G 137 (147 + 3 * (leaf * 16 + 0) + 1)) := by rw [h_66, ← hcst, ← lnd_ag iv41_0 iv41_1.1.2.1 (by rw [iv41_0.N]; omega)]; exact lndS_ok hG.1.2.1 (show leaf < vw 0 G 1100 0 by rw [vw_1100_0]; omega) (by rw [lnd_ag iv41_0 iv41_1.1.2.1 (by rw [iv41_0.N]; omega)]; exact hk.2.1)
          have hlr := lndS_rng (b := 1000) (c := cst) iv41_1.1.2.1 (show leaf < D 1100 0 by rw [iv41_0.N]; omega)
          refine R_v3v hX dX12_ticks_69 li_X12_269 mk_X12_sends mi_X12_sends rfl o_136 (r_sends hG (by omega) hok2 hk2) ⟨⟨by decide, by decide⟩, by decide, by decide, rfl, Nat.le_of_ble_eq_true rfl, rfl⟩ (fun x_69 F_69 h_69 => ?_)
          obtain ⟨v5, f5⟩ := h_69
          rw [← hcst] at v5
          have hlk := lndS_ok (b := 1000) (c := cst) iv41_1.1.2.1 (show leaf < D 1100 0 by rw [iv41_0.N]; omega) hk.2.1
          have s5 := StA.snd dj1 (by decide) iv41_1 hlk ⟨hrg.1, hrg.2.1⟩ (by omega)
          have t5 : Tv F (sndS 1000 1100 leaf (lndS 1000 1100 D leaf cst) cst D) F_69 := iv41_0.sn h iv41_1 (by omega) (by have := hk.2.1; omega) (by rw [v5, h_66]) f5
          have l5 := t5.l9 hN.2 (l := leaf) (by omega)
          rw [sndS_r (by omega)] at l5
          have hD9 := iv41_1.2.2.1.2.1 leaf hrg.1 hrg.2.1
          have hlen : 1 ≤ F_69 137 (135 + leaf) ∧ F_69 137 (135 + leaf) ≤ 16 := by rw [← l5]; exact ⟨hk.1, hD9.1.2⟩
          refine R_aload_0 hX dX12_ticks_72 ?_
          refine R_iload_2 hX dX12_ticks_73 ?_
          refine R_v1v hX dX12_ticks_74 li_X12_292 mk_X12_shifts mi_X12_shifts rfl o_136 (r_shifts (by omega) hlen) ⟨⟨by decide, by decide⟩, by decide, by decide, rfl, Nat.le_of_ble_eq_true rfl, rfl⟩ (fun x_74 F_74 h_74 => ?_)
          subst h_74
          have t6 : Tv F (rmS 1000 leaf (sndS 1000 1100 leaf (lndS 1000 1100 D leaf cst) cst D)) (shR leaf F_69) := t5.sh (h.mono (show K ≤ K + 99 by omega)) s5 (by omega) (by rw [sndS_r (by omega)]; exact hk.1)
          have a6 : StA 1000 1100 K (rmS 1000 leaf (sndS 1000 1100 leaf (lndS 1000 1100 D leaf cst) cst D)) := iv41_1.dis dj1 (by decide) hlk ⟨hrg.1, hrg.2.1⟩ (by omega) hk.1
          have hG2 := t6.ri h a6
          have p4 : shR leaf F_69 136 4 = F 136 4 := by rw [t6.2.2.1 136 (by decide)]
          have hgo : tikS 1000 1100 (vw 0 F) = ((dspS 1000 1100 (F 136 4 - (t + 1)).toNat (rmS 1000 leaf (sndS 1000 1100 leaf (lndS 1000 1100 D leaf cst) cst D))).1 + (t + 1), (dspS 1000 1100 (F 136 4 - (t + 1)).toNat (rmS 1000 leaf (sndS 1000 1100 leaf (lndS 1000 1100 D leaf cst) cst D))).2) := by rw [iv41_3, dspS_go (by omega) (by rw [← hleaf]; exact c_44), show (F 136 4 - t).toNat - 1 = (F 136 4 - (t + 1)).toNat by omega, ← hleaf, ← hcst0]; exact Prod.ext (by dsimp only; omega) rfl
          refine R_iinc_1 hX c1_r dX12_ticks_77 ?_
          refine R_iload_1 hX dX12_ticks_80 ?_
          refine R_aload_0 hX dX12_ticks_81 ?_
          refine R_geti hX dX12_ticks_82 fl_X12_17 o_136 rfl ?_
          refine R_icmpge (tgt := 95) hX dX12_ticks_85 (by decide) (by constructor <;> first | omega | (simp (disch := omega) only [up_k, up_i, up_s]; omega)) (by constructor <;> first | omega | (simp (disch := omega) only [up_k, up_i, up_s]; omega)) (fun c_85 => ?_) (fun c_85 => ?_)
          · skip
            refine R_bipush hX dX12_ticks_95 (by decide) ?_
            refine R_istore_2 hX c1_i dX12_ticks_97 ?_
            refine R_goto (tgt := 41) hX dX12_ticks_98 (by decide) ?_
            refine R_drop_3 ?_
            exact ih_41 (t + 1) _ _ _ t6 a6 (by omega) hgo (by omega)
          · skip
            refine R_aload_0 hX dX12_ticks_88 ?_
            refine R_v0i hX dX12_ticks_89 li_X12_285 mk_X12_chosen mi_X12_chosen rfl o_136 (r_chosen hG2 hK) ⟨⟨by decide, by decide⟩, by decide, by decide, rfl, Nat.le_of_ble_eq_true rfl, rfl⟩ (fun x_89 F_89 h_89 => ?_)
            obtain ⟨h_89, e_89⟩ := h_89; replace e_89 := e_89.symm; subst e_89
            replace h_89 : x_89 = chlS 1000 1100 (rmS 1000 leaf (sndS 1000 1100 leaf (lndS 1000 1100 D leaf cst) cst D)) := h_89.trans (Ag.chl t6.U t6.1 a6.1 a6.2.2.1).symm
            refine R_goto (tgt := 97) hX dX12_ticks_92 (by decide) ?_
            refine R_istore_2 hX c1_i dX12_ticks_97 ?_
            refine R_goto (tgt := 41) hX dX12_ticks_98 (by decide) ?_
            refine R_drop_3 ?_
            exact ih_41 (t + 1) _ _ _ t6 a6 (by omega) hgo (by omega)
    exact lp_41 102 0 _ _ _ t4 a4 (by omega) (by rw [Int.add_zero, Int.sub_zero]; unfold tikS; rw [vw_1100_13]) (by omega)
