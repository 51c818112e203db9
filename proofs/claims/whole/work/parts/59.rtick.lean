theorem R_callS0w {X : KX} {own : String} {cc : ByteArray} {nL : Nat} {ret : Option FieldType} {fr lo mc ms : Nat} {sh : Shp} {cs ss pc : Nat} {L : List (Option Value)} {st : List Value} {F : Hp} {Z : State → Prop} (hX : Ok X own cc nL ret fr lo mc ms) {y : MethodName} {idx n nL2 fr2 lo2 mc2 ms2 kd : Nat} {c2 : ByteArray} {ret2 : Option FieldType} {sh2 : Shp} {As : List Value} {Q : Int → Hp → Prop} (hd : decode cc pc = .ok (.invokestatic idx, 3)) (hl : LK own idx y) (hm : MK y c2 nL2 ret2 n) (hi : MS y) (hc : Ct (xV X) y c2 nL2 ret2 fr2 lo2 mc2 ms2 sh As F sh2 kd Q)
    (hr : (fr2 + 1 ≤ fr ∧ 8 + (nL2 + 11) + lo2 ≤ lo) ∧ cs + mc2 ≤ mc ∧ ss + ms2 ≤ ms ∧ As.length = n ∧ L.length = nL ∧ (st.map fun v => v.category).sum ≤ 8 ∧ sh2.length = sh.length + mc2) (kk : ∀ x F', Q x F' → R X sh2 (cs + mc2) (ss + ms2) (pc + 3) L ((rv (xV X) kd x).toList ++ st) F' Z) : R X sh cs ss pc L (As.reverse ++ st) F Z := by
  intro hz H locs ls hP hS hL T hT S
  have hz2 := sz_eq hz hT hP hS hX.2.2.2.2.2.2.1.1 S
  have hr2 := hX.2.2.2.2.2.2.2.2.2
  refine R_after (va_runS (As := As) (rest := st) ⟨hX.1, hX.2.1, hX.2.2.2.1, hX.2.2.1, hX.2.2.2.2.1⟩ hc ⟨callB_mk hX hl hm hr.1, hX.2.2.2.2.1 _ hi⟩ ⟨pre_blind, pre_at hz2 hP hX.2.2.2.2.2.1 hX.2.2.2.2.2.2.1 hS⟩ rfl hr.2.2.2.1 (hL.1.trans hr.2.2.2.2.1) rfl (lv_room (by omega)) hd ⟨by omega, by omega⟩) hS (fun x F' H1 locs1 hq hp hS1 => kk x F' hq (by omega) H1 locs1 ls hp hS1 hL) T hT S
theorem R_s2iw {X : KX} {own : String} {cc : ByteArray} {nL : Nat} {ret : Option FieldType} {fr lo mc ms : Nat} {sh : Shp} {cs ss pc : Nat} {L : List (Option Value)} {st : List Value} {F : Hp} {Z : State → Prop} (hX : Ok X own cc nL ret fr lo mc ms) {y : MethodName} {idx nL2 fr2 lo2 mc2 ms2 : Nat} {c2 : ByteArray} {ret2 : Option FieldType} {sh2 : Shp} {a1 a2 : Value} {Q : Int → Hp → Prop} (hd : decode cc pc = .ok (.invokestatic idx, 3)) (hl : LK own idx y) (hm : MK y c2 nL2 ret2 2) (hi : MS y) (hc : Ct (xV X) y c2 nL2 ret2 fr2 lo2 mc2 ms2 sh [a1, a2] F sh2 1 Q) (hr : (fr2 + 1 ≤ fr ∧ 8 + (nL2 + 11) + lo2 ≤ lo) ∧ cs + mc2 ≤ mc ∧ ss + ms2 ≤ ms ∧ L.length = nL ∧ (st.map fun v => v.category).sum ≤ 8 ∧ sh2.length = sh.length + mc2) (kk : ∀ x F', Q x F' → R X sh2 (cs + mc2) (ss + ms2) (pc + 3) L (vi x :: st) F' Z) : R X sh cs ss pc L (a2 :: a1 :: st) F Z := R_callS0w (As := [a1, a2]) hX hd hl hm hi hc ⟨hr.1, hr.2.1, hr.2.2.1, rfl, hr.2.2.2.1, hr.2.2.2.2.1, hr.2.2.2.2.2⟩ kk
/-- the facts of a leaf that may be served -/
theorem ri_dst {K n : Int} {F : Hp} (h : RI K F) (h0 : 0 ≤ n) (h1 : n < F 136 3) (hd : dstS 1000 1100 (vw 0 F) n ≠ -2) : 1 ≤ F 137 (135 + n) ∧ (1 ≤ F 137 (147 + 3 * (n * 16 + 0) + 1) ∧ F 137 (147 + 3 * (n * 16 + 0) + 1) ≤ 99) ∧ lndS 1000 1100 (vw 0 F) n (F 137 (147 + 3 * (n * 16 + 0) + 1)) ≠ -2 ∧ (0 ≤ lndS 1000 1100 (vw 0 F) n (F 137 (147 + 3 * (n * 16 + 0) + 1)) ∧ lndS 1000 1100 (vw 0 F) n (F 137 (147 + 3 * (n * 16 + 0) + 1)) ≤ n) ∧ onP (F 141) 13 n (lndS 1000 1100 (vw 0 F) n (F 137 (147 + 3 * (n * 16 + 0) + 1))) = true ∧ dstS 1000 1100 (vw 0 F) n = dptF (F 141) 13 n - dptF (F 141) 13 (lndS 1000 1100 (vw 0 F) n (F 137 (147 + 3 * (n * 16 + 0) + 1))) := by
  have hN := ri_N h
  have hk := dstS_ok h.2.2.1 h0 (by rw [vw_1100_0]; exact h1) hd
  have e : vw 0 F (1000 + 11) (n * 16) = F 137 (147 + 3 * (n * 16 + 0) + 1) := by
    have := vw_q1 (F := F) (j := n * 16 + 0) (by omega)
    rw [show (1000 : Int) + 11 = 1011 from rfl, ← this, Int.add_zero]
  have e9 : vw 0 F (1000 + 9) n = F 137 (135 + n) := vw_9 (by omega)
  have hl := lndS_ok (b := 1000) h.1.2.1 (by rw [vw_1100_0]; exact h1) hk.2.1
  have hr := lndS_rng (b := 1000) (c := vw 0 F (1000 + 11) (n * 16)) h.1.2.1 (by rw [vw_1100_0]; exact h1)
  have hon := hl.2.1
  rw [vw_par] at hon
  have hds : dstS 1000 1100 (vw 0 F) n = dptF (F 141) 13 n - dptF (F 141) 13 (lndS 1000 1100 (vw 0 F) n (vw 0 F (1000 + 11) (n * 16))) := by
    unfold dstS
    rw [if_neg (by have := hk.1; omega), if_neg hk.2.1, show (1100 : Int) + 3 = 1103 from rfl, vw_1103]
  rw [e9, e] at hk
  rw [e] at hr hon hds
  have h2 := hk.2.1
  exact ⟨hk.1, hk.2.2, h2, by omega, hon, hds⟩
theorem prB {F : Hp} {a b : Int} (ha : 0 ≤ a ∧ a < 12) (hb : 0 ≤ b ∧ b < 12) : precB (vw 0 F (1100 + 10)) (vw 0 F (1000 + 14)) (vw 0 F (1000 + 3)) a b = true ↔ (F 144 a < F 144 b ∨ (F 144 a = F 144 b ∧ F 137 (39 + a) * F 137 (123 + b) < F 137 (39 + b) * F 137 (123 + a))) := by
  unfold precB
  rw [decide_eq_true_iff, show (1100 : Int) + 10 = 1110 from rfl, show (1000 : Int) + 14 = 1014 from rfl, show (1000 : Int) + 3 = 1003 from rfl, vw_1110, vw_14 ha, vw_14 hb, vw_3 ha, vw_3 hb]
set_option maxRecDepth 100000 in
set_option maxHeartbeats 4000000 in
theorem r_isAhead {V : VX} {F : Hp} {K : Int} (h : RI K F) (hK : K ≤ 1000000) {a d : Int} (ha : 0 ≤ a ∧ a < F 136 3) (hd : 0 ≤ d ∧ d < F 136 3) (ka : dstS 1000 1100 (vw 0 F) a ≠ -2) (kd : dstS 1000 1100 (vw 0 F) d ≠ -2)  : Ct V yX12_isAhead cX12_isAhead 5 (some .boolean) 2 46 0 0 SH [vr V 136, vi a, vi d] F SH 1 (fun r F' => ((r = 1 ∧ (dstS 1000 1100 (vw 0 F) a < dstS 1000 1100 (vw 0 F) d ∨ (dstS 1000 1100 (vw 0 F) a = dstS 1000 1100 (vw 0 F) d ∧ precB (vw 0 F (1100 + 10)) (vw 0 F (1000 + 14)) (vw 0 F (1000 + 3)) a d = true))) ∨ (r = 0 ∧ ¬ (dstS 1000 1100 (vw 0 F) a < dstS 1000 1100 (vw 0 F) d ∨ (dstS 1000 1100 (vw 0 F) a = dstS 1000 1100 (vw 0 F) d ∧ precB (vw 0 F (1100 + 10)) (vw 0 F (1000 + 14)) (vw 0 F (1000 + 3)) a d = true)))) ∧ F' = F) := by
  refine Ct.of [some (vr V 136), some (vi a), some (vi d), none, none] (by decide) (by simp [lg_sl, vi_cat, vl_cat, vr_cat]) rfl (by simp [asc, lv_args, vi_cat, vl_cat, vr_cat]) (fun X hV hX => ?_)
  subst hV
  have hN := ri_N h
  have hT := ri_T h
  have hA := ri_A h
  have hSS := ri_S h
  have hD := ri_D h
  have hDa := hD a ha.1 ha.2
  have hDd := hD d hd.1 hd.2
  have qa := ri_dst h ha.1 ha.2 ka
  have qd := ri_dst h hd.1 hd.2 kd
  obtain ⟨la, hla⟩ : ∃ la : Int, la = lndS 1000 1100 (vw 0 F) a (F 137 (147 + 3 * (a * 16 + 0) + 1)) := ⟨_, rfl⟩
  obtain ⟨ld, hld⟩ : ∃ ld : Int, ld = lndS 1000 1100 (vw 0 F) d (F 137 (147 + 3 * (d * 16 + 0) + 1)) := ⟨_, rfl⟩
  rw [← hla] at qa
  rw [← hld] at qd
  have hDla := hD la (by omega) (by omega)
  have hDld := hD ld (by omega) (by omega)
  have haa := hA a ha.1 ha.2
  have had := hA d hd.1 hd.2
  have hsa := hSS a ha.1 ha.2
  have hsd := hSS d hd.1 hd.2
  have hB := ri_B h
  have hBa := hB a ha.1 ha.2
  have hBd := hB d hd.1 hd.2
  have hQa := (ri_Q h).2.1 a ha.1 ha.2
  have hQd := (ri_Q h).2.1 d hd.1 hd.2
  have m1 := mul_rng (x := F 137 (39 + a)) (y := F 137 (123 + d)) (A := 1000000) (B := 9) (by omega) (by omega)
  have m2 := mul_rng (x := F 137 (39 + d)) (y := F 137 (123 + a)) (A := 1000000) (B := 9) (by omega) (by omega)
  have hpr := prB (F := F) (a := a) (b := d) (by omega) (by omega)
  refine R_aload_0 hX dX12_isAhead_0 ?_
  refine R_iload_1 hX dX12_isAhead_1 ?_
  refine R_aload_0 hX dX12_isAhead_2 ?_
  refine R_iload_1 hX dX12_isAhead_3 ?_
  refine R_aload_0 hX dX12_isAhead_4 ?_
  refine R_getq (v := 137) hX dX12_isAhead_5 fl_X12_7 o_136 rfl (by omega) ?_
  refine R_iload_1 hX dX12_isAhead_8 ?_
  refine R_iconst hX dX12_isAhead_9 ?_
  refine R_s2iw hX dX12_isAhead_10 li_X12_272 mk_X12_place ms_X12_place (r_place) ⟨⟨by decide, by decide⟩, by decide, by decide, rfl, (by simp [vi_cat, vl_cat, vr_cat]), rfl⟩ (fun x_10 F_10 h_10 => ?_)
  obtain ⟨h_10, e_10⟩ := h_10; replace e_10 := e_10.symm; subst e_10
  rw [h_10]
  refine R_iconst hX dX12_isAhead_13 ?_
  refine R_iadd hX dX12_isAhead_14 ?_
  refine R_iald hX dX12_isAhead_15 a_137 ⟨by omega, by omega⟩ ?_
  refine R_v2i hX dX12_isAhead_16 li_X12_266 mk_X12_lends mi_X12_lends rfl o_136 (r_lends h ha (by constructor <;> omega)) ⟨⟨by decide, by decide⟩, by decide, by decide, rfl, Nat.le_of_ble_eq_true rfl, rfl⟩ (fun x_16 F_16 h_16 => ?_)
  obtain ⟨h_16, e_16⟩ := h_16; replace e_16 := e_16.symm; subst e_16
  replace h_16 : x_16 = la := h_16.trans hla.symm
  refine R_v2i hX dX12_isAhead_19 li_X12_250 mk_X12_steps mi_X12_steps rfl o_136 (r_steps h ha (by rw [h_16]; exact qa.2.2.2.2.1)) ⟨⟨by decide, by decide⟩, by decide, by decide, rfl, Nat.le_of_ble_eq_true rfl, rfl⟩ (fun x_19 F_19 h_19 => ?_)
  obtain ⟨h_19, e_19⟩ := h_19; replace e_19 := e_19.symm; subst e_19
  rw [h_16] at h_19
  refine R_istore_3 hX c1_i dX12_isAhead_22 ?_
  refine R_aload_0 hX dX12_isAhead_23 ?_
  refine R_iload_2 hX dX12_isAhead_24 ?_
  refine R_aload_0 hX dX12_isAhead_25 ?_
  refine R_iload_2 hX dX12_isAhead_26 ?_
  refine R_aload_0 hX dX12_isAhead_27 ?_
  refine R_getq (v := 137) hX dX12_isAhead_28 fl_X12_7 o_136 rfl (by omega) ?_
  refine R_iload_2 hX dX12_isAhead_31 ?_
  refine R_iconst hX dX12_isAhead_32 ?_
  refine R_s2iw hX dX12_isAhead_33 li_X12_272 mk_X12_place ms_X12_place (r_place) ⟨⟨by decide, by decide⟩, by decide, by decide, rfl, (by simp [vi_cat, vl_cat, vr_cat]), rfl⟩ (fun x_33 F_33 h_33 => ?_)
  obtain ⟨h_33, e_33⟩ := h_33; replace e_33 := e_33.symm; subst e_33
  rw [h_33]
  refine R_iconst hX dX12_isAhead_36 ?_
  refine R_iadd hX dX12_isAhead_37 ?_
  refine R_iald hX dX12_isAhead_38 a_137 ⟨by omega, by omega⟩ ?_
  refine R_v2i hX dX12_isAhead_39 li_X12_266 mk_X12_lends mi_X12_lends rfl o_136 (r_lends h hd (by constructor <;> omega)) ⟨⟨by decide, by decide⟩, by decide, by decide, rfl, Nat.le_of_ble_eq_true rfl, rfl⟩ (fun x_39 F_39 h_39 => ?_)
  obtain ⟨h_39, e_39⟩ := h_39; replace e_39 := e_39.symm; subst e_39
  replace h_39 : x_39 = ld := h_39.trans hld.symm
  refine R_v2i hX dX12_isAhead_42 li_X12_250 mk_X12_steps mi_X12_steps rfl o_136 (r_steps h hd (by rw [h_39]; exact qd.2.2.2.2.1)) ⟨⟨by decide, by decide⟩, by decide, by decide, rfl, Nat.le_of_ble_eq_true rfl, rfl⟩ (fun x_42 F_42 h_42 => ?_)
  obtain ⟨h_42, e_42⟩ := h_42; replace e_42 := e_42.symm; subst e_42
  rw [h_39] at h_42
  refine R_istore_4 hX c1_i dX12_isAhead_45 ?_
  refine R_iload_3 hX dX12_isAhead_47 ?_
  refine R_iload_4 hX dX12_isAhead_48 ?_
  refine R_icmpeq (tgt := 65) hX dX12_isAhead_50 (by decide) (by constructor <;> first | omega | (simp (disch := omega) only [up_k, up_i, up_s]; omega)) (by constructor <;> first | omega | (simp (disch := omega) only [up_k, up_i, up_s]; omega)) (fun c_50 => ?_) (fun c_50 => ?_)
  · skip
    refine R_aload_0 hX dX12_isAhead_65 ?_
    refine R_getq (v := 144) hX dX12_isAhead_66 fl_X12_40 o_136 rfl (by omega) ?_
    refine R_iload_1 hX dX12_isAhead_69 ?_
    refine R_iald hX dX12_isAhead_70 a_144 ⟨by omega, by omega⟩ ?_
    refine R_aload_0 hX dX12_isAhead_71 ?_
    refine R_getq (v := 144) hX dX12_isAhead_72 fl_X12_40 o_136 rfl (by omega) ?_
    refine R_iload_2 hX dX12_isAhead_75 ?_
    refine R_iald hX dX12_isAhead_76 a_144 ⟨by omega, by omega⟩ ?_
    refine R_icmpeq (tgt := 101) hX dX12_isAhead_77 (by decide) (by constructor <;> first | omega | (simp (disch := omega) only [up_k, up_i, up_s]; omega)) (by constructor <;> first | omega | (simp (disch := omega) only [up_k, up_i, up_s]; omega)) (fun c_77 => ?_) (fun c_77 => ?_)
    · skip
      refine R_aload_0 hX dX12_isAhead_101 ?_
      refine R_getq (v := 137) hX dX12_isAhead_102 fl_X12_7 o_136 rfl (by omega) ?_
      refine R_bipush hX dX12_isAhead_105 (by decide) ?_
      refine R_iload_1 hX dX12_isAhead_107 ?_
      refine R_iadd hX dX12_isAhead_108 ?_
      refine R_iald hX dX12_isAhead_109 a_137 ⟨by omega, by omega⟩ ?_
      refine R_i2l hX (by constructor <;> first | omega | (simp (disch := omega) only [up_k, up_i, up_s]; omega)) dX12_isAhead_110 ?_
      refine R_aload_0 hX dX12_isAhead_111 ?_
      refine R_getq (v := 137) hX dX12_isAhead_112 fl_X12_7 o_136 rfl (by omega) ?_
      refine R_bipush hX dX12_isAhead_115 (by decide) ?_
      refine R_iload_2 hX dX12_isAhead_117 ?_
      refine R_iadd hX dX12_isAhead_118 ?_
      refine R_iald hX dX12_isAhead_119 a_137 ⟨by omega, by omega⟩ ?_
      refine R_i2l hX (by constructor <;> first | omega | (simp (disch := omega) only [up_k, up_i, up_s]; omega)) dX12_isAhead_120 ?_
      refine R_lmul hX dX12_isAhead_121 ?_
      refine R_aload_0 hX dX12_isAhead_122 ?_
      refine R_getq (v := 137) hX dX12_isAhead_123 fl_X12_7 o_136 rfl (by omega) ?_
      refine R_bipush hX dX12_isAhead_126 (by decide) ?_
      refine R_iload_2 hX dX12_isAhead_128 ?_
      refine R_iadd hX dX12_isAhead_129 ?_
      refine R_iald hX dX12_isAhead_130 a_137 ⟨by omega, by omega⟩ ?_
      refine R_i2l hX (by constructor <;> first | omega | (simp (disch := omega) only [up_k, up_i, up_s]; omega)) dX12_isAhead_131 ?_
      refine R_aload_0 hX dX12_isAhead_132 ?_
      refine R_getq (v := 137) hX dX12_isAhead_133 fl_X12_7 o_136 rfl (by omega) ?_
      refine R_bipush hX dX12_isAhead_136 (by decide) ?_
      refine R_iload_1 hX dX12_isAhead_138 ?_
      refine R_iadd hX dX12_isAhead_139 ?_
      refine R_iald hX dX12_isAhead_140 a_137 ⟨by omega, by omega⟩ ?_
      refine R_i2l hX (by constructor <;> first | omega | (simp (disch := omega) only [up_k, up_i, up_s]; omega)) dX12_isAhead_141 ?_
      refine R_lmul hX dX12_isAhead_142 ?_
      refine R_lcmp hX (by constructor <;> omega) (by constructor <;> omega) dX12_isAhead_143 ?_
      refine R_ifge (tgt := 151) hX dX12_isAhead_144 (by decide) (by unfold lc; split <;> (try split) <;> constructor <;> omega) (fun c_144 => ?_) (fun c_144 => ?_)
      · skip
        refine R_iconst hX dX12_isAhead_151 ?_
        exact R_zret hX (by omega) dX12_isAhead_152 ⟨by rw [qa.2.2.2.2.2, qd.2.2.2.2.2, hpr]; first | omega | (unfold lc at c_144; split at c_144 <;> (try split at c_144) <;> omega), rfl⟩
      · skip
        refine R_iconst hX dX12_isAhead_147 ?_
        refine R_goto (tgt := 152) hX dX12_isAhead_148 (by decide) ?_
        exact R_zret hX (by omega) dX12_isAhead_152 ⟨by rw [qa.2.2.2.2.2, qd.2.2.2.2.2, hpr]; first | omega | (unfold lc at c_144; split at c_144 <;> (try split at c_144) <;> omega), rfl⟩
    · skip
      refine R_aload_0 hX dX12_isAhead_80 ?_
      refine R_getq (v := 144) hX dX12_isAhead_81 fl_X12_40 o_136 rfl (by omega) ?_
      refine R_iload_1 hX dX12_isAhead_84 ?_
      refine R_iald hX dX12_isAhead_85 a_144 ⟨by omega, by omega⟩ ?_
      refine R_aload_0 hX dX12_isAhead_86 ?_
      refine R_getq (v := 144) hX dX12_isAhead_87 fl_X12_40 o_136 rfl (by omega) ?_
      refine R_iload_2 hX dX12_isAhead_90 ?_
      refine R_iald hX dX12_isAhead_91 a_144 ⟨by omega, by omega⟩ ?_
      refine R_icmpge (tgt := 99) hX dX12_isAhead_92 (by decide) (by constructor <;> first | omega | (simp (disch := omega) only [up_k, up_i, up_s]; omega)) (by constructor <;> first | omega | (simp (disch := omega) only [up_k, up_i, up_s]; omega)) (fun c_92 => ?_) (fun c_92 => ?_)
      · skip
        refine R_iconst hX dX12_isAhead_99 ?_
        exact R_zret hX (by omega) dX12_isAhead_100 ⟨by rw [qa.2.2.2.2.2, qd.2.2.2.2.2, hpr]; first | omega | (unfold lc at c_144; split at c_144 <;> (try split at c_144) <;> omega), rfl⟩
      · skip
        refine R_iconst hX dX12_isAhead_95 ?_
        refine R_goto (tgt := 100) hX dX12_isAhead_96 (by decide) ?_
        exact R_zret hX (by omega) dX12_isAhead_100 ⟨by rw [qa.2.2.2.2.2, qd.2.2.2.2.2, hpr]; first | omega | (unfold lc at c_144; split at c_144 <;> (try split at c_144) <;> omega), rfl⟩
  · skip
    refine R_iload_3 hX dX12_isAhead_53 ?_
    refine R_iload_4 hX dX12_isAhead_54 ?_
    refine R_icmpge (tgt := 63) hX dX12_isAhead_56 (by decide) (by constructor <;> first | omega | (simp (disch := omega) only [up_k, up_i, up_s]; omega)) (by constructor <;> first | omega | (simp (disch := omega) only [up_k, up_i, up_s]; omega)) (fun c_56 => ?_) (fun c_56 => ?_)
    · skip
      refine R_iconst hX dX12_isAhead_63 ?_
      exact R_zret hX (by omega) dX12_isAhead_64 ⟨by rw [qa.2.2.2.2.2, qd.2.2.2.2.2, hpr]; first | omega | (unfold lc at c_144; split at c_144 <;> (try split at c_144) <;> omega), rfl⟩
    · skip
      refine R_iconst hX dX12_isAhead_59 ?_
      refine R_goto (tgt := 64) hX dX12_isAhead_60 (by decide) ?_
      exact R_zret hX (by omega) dX12_isAhead_64 ⟨by rw [qa.2.2.2.2.2, qd.2.2.2.2.2, hpr]; first | omega | (unfold lc at c_144; split at c_144 <;> (try split at c_144) <;> omega), rfl⟩
