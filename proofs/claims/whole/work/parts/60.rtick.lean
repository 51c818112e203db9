theorem dpt_mono {par : Int → Int} {N : Int} {d : Int → Int} (hT : Tr N par) (hD : ∀ n : Int, 0 ≤ n → n < N → (0 ≤ d n ∧ d n ≤ n) ∧ (par n < 0 → d n = 0) ∧ (0 ≤ par n → d n = d (par n) + 1)) : ∀ (k : Nat) (m t : Int), m < N → m < k → 0 ≤ t → onP par k m t = true → d t ≤ d m
  | 0, m, t, _, _, _, h => by cases h
  | k + 1, m, t, hm, hk, h0, h => by
    have hle := onP_le hT _ _ _ hm h
    by_cases q : t = m
    · rw [q]; exact Int.le_refl _
    · have ht := hT m (by omega) hm
      rw [onP_up (by omega) hk q] at h
      have hle2 := onP_le hT _ _ _ (by omega) h
      have ih := dpt_mono hT hD k (par m) t (by omega) (by omega) h0 h
      have := (hD m (by omega) hm).2.2 (by omega)
      omega
theorem ri_dz {K n : Int} {F : Hp} (h : RI K F) (h0 : 0 ≤ n) (h1 : n < F 136 3) : (chlC (F 141) (F 136 3) n ≠ 0 → dstS 1000 1100 (vw 0 F) n = -2) ∧ (F 137 (135 + n) = 0 → dstS 1000 1100 (vw 0 F) n = -2) ∧ (lndS 1000 1100 (vw 0 F) n (F 137 (147 + 3 * (n * 16 + 0) + 1)) = -2 → dstS 1000 1100 (vw 0 F) n = -2) ∧ (F 137 (135 + n) ≠ 0 → lndS 1000 1100 (vw 0 F) n (F 137 (147 + 3 * (n * 16 + 0) + 1)) ≠ -2 → dstS 1000 1100 (vw 0 F) n ≠ -2) := by
  have hN := ri_N h
  have hQ := (ri_Q h).2.1 n h0 h1
  have hD := ri_D h
  have e : vw 0 F (1000 + 11) (n * 16) = F 137 (147 + 3 * (n * 16 + 0) + 1) := by
    have := vw_q1 (F := F) (j := n * 16 + 0) (by omega)
    rw [show (1000 : Int) + 11 = 1011 from rfl, ← this, Int.add_zero]
  have e9 : vw 0 F (1000 + 9) n = F 137 (135 + n) := vw_9 (by omega)
  have hr := lndS_rng (b := 1000) (c := vw 0 F (1000 + 11) (n * 16)) h.1.2.1 (by rw [vw_1100_0]; exact h1)
  have hok := fun q => lndS_ok (b := 1000) (c := vw 0 F (1000 + 11) (n * 16)) h.1.2.1 (by rw [vw_1100_0]; exact h1) q
  rw [e] at hr hok
  unfold dstS
  rw [e9, e]
  refine ⟨fun q => if_pos (hQ.2 q), fun q => if_pos q, fun q => by split <;> first | rfl | exact if_pos q, fun q p => ?_⟩
  rw [if_neg q, if_neg p, show (1100 : Int) + 3 = 1103 from rfl, vw_1103]
  have d1 := hD n h0 h1
  have ho := (hok p).2.1
  rw [vw_par] at ho
  have d2 := hD (lndS 1000 1100 (vw 0 F) n (F 137 (147 + 3 * (n * 16 + 0) + 1))) (by omega) (by omega)
  have hlk := (hok p).1
  have := dpt_mono (d := dptF (F 141) 13) (ri_T h) (ri_D h) 13 n _ h1 (by omega) (by omega) ho
  omega
theorem vw_1100_N {K : Int} {F : Hp} (_ : RI K F) : (vw 0 F 1100 0).toNat = (F 136 3).toNat := by rw [vw_1100_0]
set_option maxRecDepth 100000 in
set_option maxHeartbeats 4000000 in
theorem r_chosen {V : VX} {F : Hp} {K : Int} (h : RI K F) (hK : K ≤ 1000000)  : Ct V yX12_chosen cX12_chosen 3 (some .int) 3 70 0 0 SH [vr V 136] F SH 1 (fun r F' => r = chlS 1000 1100 (vw 0 F) ∧ F' = F) := by
  refine Ct.of [some (vr V 136), none, none] (by decide) (by simp [lg_sl, vi_cat, vl_cat, vr_cat]) rfl (by simp [asc, lv_args, vi_cat, vl_cat, vr_cat]) (fun X hV hX => ?_)
  subst hV
  have hN := ri_N h
  have hT := ri_T h
  have hA := ri_A h
  have hSS := ri_S h
  have hQ := ri_Q h
  refine R_bipush hX dX12_chosen_0 (by decide) ?_
  refine R_istore_1 hX c1_r dX12_chosen_2 ?_
  refine R_iconst hX dX12_chosen_3 ?_
  refine R_istore_2 hX c1_i dX12_chosen_4 ?_
  have lp_5 : ∀ (n : Nat) (best : Int) (x : Int), (0 ≤ x ∧ x ≤ F 136 3) → (best = (choS (dstS 1000 1100 (vw 0 F)) (precB (vw 0 F (1100 + 10)) (vw 0 F (1000 + 14)) (vw 0 F (1000 + 3))) x.toNat).1) → (13 - x).toNat < n → R X SH 0 0 5 [some (vr (xV X) 136), some (vi best), some (vi x)] [] F (Zq X SH 1 (fun r F' => r = chlS 1000 1100 (vw 0 F) ∧ F' = F) 0 0) := by
    intro n
    induction n with
    | zero => intro best x iv5_0 iv5_1 hm; exact absurd hm (Nat.not_lt_zero _)
    | succ n ih_5 =>
      intro best x iv5_0 iv5_1 hm_5
      refine R_iload_2 hX dX12_chosen_5 ?_
      refine R_aload_0 hX dX12_chosen_6 ?_
      refine R_geti hX dX12_chosen_7 fl_X12_91 o_136 rfl ?_
      refine R_icmpge (tgt := 86) hX dX12_chosen_10 (by decide) (by constructor <;> first | omega | (simp (disch := omega) only [up_k, up_i, up_s]; omega)) (by constructor <;> first | omega | (simp (disch := omega) only [up_k, up_i, up_s]; omega)) (fun c_10 => ?_) (fun c_10 => ?_)
      · skip
        refine R_iload_1 hX dX12_chosen_86 ?_
        exact R_iret hX dX12_chosen_87 ⟨by unfold chlS; rw [iv5_1, vw_1100_0, show F 136 3 = x by omega], rfl⟩
      · skip
        have hz := ri_dz h (n := x) (by omega) (by omega)
        have hcs := choS_s (dist := dstS 1000 1100 (vw 0 F)) (prec := precB (vw 0 F (1100 + 10)) (vw 0 F (1000 + 14)) (vw 0 F (1000 + 3))) iv5_0.1
        have hc := choS_rng (dist := dstS 1000 1100 (vw 0 F)) (prec := precB (vw 0 F (1100 + 10)) (vw 0 F (1000 + 14)) (vw 0 F (1000 + 3))) x.toNat
        rw [← iv5_1] at hcs hc
        have hskip : dstS 1000 1100 (vw 0 F) x = -2 → best = (choS (dstS 1000 1100 (vw 0 F)) (precB (vw 0 F (1100 + 10)) (vw 0 F (1000 + 14)) (vw 0 F (1000 + 3))) (x + 1).toNat).1 := fun q => by rw [hcs, if_neg (fun z => z.1 q)]; exact iv5_1
        have htake : dstS 1000 1100 (vw 0 F) x ≠ -2 → (best = -2 ∨ (dstS 1000 1100 (vw 0 F) x < dstS 1000 1100 (vw 0 F) best ∨ (dstS 1000 1100 (vw 0 F) x = dstS 1000 1100 (vw 0 F) best ∧ precB (vw 0 F (1100 + 10)) (vw 0 F (1000 + 14)) (vw 0 F (1000 + 3)) x best = true))) → x = (choS (dstS 1000 1100 (vw 0 F)) (precB (vw 0 F (1100 + 10)) (vw 0 F (1000 + 14)) (vw 0 F (1000 + 3))) (x + 1).toNat).1 := fun q w => by
          rw [hcs, if_pos ⟨q, by rcases w with w | w | w; exact Or.inl w; exact hc.elim (fun z => Or.inl z.1) (fun z => Or.inr (Or.inl (by rw [z.2.2.1]; exact w))); exact hc.elim (fun z => Or.inl z.1) (fun z => Or.inr (Or.inr (by rw [z.2.2.1]; exact w)))⟩]
        have hkeep : dstS 1000 1100 (vw 0 F) x ≠ -2 → best ≠ -2 → ¬ (dstS 1000 1100 (vw 0 F) x < dstS 1000 1100 (vw 0 F) best ∨ (dstS 1000 1100 (vw 0 F) x = dstS 1000 1100 (vw 0 F) best ∧ precB (vw 0 F (1100 + 10)) (vw 0 F (1000 + 14)) (vw 0 F (1000 + 3)) x best = true)) → best = (choS (dstS 1000 1100 (vw 0 F)) (precB (vw 0 F (1100 + 10)) (vw 0 F (1000 + 14)) (vw 0 F (1000 + 3))) (x + 1).toNat).1 := fun q p w => by
          rw [hcs, if_neg (fun y => y.2.elim p (fun v => hc.elim (fun z => p z.1) (fun z => w (by rw [z.2.2.1] at v; exact v))))]
          exact iv5_1
        refine R_aload_0 hX dX12_chosen_13 ?_
        refine R_iload_2 hX dX12_chosen_14 ?_
        refine R_v1i hX dX12_chosen_15 li_X12_247 mk_X12_isBare mi_X12_isBare rfl o_136 (r_isBare h (by constructor <;> omega)) ⟨⟨by decide, by decide⟩, by decide, by decide, rfl, Nat.le_of_ble_eq_true rfl, rfl⟩ (fun x_15 F_15 h_15 => ?_)
        obtain ⟨h_15, e_15⟩ := h_15; replace e_15 := e_15.symm; subst e_15
        refine R_ifeq (tgt := 80) hX dX12_chosen_18 (by decide) (by constructor <;> first | omega | (simp (disch := omega) only [up_k, up_i, up_s]; omega)) (fun c_18 => ?_) (fun c_18 => ?_)
        · skip
          refine R_iinc_2 hX c1_i dX12_chosen_80 ?_
          refine R_goto (tgt := 5) hX dX12_chosen_83 (by decide) ?_
          exact ih_5 _ _ (by omega) (by first | exact hskip (hz.1 (by omega)) | exact hskip (hz.2.1 (by omega)) | exact hskip (hz.2.2.1 (by rw [← h_48]; exact c_53)) | exact htake hd (Or.inl (by omega)) | exact htake hd (Or.inr (h_68.elim (fun z => z.2) (fun z => absurd z.1 c_71))) | exact hkeep hd (by omega) (h_68.elim (fun z => absurd (z.1.symm.trans c_71) (by decide)) (fun z => z.2))) (by omega)
        · skip
          have hxb : chlC (F 141) (F 136 3) x = 0 := by omega
          have hQx := hQ.2.1 x (by omega) (by omega)
          refine R_aload_0 hX dX12_chosen_21 ?_
          refine R_getq (v := 137) hX dX12_chosen_22 fl_X12_7 o_136 rfl (by omega) ?_
          refine R_sipush hX dX12_chosen_25 (by decide) ?_
          refine R_iload_2 hX dX12_chosen_28 ?_
          refine R_iadd hX dX12_chosen_29 ?_
          refine R_iald hX dX12_chosen_30 a_137 ⟨by omega, by omega⟩ ?_
          refine R_ifeq (tgt := 80) hX dX12_chosen_31 (by decide) (by constructor <;> first | omega | (simp (disch := omega) only [up_k, up_i, up_s]; omega)) (fun c_31 => ?_) (fun c_31 => ?_)
          · skip
            refine R_iinc_2 hX c1_i dX12_chosen_80 ?_
            refine R_goto (tgt := 5) hX dX12_chosen_83 (by decide) ?_
            exact ih_5 _ _ (by omega) (by first | exact hskip (hz.1 (by omega)) | exact hskip (hz.2.1 (by omega)) | exact hskip (hz.2.2.1 (by rw [← h_48]; exact c_53)) | exact htake hd (Or.inl (by omega)) | exact htake hd (Or.inr (h_68.elim (fun z => z.2) (fun z => absurd z.1 c_71))) | exact hkeep hd (by omega) (h_68.elim (fun z => absurd (z.1.symm.trans c_71) (by decide)) (fun z => z.2))) (by omega)
          · skip
            have hq0 := hQ.2.2 x (by omega) (by omega) 0 (by omega) (by omega)
            refine R_aload_0 hX dX12_chosen_34 ?_
            refine R_iload_2 hX dX12_chosen_35 ?_
            refine R_aload_0 hX dX12_chosen_36 ?_
            refine R_getq (v := 137) hX dX12_chosen_37 fl_X12_7 o_136 rfl (by omega) ?_
            refine R_iload_2 hX dX12_chosen_40 ?_
            refine R_iconst hX dX12_chosen_41 ?_
            refine R_s2i hX dX12_chosen_42 li_X12_272 mk_X12_place ms_X12_place (r_place) ⟨⟨by decide, by decide⟩, by decide, by decide, rfl, Nat.le_of_ble_eq_true rfl, rfl⟩ (fun x_42 F_42 h_42 => ?_)
            obtain ⟨h_42, e_42⟩ := h_42; replace e_42 := e_42.symm; subst e_42
            rw [h_42]
            refine R_iconst hX dX12_chosen_45 ?_
            refine R_iadd hX dX12_chosen_46 ?_
            refine R_iald hX dX12_chosen_47 a_137 ⟨by omega, by omega⟩ ?_
            refine R_v2i hX dX12_chosen_48 li_X12_266 mk_X12_lends mi_X12_lends rfl o_136 (r_lends h (by omega) (by constructor <;> omega)) ⟨⟨by decide, by decide⟩, by decide, by decide, rfl, Nat.le_of_ble_eq_true rfl, rfl⟩ (fun x_48 F_48 h_48 => ?_)
            obtain ⟨h_48, e_48⟩ := h_48; replace e_48 := e_48.symm; subst e_48
            have hlr := lndS_rng (b := 1000) (c := F 137 (147 + 3 * (x * 16 + 0) + 1)) h.1.2.1 (show x < vw 0 F 1100 0 by rw [vw_1100_0]; omega)
            refine R_bipush hX dX12_chosen_51 (by decide) ?_
            refine R_icmpne (tgt := 59) hX dX12_chosen_53 (by decide) (by constructor <;> first | omega | (simp (disch := omega) only [up_k, up_i, up_s]; omega)) (by constructor <;> first | omega | (simp (disch := omega) only [up_k, up_i, up_s]; omega)) (fun c_53 => ?_) (fun c_53 => ?_)
            · skip
              have hd := hz.2.2.2 (by omega) (by rw [← h_48]; exact c_53)
              refine R_iload_1 hX dX12_chosen_59 ?_
              refine R_bipush hX dX12_chosen_60 (by decide) ?_
              refine R_icmpeq (tgt := 74) hX dX12_chosen_62 (by decide) (by constructor <;> first | omega | (simp (disch := omega) only [up_k, up_i, up_s]; omega)) (by constructor <;> first | omega | (simp (disch := omega) only [up_k, up_i, up_s]; omega)) (fun c_62 => ?_) (fun c_62 => ?_)
              · skip
                refine R_iload_2 hX dX12_chosen_74 ?_
                refine R_goto (tgt := 79) hX dX12_chosen_75 (by decide) ?_
                refine R_istore_1 hX c1_r dX12_chosen_79 ?_
                refine R_iinc_2 hX c1_i dX12_chosen_80 ?_
                refine R_goto (tgt := 5) hX dX12_chosen_83 (by decide) ?_
                exact ih_5 _ _ (by omega) (by first | exact hskip (hz.1 (by omega)) | exact hskip (hz.2.1 (by omega)) | exact hskip (hz.2.2.1 (by rw [← h_48]; exact c_53)) | exact htake hd (Or.inl (by omega)) | exact htake hd (Or.inr (h_68.elim (fun z => z.2) (fun z => absurd z.1 c_71))) | exact hkeep hd (by omega) (h_68.elim (fun z => absurd (z.1.symm.trans c_71) (by decide)) (fun z => z.2))) (by omega)
              · skip
                have hbk : dstS 1000 1100 (vw 0 F) best ≠ -2 := hc.elim (fun z => absurd z.1 (by omega)) (fun z => z.2.2.2)
                refine R_aload_0 hX dX12_chosen_65 ?_
                refine R_iload_2 hX dX12_chosen_66 ?_
                refine R_iload_1 hX dX12_chosen_67 ?_
                refine R_v2i hX dX12_chosen_68 li_X12_282 mk_X12_isAhead mi_X12_isAhead rfl o_136 (r_isAhead h hK (by omega) (by omega) hd hbk) ⟨⟨by decide, by decide⟩, by decide, by decide, rfl, Nat.le_of_ble_eq_true rfl, rfl⟩ (fun x_68 F_68 h_68 => ?_)
                obtain ⟨h_68, e_68⟩ := h_68; replace e_68 := e_68.symm; subst e_68
                refine R_ifeq (tgt := 78) hX dX12_chosen_71 (by decide) (by constructor <;> first | omega | (simp (disch := omega) only [up_k, up_i, up_s]; omega)) (fun c_71 => ?_) (fun c_71 => ?_)
                · skip
                  refine R_iload_1 hX dX12_chosen_78 ?_
                  refine R_istore_1 hX c1_r dX12_chosen_79 ?_
                  refine R_iinc_2 hX c1_i dX12_chosen_80 ?_
                  refine R_goto (tgt := 5) hX dX12_chosen_83 (by decide) ?_
                  exact ih_5 _ _ (by omega) (by first | exact hskip (hz.1 (by omega)) | exact hskip (hz.2.1 (by omega)) | exact hskip (hz.2.2.1 (by rw [← h_48]; exact c_53)) | exact htake hd (Or.inl (by omega)) | exact htake hd (Or.inr (h_68.elim (fun z => z.2) (fun z => absurd z.1 c_71))) | exact hkeep hd (by omega) (h_68.elim (fun z => absurd (z.1.symm.trans c_71) (by decide)) (fun z => z.2))) (by omega)
                · skip
                  refine R_iload_2 hX dX12_chosen_74 ?_
                  refine R_goto (tgt := 79) hX dX12_chosen_75 (by decide) ?_
                  refine R_istore_1 hX c1_r dX12_chosen_79 ?_
                  refine R_iinc_2 hX c1_i dX12_chosen_80 ?_
                  refine R_goto (tgt := 5) hX dX12_chosen_83 (by decide) ?_
                  exact ih_5 _ _ (by omega) (by first | exact hskip (hz.1 (by omega)) | exact hskip (hz.2.1 (by omega)) | exact hskip (hz.2.2.1 (by rw [← h_48]; exact c_53)) | exact htake hd (Or.inl (by omega)) | exact htake hd (Or.inr (h_68.elim (fun z => z.2) (fun z => absurd z.1 c_71))) | exact hkeep hd (by omega) (h_68.elim (fun z => absurd (z.1.symm.trans c_71) (by decide)) (fun z => z.2))) (by omega)
            · skip
              refine R_goto (tgt := 80) hX dX12_chosen_56 (by decide) ?_
              refine R_iinc_2 hX c1_i dX12_chosen_80 ?_
              refine R_goto (tgt := 5) hX dX12_chosen_83 (by decide) ?_
              exact ih_5 _ _ (by omega) (by first | exact hskip (hz.1 (by omega)) | exact hskip (hz.2.1 (by omega)) | exact hskip (hz.2.2.1 (by rw [← h_48]; exact c_53)) | exact htake hd (Or.inl (by omega)) | exact htake hd (Or.inr (h_68.elim (fun z => z.2) (fun z => absurd z.1 c_71))) | exact hkeep hd (by omega) (h_68.elim (fun z => absurd (z.1.symm.trans c_71) (by decide)) (fun z => z.2))) (by omega)
  exact lp_5 14 _ 0 (by omega) rfl (by omega)
