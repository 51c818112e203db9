set_option maxRecDepth 100000 in
set_option maxHeartbeats 4000000 in
theorem r_scans {V : VX} {F : Hp} (hx : TxQ F) (hf : I32 (F 136 19))  : Ct V yX12_scans cX12_scans 2 none 1 21 0 0 SH [vr V 136] F SH 0 (fun r F' => F' = sc F) := by
  refine Ct.of [some (vr V 136), none] (by decide) (by simp [lg_sl, vi_cat, vl_cat, vr_cat]) rfl (by simp [asc, lv_args, vi_cat, vl_cat, vr_cat]) (fun X hV hX => ?_)
  subst hV
  obtain ⟨hL, hB, hp⟩ := id hx
  have hkr := rk_f hx
  have hlr := rl_f hx
  have hdr := rd_f hx
  clear hx
  refine R_aload_0 hX dX12_scans_0 ?_
  refine R_v0i hX dX12_scans_1 li_X12_112 mk_X12_isGood mi_X12_isGood rfl o_136 (r_isGood hf) ⟨⟨by decide, by decide⟩, by decide, by decide, rfl, Nat.le_of_ble_eq_true rfl, rfl⟩ (fun x_1 F_1 h_1 => ?_)
  obtain ⟨h_1, e_1⟩ := h_1; replace e_1 := e_1.symm; subst e_1
  refine R_ifne (tgt := 8) hX dX12_scans_4 (by decide) (by constructor <;> first | omega | (simp (disch := omega) only [up_k, up_i, up_s]; omega)) (fun c_4 => ?_) (fun c_4 => ?_)
  · skip
    have lp_8 : ∀ (n : Nat) (k : Nat) (p : Int), (F 136 16 ≤ p ∧ p ≤ F 136 14 ∧ F 136 14 - p < k) → (runE spcB (F 146) (F 136 14) k p = rkE F) → (F 136 14 - p).toNat < n → R X SH 0 0 8 [some (vr (xV X) 136), none] [] (scH F (F 136 15) p (F 136 18) (F 136 21)) (Zq X SH 0 (fun r F' => F' = sc F) 0 0) := by
      intro n
      induction n with
      | zero => intro k p iv8_0 iv8_1 hm; exact absurd hm (Nat.not_lt_zero _)
      | succ n ih_8 =>
        intro k p iv8_0 iv8_1 hm_8
        refine R_aload_0 hX dX12_scans_8 ?_
        refine R_aload_0 hX dX12_scans_9 ?_
        refine R_geti hX dX12_scans_10 fl_X12_122 o_136 rfl ?_
        try simp (disch := omega) only [up_k, up_i, up_s, scH_k, scH_f, scH_15, scH_16, scH_18, scH_21]
        refine R_v1i hX dX12_scans_13 li_X12_125 mk_X12_byteAt mi_X12_byteAt rfl o_136 (r_byteAt (by rw [scH_f (by decide)]; exact hL) (by omega)) ⟨⟨by decide, by decide⟩, by decide, by decide, rfl, Nat.le_of_ble_eq_true rfl, rfl⟩ (fun x_13 F_13 h_13 => ?_)
        obtain ⟨h_13, e_13⟩ := h_13; replace e_13 := e_13.symm; subst e_13
        simp (disch := omega) only [scH_f, scH_k] at h_13
        have hb_13 : x_13 = -2 ∨ (0 ≤ x_13 ∧ x_13 ≤ 255) := by rw [h_13]; split <;> first | exact Or.inl rfl | (right; exact hB _ (by omega) (by omega))
        refine R_bipush hX dX12_scans_16 (by decide) ?_
        refine R_icmpeq (tgt := 34) hX dX12_scans_18 (by decide) (by constructor <;> first | omega | (simp (disch := omega) only [up_k, up_i, up_s]; omega)) (by constructor <;> first | omega | (simp (disch := omega) only [up_k, up_i, up_s]; omega)) (fun c_18 => ?_) (fun c_18 => ?_)
        · skip
          have hpl : p < F 136 14 := by by_cases z : p < F 136 14; exact z; exfalso; first | (rw [if_neg z] at h_13; omega) | (rw [if_neg z] at h_26; omega)
          have hsp : F 146 p = 32 ∨ F 146 p = 10 := by first | (rw [if_pos hpl] at h_13; rw [if_pos hpl] at h_26; omega) | (rw [if_pos hpl] at h_13; omega)
          refine R_aload_0 hX dX12_scans_34 ?_
          refine R_dup hX c1_r dX12_scans_35 ?_
          refine R_geti hX dX12_scans_36 fl_X12_122 o_136 rfl ?_
          try simp (disch := omega) only [up_k, up_i, up_s, scH_k, scH_f, scH_15, scH_16, scH_18, scH_21]
          refine R_iconst hX dX12_scans_39 ?_
          refine R_iadd hX dX12_scans_40 ?_
          refine R_puti hX dX12_scans_41 fl_X12_122 o_136 rfl ?_
          rw [scH_u.2.1]
          refine R_goto (tgt := 8) hX dX12_scans_44 (by decide) ?_
          exact ih_8 (k - 1) (p + 1) (by omega) (by rw [← iv8_1]; exact (runE_go (by omega) ⟨by omega, spcB_t.mpr hsp⟩).symm) (by omega)
        · skip
          refine R_aload_0 hX dX12_scans_21 ?_
          refine R_aload_0 hX dX12_scans_22 ?_
          refine R_geti hX dX12_scans_23 fl_X12_122 o_136 rfl ?_
          try simp (disch := omega) only [up_k, up_i, up_s, scH_k, scH_f, scH_15, scH_16, scH_18, scH_21]
          refine R_v1i hX dX12_scans_26 li_X12_125 mk_X12_byteAt mi_X12_byteAt rfl o_136 (r_byteAt (by rw [scH_f (by decide)]; exact hL) (by omega)) ⟨⟨by decide, by decide⟩, by decide, by decide, rfl, Nat.le_of_ble_eq_true rfl, rfl⟩ (fun x_26 F_26 h_26 => ?_)
          obtain ⟨h_26, e_26⟩ := h_26; replace e_26 := e_26.symm; subst e_26
          simp (disch := omega) only [scH_f, scH_k] at h_26
          have hb_26 : x_26 = -2 ∨ (0 ≤ x_26 ∧ x_26 ≤ 255) := by rw [h_26]; split <;> first | exact Or.inl rfl | (right; exact hB _ (by omega) (by omega))
          refine R_bipush hX dX12_scans_29 (by decide) ?_
          refine R_icmpne (tgt := 47) hX dX12_scans_31 (by decide) (by constructor <;> first | omega | (simp (disch := omega) only [up_k, up_i, up_s]; omega)) (by constructor <;> first | omega | (simp (disch := omega) only [up_k, up_i, up_s]; omega)) (fun c_31 => ?_) (fun c_31 => ?_)
          · skip
            have hst : ¬ (p < F 136 14 ∧ spcB (F 146 p) = true) := fun z => by have z2 := spcB_t.mp z.2; rw [if_pos z.1] at h_13; rw [if_pos z.1] at h_26; omega
            have hpe : p = rkE F := by rw [← iv8_1, runE_stop hst]
            subst hpe
            refine R_aload_0 hX dX12_scans_47 ?_
            refine R_aload_0 hX dX12_scans_48 ?_
            refine R_geti hX dX12_scans_49 fl_X12_122 o_136 rfl ?_
            try simp (disch := omega) only [up_k, up_i, up_s, scH_k, scH_f, scH_15, scH_16, scH_18, scH_21]
            refine R_puti hX dX12_scans_52 fl_X12_119 o_136 rfl ?_
            rw [scH_u.1]
            refine R_aload_0 hX dX12_scans_55 ?_
            refine R_aload_0 hX dX12_scans_56 ?_
            refine R_geti hX dX12_scans_57 fl_X12_119 o_136 rfl ?_
            try simp (disch := omega) only [up_k, up_i, up_s, scH_k, scH_f, scH_15, scH_16, scH_18, scH_21]
            refine R_v1i hX dX12_scans_60 li_X12_125 mk_X12_byteAt mi_X12_byteAt rfl o_136 (r_byteAt (by rw [scH_f (by decide)]; exact hL) (by omega)) ⟨⟨by decide, by decide⟩, by decide, by decide, rfl, Nat.le_of_ble_eq_true rfl, rfl⟩ (fun x_60 F_60 h_60 => ?_)
            obtain ⟨h_60, e_60⟩ := h_60; replace e_60 := e_60.symm; subst e_60
            simp (disch := omega) only [scH_f, scH_k] at h_60
            have hb_60 : x_60 = -2 ∨ (0 ≤ x_60 ∧ x_60 ≤ 255) := by rw [h_60]; split <;> first | exact Or.inl rfl | (right; exact hB _ (by omega) (by omega))
            refine R_istore_1 hX c1_r dX12_scans_63 ?_
            obtain ⟨cc, hcc⟩ : ∃ cc : Int, cc = x_60 := ⟨_, rfl⟩
            rw [← hcc]
            rw [← hcc] at h_60 hb_60
            refine R_aload_0 hX dX12_scans_64 ?_
            refine R_iconst hX dX12_scans_65 ?_
            refine R_puti hX dX12_scans_66 fl_X12_129 o_136 rfl ?_
            rw [scH_u.2.2.1]
            refine R_aload_0 hX dX12_scans_69 ?_
            refine R_lconst0 hX dX12_scans_70 ?_
            refine R_putl hX dX12_scans_71 fl_X12_132 o_136 rfl ?_
            rw [scH_u.2.2.2]
            refine R_iload_1 hX dX12_scans_74 ?_
            refine R_bipush hX dX12_scans_75 (by decide) ?_
            refine R_icmpne (tgt := 88) hX dX12_scans_77 (by decide) (by constructor <;> first | omega | (simp (disch := omega) only [up_k, up_i, up_s]; omega)) (by constructor <;> first | omega | (simp (disch := omega) only [up_k, up_i, up_s]; omega)) (fun c_77 => ?_) (fun c_77 => ?_)
            · skip
              have hkl : rkE F < F 136 14 := by by_cases z : rkE F < F 136 14; exact z; (exfalso; rw [if_neg z] at h_60; omega)
              rw [if_pos hkl] at h_60
              have hkl2 : ¬ F 136 14 ≤ rkE F := by omega
              refine R_iload_1 hX dX12_scans_88 ?_
              refine R_s1i hX dX12_scans_89 li_X12_136 mk_X12_isSmall ms_X12_isSmall (r_isSmall (by constructor <;> omega)) ⟨⟨by decide, by decide⟩, by decide, by decide, rfl, Nat.le_of_ble_eq_true rfl, rfl⟩ (fun x_89 F_89 h_89 => ?_)
              obtain ⟨h_89, e_89⟩ := h_89; replace e_89 := e_89.symm; subst e_89
              refine R_ifeq (tgt := 195) hX dX12_scans_92 (by decide) (by constructor <;> first | omega | (simp (disch := omega) only [up_k, up_i, up_s]; omega)) (fun c_92 => ?_) (fun c_92 => ?_)
              · skip
                have hnl : ¬ ltrB (F 146 (rkE F)) = true := fun z => by have := ltrB_t.mp z; omega
                refine R_iload_1 hX dX12_scans_195 ?_
                refine R_s1i hX dX12_scans_196 li_X12_143 mk_X12_isDigit ms_X12_isDigit (r_isDigit (by constructor <;> omega)) ⟨⟨by decide, by decide⟩, by decide, by decide, rfl, Nat.le_of_ble_eq_true rfl, rfl⟩ (fun x_196 F_196 h_196 => ?_)
                obtain ⟨h_196, e_196⟩ := h_196; replace e_196 := e_196.symm; subst e_196
                refine R_ifeq (tgt := 293) hX dX12_scans_199 (by decide) (by constructor <;> first | omega | (simp (disch := omega) only [up_k, up_i, up_s]; omega)) (fun c_199 => ?_) (fun c_199 => ?_)
                · skip
                  have hnd : ¬ dgtB (F 146 (rkE F)) = true := fun z => by have := dgtB_t.mp z; omega
                  refine R_aload_0 hX dX12_scans_293 ?_
                  refine R_dup hX c1_r dX12_scans_294 ?_
                  refine R_geti hX dX12_scans_295 fl_X12_122 o_136 rfl ?_
                  try simp (disch := omega) only [up_k, up_i, up_s, scH_k, scH_f, scH_15, scH_16, scH_18, scH_21]
                  refine R_iconst hX dX12_scans_298 ?_
                  refine R_iadd hX dX12_scans_299 ?_
                  refine R_puti hX dX12_scans_300 fl_X12_122 o_136 rfl ?_
                  rw [scH_u.2.1]
                  refine R_aload_0 hX dX12_scans_303 ?_
                  refine R_iload_1 hX dX12_scans_304 ?_
                  refine R_bipush hX dX12_scans_305 (by decide) ?_
                  refine R_icmpne (tgt := 314) hX dX12_scans_307 (by decide) (by constructor <;> first | omega | (simp (disch := omega) only [up_k, up_i, up_s]; omega)) (by constructor <;> first | omega | (simp (disch := omega) only [up_k, up_i, up_s]; omega)) (fun c_307 => ?_) (fun c_307 => ?_)
                  · skip
                    refine R_iconst hX dX12_scans_314 ?_
                    refine R_puti hX dX12_scans_315 fl_X12_116 o_136 rfl ?_
                    skip
                    exact R_vret hX dX12_scans_318 (by refine Eq.trans ?_ (show scF F = sc F from (if_pos (by omega)).symm); first | rfl | (unfold scF rtE rtK rtN rtW; simp only [if_neg hkl2, if_neg hnl, if_neg hnd]; first | (rw [if_pos (by omega)]; done) | (rw [if_neg (by omega)]; done)))
                  · skip
                    refine R_iconst hX dX12_scans_310 ?_
                    refine R_goto (tgt := 315) hX dX12_scans_311 (by decide) ?_
                    refine R_puti hX dX12_scans_315 fl_X12_116 o_136 rfl ?_
                    skip
                    exact R_vret hX dX12_scans_318 (by refine Eq.trans ?_ (show scF F = sc F from (if_pos (by omega)).symm); first | rfl | (unfold scF rtE rtK rtN rtW; simp only [if_neg hkl2, if_neg hnl, if_neg hnd]; first | (rw [if_pos (by omega)]; done) | (rw [if_neg (by omega)]; done)))
                · skip
                  have lp_202 : ∀ (n : Nat) (k : Nat) (p : Int), (rkE F ≤ p ∧ p ≤ F 136 14 ∧ F 136 14 - p < k) → (runE dgtB (F 146) (F 136 14) k p = rdE F) → (0 ≤ nbQ (F 146) (rkE F) (p - rkE F).toNat ∧ nbQ (F 146) (rkE F) (p - rkE F).toNat ≤ 1000000) → (F 136 14 - p).toNat < n → R X SH 0 0 202 [some (vr (xV X) 136), some (vi cc)] [] (scH F (rkE F) p (nbQ (F 146) (rkE F) (p - rkE F).toNat) 0) (Zq X SH 0 (fun r F' => F' = sc F) 0 0) := by
                    intro n
                    induction n with
                    | zero => intro k p iv202_0 iv202_1 iv202_2 hm; exact absurd hm (Nat.not_lt_zero _)
                    | succ n ih_202 =>
                      intro k p iv202_0 iv202_1 iv202_2 hm_202
                      refine R_aload_0 hX dX12_scans_202 ?_
                      refine R_aload_0 hX dX12_scans_203 ?_
                      refine R_geti hX dX12_scans_204 fl_X12_122 o_136 rfl ?_
                      try simp (disch := omega) only [up_k, up_i, up_s, scH_k, scH_f, scH_15, scH_16, scH_18, scH_21]
                      refine R_v1i hX dX12_scans_207 li_X12_125 mk_X12_byteAt mi_X12_byteAt rfl o_136 (r_byteAt (by rw [scH_f (by decide)]; exact hL) (by omega)) ⟨⟨by decide, by decide⟩, by decide, by decide, rfl, Nat.le_of_ble_eq_true rfl, rfl⟩ (fun x_207 F_207 h_207 => ?_)
                      obtain ⟨h_207, e_207⟩ := h_207; replace e_207 := e_207.symm; subst e_207
                      simp (disch := omega) only [scH_f, scH_k] at h_207
                      have hb_207 : x_207 = -2 ∨ (0 ≤ x_207 ∧ x_207 ≤ 255) := by rw [h_207]; split <;> first | exact Or.inl rfl | (right; exact hB _ (by omega) (by omega))
                      refine R_s1i hX dX12_scans_210 li_X12_143 mk_X12_isDigit ms_X12_isDigit (r_isDigit (by constructor <;> omega)) ⟨⟨by decide, by decide⟩, by decide, by decide, rfl, Nat.le_of_ble_eq_true rfl, rfl⟩ (fun x_210 F_210 h_210 => ?_)
                      obtain ⟨h_210, e_210⟩ := h_210; replace e_210 := e_210.symm; subst e_210
                      refine R_ifeq (tgt := 268) hX dX12_scans_213 (by decide) (by constructor <;> first | omega | (simp (disch := omega) only [up_k, up_i, up_s]; omega)) (fun c_213 => ?_) (fun c_213 => ?_)
                      · skip
                        have hst : ¬ (p < F 136 14 ∧ dgtB (F 146 p) = true) := fun z => by have z2 := dgtB_t.mp z.2; rw [if_pos z.1] at h_207; omega
                        have hpe : p = rdE F := by rw [← iv202_1, runE_stop hst]
                        subst hpe
                        have hdt : dgtB (F 146 (rkE F)) = true := dgtB_t.mpr (by omega)
                        refine R_aload_0 hX dX12_scans_268 ?_
                        refine R_aload_0 hX dX12_scans_269 ?_
                        refine R_geti hX dX12_scans_270 fl_X12_122 o_136 rfl ?_
                        try simp (disch := omega) only [up_k, up_i, up_s, scH_k, scH_f, scH_15, scH_16, scH_18, scH_21]
                        refine R_aload_0 hX dX12_scans_273 ?_
                        refine R_geti hX dX12_scans_274 fl_X12_119 o_136 rfl ?_
                        try simp (disch := omega) only [up_k, up_i, up_s, scH_k, scH_f, scH_15, scH_16, scH_18, scH_21]
                        refine R_isub hX dX12_scans_277 ?_
                        refine R_iconst hX dX12_scans_278 ?_
                        refine R_icmple (tgt := 286) hX dX12_scans_279 (by decide) (by constructor <;> first | omega | (simp (disch := omega) only [up_k, up_i, up_s]; omega)) (by constructor <;> first | omega | (simp (disch := omega) only [up_k, up_i, up_s]; omega)) (fun c_279 => ?_) (fun c_279 => ?_)
                        · skip
                          refine R_iconst hX dX12_scans_286 ?_
                          refine R_puti hX dX12_scans_287 fl_X12_116 o_136 rfl ?_
                          refine R.eq rfl rfl (show _ = scF F by unfold scF rtE rtK rtN rtW; simp only [if_neg hkl2, if_neg hnl, if_pos hdt]; first | (rw [if_pos (by omega)]; done) | (rw [if_neg (by omega)]; done)) ?_
                          refine R_goto (tgt := 318) hX dX12_scans_290 (by decide) ?_
                          skip
                          exact R_vret hX dX12_scans_318 (by refine Eq.trans ?_ (show scF F = sc F from (if_pos (by omega)).symm); first | rfl | (unfold scF rtE rtK rtN rtW; simp only [if_neg hkl2, if_neg hnl, if_neg hnd]; first | (rw [if_pos (by omega)]; done) | (rw [if_neg (by omega)]; done)))
                        · skip
                          refine R_iconst hX dX12_scans_282 ?_
                          refine R_goto (tgt := 287) hX dX12_scans_283 (by decide) ?_
                          refine R_puti hX dX12_scans_287 fl_X12_116 o_136 rfl ?_
                          refine R.eq rfl rfl (show _ = scF F by unfold scF rtE rtK rtN rtW; simp only [if_neg hkl2, if_neg hnl, if_pos hdt]; first | (rw [if_pos (by omega)]; done) | (rw [if_neg (by omega)]; done)) ?_
                          refine R_goto (tgt := 318) hX dX12_scans_290 (by decide) ?_
                          skip
                          exact R_vret hX dX12_scans_318 (by refine Eq.trans ?_ (show scF F = sc F from (if_pos (by omega)).symm); first | rfl | (unfold scF rtE rtK rtN rtW; simp only [if_neg hkl2, if_neg hnl, if_neg hnd]; first | (rw [if_pos (by omega)]; done) | (rw [if_neg (by omega)]; done)))
                      · skip
                        have hpl : p < F 136 14 := by by_cases z : p < F 136 14; exact z; (exfalso; rw [if_neg z] at h_207; omega)
                        rw [if_pos hpl] at h_207
                        have hsm : 48 ≤ F 146 p ∧ F 146 p ≤ 57 := by omega
                        refine R_aload_0 hX dX12_scans_216 ?_
                        refine R_aload_0 hX dX12_scans_217 ?_
                        refine R_geti hX dX12_scans_218 fl_X12_129 o_136 rfl ?_
                        try simp (disch := omega) only [up_k, up_i, up_s, scH_k, scH_f, scH_15, scH_16, scH_18, scH_21]
                        refine R_ldc (n := 99999) hX k1_X12_146 rfl dX12_scans_221 ?_
                        refine R_icmple (tgt := 233) hX dX12_scans_223 (by decide) (by constructor <;> first | omega | (simp (disch := omega) only [up_k, up_i, up_s]; omega)) (by constructor <;> first | omega | (simp (disch := omega) only [up_k, up_i, up_s]; omega)) (fun c_223 => ?_) (fun c_223 => ?_)
                        · skip
                          refine R_bipush hX dX12_scans_233 (by decide) ?_
                          refine R_aload_0 hX dX12_scans_235 ?_
                          refine R_geti hX dX12_scans_236 fl_X12_129 o_136 rfl ?_
                          try simp (disch := omega) only [up_k, up_i, up_s, scH_k, scH_f, scH_15, scH_16, scH_18, scH_21]
                          refine R_imul hX dX12_scans_239 ?_
                          refine R_aload_0 hX dX12_scans_240 ?_
                          refine R_aload_0 hX dX12_scans_241 ?_
                          refine R_geti hX dX12_scans_242 fl_X12_122 o_136 rfl ?_
                          try simp (disch := omega) only [up_k, up_i, up_s, scH_k, scH_f, scH_15, scH_16, scH_18, scH_21]
                          refine R_v1i hX dX12_scans_245 li_X12_125 mk_X12_byteAt mi_X12_byteAt rfl o_136 (r_byteAt (by rw [scH_f (by decide)]; exact hL) (by omega)) ⟨⟨by decide, by decide⟩, by decide, by decide, rfl, Nat.le_of_ble_eq_true rfl, rfl⟩ (fun x_245 F_245 h_245 => ?_)
                          obtain ⟨h_245, e_245⟩ := h_245; replace e_245 := e_245.symm; subst e_245
                          simp (disch := omega) only [scH_f, scH_k] at h_245
                          have hb_245 : x_245 = -2 ∨ (0 ≤ x_245 ∧ x_245 ≤ 255) := by rw [h_245]; split <;> first | exact Or.inl rfl | (right; exact hB _ (by omega) (by omega))
                          refine R_iadd hX dX12_scans_248 ?_
                          refine R_bipush hX dX12_scans_249 (by decide) ?_
                          refine R_isub hX dX12_scans_251 ?_
                          refine R_puti hX dX12_scans_252 fl_X12_129 o_136 rfl ?_
                          refine R_aload_0 hX dX12_scans_255 ?_
                          refine R_dup hX c1_r dX12_scans_256 ?_
                          refine R_geti hX dX12_scans_257 fl_X12_122 o_136 rfl ?_
                          try simp (disch := omega) only [up_k, up_i, up_s, scH_k, scH_f, scH_15, scH_16, scH_18, scH_21]
                          refine R_iconst hX dX12_scans_260 ?_
                          refine R_iadd hX dX12_scans_261 ?_
                          refine R_puti hX dX12_scans_262 fl_X12_122 o_136 rfl ?_
                          refine R.eq rfl rfl (show _ = scH F (rkE F) (p + 1) (nbQ (F 146) (rkE F) (p + 1 - rkE F).toNat) 0 by rw [nbQ_s (by omega)]; first | (rw [if_pos (by omega), scH_u.2.2.1, scH_u.2.1]; done) | (rw [if_pos hpl] at h_245; rw [if_neg (by omega), h_245, scH_u.2.2.1, scH_u.2.1]; done)) ?_
                          refine R_goto (tgt := 202) hX dX12_scans_265 (by decide) ?_
                          exact ih_202 (k - 1) (p + 1) (by omega) (by rw [← iv202_1]; exact (runE_go (by omega) ⟨by omega, dgtB_t.mpr hsm⟩).symm) (by rw [nbQ_s (by omega)]; split <;> omega) (by omega)
                        · skip
                          refine R_aload_0 hX dX12_scans_226 ?_
                          refine R_geti hX dX12_scans_227 fl_X12_129 o_136 rfl ?_
                          try simp (disch := omega) only [up_k, up_i, up_s, scH_k, scH_f, scH_15, scH_16, scH_18, scH_21]
                          refine R_goto (tgt := 252) hX dX12_scans_230 (by decide) ?_
                          refine R_puti hX dX12_scans_252 fl_X12_129 o_136 rfl ?_
                          refine R_aload_0 hX dX12_scans_255 ?_
                          refine R_dup hX c1_r dX12_scans_256 ?_
                          refine R_geti hX dX12_scans_257 fl_X12_122 o_136 rfl ?_
                          try simp (disch := omega) only [up_k, up_i, up_s, scH_k, scH_f, scH_15, scH_16, scH_18, scH_21]
                          refine R_iconst hX dX12_scans_260 ?_
                          refine R_iadd hX dX12_scans_261 ?_
                          refine R_puti hX dX12_scans_262 fl_X12_122 o_136 rfl ?_
                          refine R.eq rfl rfl (show _ = scH F (rkE F) (p + 1) (nbQ (F 146) (rkE F) (p + 1 - rkE F).toNat) 0 by rw [nbQ_s (by omega)]; first | (rw [if_pos (by omega), scH_u.2.2.1, scH_u.2.1]; done) | (rw [if_pos hpl] at h_245; rw [if_neg (by omega), h_245, scH_u.2.2.1, scH_u.2.1]; done)) ?_
                          refine R_goto (tgt := 202) hX dX12_scans_265 (by decide) ?_
                          exact ih_202 (k - 1) (p + 1) (by omega) (by rw [← iv202_1]; exact (runE_go (by omega) ⟨by omega, dgtB_t.mpr hsm⟩).symm) (by rw [nbQ_s (by omega)]; split <;> omega) (by omega)
                  refine R.eq rfl rfl (show _ = scH F (rkE F) (rkE F) (nbQ (F 146) (rkE F) (rkE F - rkE F).toNat) 0 by rw [Int.sub_self]; rfl) ?_
                  exact lp_202 901 ((F 136 14 - rkE F).toNat + 1) _ (by omega) rfl (by rw [Int.sub_self]; exact ⟨Int.le_refl _, (by decide : (0 : Int) ≤ 1000000)⟩) (by omega)
              · skip
                have lp_95 : ∀ (n : Nat) (k : Nat) (p : Int), (rkE F ≤ p ∧ p ≤ F 136 14 ∧ F 136 14 - p < k) → (runE ltrB (F 146) (F 136 14) k p = rlE F) → (F 136 14 - p).toNat < n → R X SH 0 0 95 [some (vr (xV X) 136), some (vi cc)] [] (scH F (rkE F) p 0 (rwC (F 146) (rkE F) (p - rkE F).toNat)) (Zq X SH 0 (fun r F' => F' = sc F) 0 0) := by
                  intro n
                  induction n with
                  | zero => intro k p iv95_0 iv95_1 hm; exact absurd hm (Nat.not_lt_zero _)
                  | succ n ih_95 =>
                    intro k p iv95_0 iv95_1 hm_95
                    refine R_aload_0 hX dX12_scans_95 ?_
                    refine R_aload_0 hX dX12_scans_96 ?_
                    refine R_geti hX dX12_scans_97 fl_X12_122 o_136 rfl ?_
                    try simp (disch := omega) only [up_k, up_i, up_s, scH_k, scH_f, scH_15, scH_16, scH_18, scH_21]
                    refine R_v1i hX dX12_scans_100 li_X12_125 mk_X12_byteAt mi_X12_byteAt rfl o_136 (r_byteAt (by rw [scH_f (by decide)]; exact hL) (by omega)) ⟨⟨by decide, by decide⟩, by decide, by decide, rfl, Nat.le_of_ble_eq_true rfl, rfl⟩ (fun x_100 F_100 h_100 => ?_)
                    obtain ⟨h_100, e_100⟩ := h_100; replace e_100 := e_100.symm; subst e_100
                    simp (disch := omega) only [scH_f, scH_k] at h_100
                    have hb_100 : x_100 = -2 ∨ (0 ≤ x_100 ∧ x_100 ≤ 255) := by rw [h_100]; split <;> first | exact Or.inl rfl | (right; exact hB _ (by omega) (by omega))
                    refine R_s1i hX dX12_scans_103 li_X12_136 mk_X12_isSmall ms_X12_isSmall (r_isSmall (by constructor <;> omega)) ⟨⟨by decide, by decide⟩, by decide, by decide, rfl, Nat.le_of_ble_eq_true rfl, rfl⟩ (fun x_103 F_103 h_103 => ?_)
                    obtain ⟨h_103, e_103⟩ := h_103; replace e_103 := e_103.symm; subst e_103
                    refine R_ifeq (tgt := 169) hX dX12_scans_106 (by decide) (by constructor <;> first | omega | (simp (disch := omega) only [up_k, up_i, up_s]; omega)) (fun c_106 => ?_) (fun c_106 => ?_)
                    · skip
                      have hst : ¬ (p < F 136 14 ∧ ltrB (F 146 p) = true) := fun z => by have z2 := ltrB_t.mp z.2; rw [if_pos z.1] at h_100; omega
                      have hpe : p = rlE F := by rw [← iv95_1, runE_stop hst]
                      subst hpe
                      have hlt : ltrB (F 146 (rkE F)) = true := ltrB_t.mpr (by omega)
                      refine R_aload_0 hX dX12_scans_169 ?_
                      refine R_aload_0 hX dX12_scans_170 ?_
                      refine R_geti hX dX12_scans_171 fl_X12_122 o_136 rfl ?_
                      try simp (disch := omega) only [up_k, up_i, up_s, scH_k, scH_f, scH_15, scH_16, scH_18, scH_21]
                      refine R_aload_0 hX dX12_scans_174 ?_
                      refine R_geti hX dX12_scans_175 fl_X12_119 o_136 rfl ?_
                      try simp (disch := omega) only [up_k, up_i, up_s, scH_k, scH_f, scH_15, scH_16, scH_18, scH_21]
                      refine R_isub hX dX12_scans_178 ?_
                      refine R_bipush hX dX12_scans_179 (by decide) ?_
                      refine R_icmple (tgt := 188) hX dX12_scans_181 (by decide) (by constructor <;> first | omega | (simp (disch := omega) only [up_k, up_i, up_s]; omega)) (by constructor <;> first | omega | (simp (disch := omega) only [up_k, up_i, up_s]; omega)) (fun c_181 => ?_) (fun c_181 => ?_)
                      · skip
                        refine R_iconst hX dX12_scans_188 ?_
                        refine R_puti hX dX12_scans_189 fl_X12_116 o_136 rfl ?_
                        refine R.eq rfl rfl (show _ = scF F by unfold scF rtE rtK rtN rtW; simp only [if_neg hkl2, if_pos hlt]; first | (rw [if_pos (by omega)]; done) | (rw [if_neg (by omega)]; done)) ?_
                        refine R_goto (tgt := 318) hX dX12_scans_192 (by decide) ?_
                        skip
                        exact R_vret hX dX12_scans_318 (by refine Eq.trans ?_ (show scF F = sc F from (if_pos (by omega)).symm); first | rfl | (unfold scF rtE rtK rtN rtW; simp only [if_neg hkl2, if_neg hnl, if_neg hnd]; first | (rw [if_pos (by omega)]; done) | (rw [if_neg (by omega)]; done)))
                      · skip
                        refine R_iconst hX dX12_scans_184 ?_
                        refine R_goto (tgt := 189) hX dX12_scans_185 (by decide) ?_
                        refine R_puti hX dX12_scans_189 fl_X12_116 o_136 rfl ?_
                        refine R.eq rfl rfl (show _ = scF F by unfold scF rtE rtK rtN rtW; simp only [if_neg hkl2, if_pos hlt]; first | (rw [if_pos (by omega)]; done) | (rw [if_neg (by omega)]; done)) ?_
                        refine R_goto (tgt := 318) hX dX12_scans_192 (by decide) ?_
                        skip
                        exact R_vret hX dX12_scans_318 (by refine Eq.trans ?_ (show scF F = sc F from (if_pos (by omega)).symm); first | rfl | (unfold scF rtE rtK rtN rtW; simp only [if_neg hkl2, if_neg hnl, if_neg hnd]; first | (rw [if_pos (by omega)]; done) | (rw [if_neg (by omega)]; done)))
                    · skip
                      have hpl : p < F 136 14 := by by_cases z : p < F 136 14; exact z; (exfalso; rw [if_neg z] at h_100; omega)
                      rw [if_pos hpl] at h_100
                      have hsm : 97 ≤ F 146 p ∧ F 146 p ≤ 122 := by omega
                      refine R_aload_0 hX dX12_scans_109 ?_
                      refine R_aload_0 hX dX12_scans_110 ?_
                      refine R_geti hX dX12_scans_111 fl_X12_122 o_136 rfl ?_
                      try simp (disch := omega) only [up_k, up_i, up_s, scH_k, scH_f, scH_15, scH_16, scH_18, scH_21]
                      refine R_aload_0 hX dX12_scans_114 ?_
                      refine R_geti hX dX12_scans_115 fl_X12_119 o_136 rfl ?_
                      try simp (disch := omega) only [up_k, up_i, up_s, scH_k, scH_f, scH_15, scH_16, scH_18, scH_21]
                      refine R_isub hX dX12_scans_118 ?_
                      refine R_bipush hX dX12_scans_119 (by decide) ?_
                      refine R_icmpge (tgt := 149) hX dX12_scans_121 (by decide) (by constructor <;> first | omega | (simp (disch := omega) only [up_k, up_i, up_s]; omega)) (by constructor <;> first | omega | (simp (disch := omega) only [up_k, up_i, up_s]; omega)) (fun c_121 => ?_) (fun c_121 => ?_)
                      · skip
                        refine R_aload_0 hX dX12_scans_149 ?_
                        refine R_getl hX dX12_scans_150 fl_X12_132 o_136 rfl ?_
                        try simp (disch := omega) only [up_k, up_i, up_s, scH_k, scH_f, scH_15, scH_16, scH_18, scH_21]
                        refine R_putl hX dX12_scans_153 fl_X12_132 o_136 rfl ?_
                        refine R_aload_0 hX dX12_scans_156 ?_
                        refine R_dup hX c1_r dX12_scans_157 ?_
                        refine R_geti hX dX12_scans_158 fl_X12_122 o_136 rfl ?_
                        try simp (disch := omega) only [up_k, up_i, up_s, scH_k, scH_f, scH_15, scH_16, scH_18, scH_21]
                        refine R_iconst hX dX12_scans_161 ?_
                        refine R_iadd hX dX12_scans_162 ?_
                        refine R_puti hX dX12_scans_163 fl_X12_122 o_136 rfl ?_
                        refine R.eq rfl rfl (show _ = scH F (rkE F) (p + 1) 0 (rwC (F 146) (rkE F) (p + 1 - rkE F).toNat) by rw [rwC_s (by omega)]; first | (rw [if_pos hpl] at h_137; rw [if_pos (by omega), h_137, scH_u.2.2.2, scH_u.2.1]; done) | (rw [if_neg (by omega), scH_u.2.2.2, scH_u.2.1]; done)) ?_
                        refine R_goto (tgt := 95) hX dX12_scans_166 (by decide) ?_
                        exact ih_95 (k - 1) (p + 1) (by omega) (by rw [← iv95_1]; exact (runE_go (by omega) ⟨by omega, ltrB_t.mpr hsm⟩).symm) (by omega)
                      · skip
                        refine R_aload_0 hX dX12_scans_124 ?_
                        refine R_getl hX dX12_scans_125 fl_X12_132 o_136 rfl ?_
                        try simp (disch := omega) only [up_k, up_i, up_s, scH_k, scH_f, scH_15, scH_16, scH_18, scH_21]
                        refine R_ldc2 (n := 32) hX k2_X12_139 rfl dX12_scans_128 ?_
                        refine R_lmul hX dX12_scans_131 ?_
                        refine R_aload_0 hX dX12_scans_132 ?_
                        refine R_aload_0 hX dX12_scans_133 ?_
                        refine R_geti hX dX12_scans_134 fl_X12_122 o_136 rfl ?_
                        try simp (disch := omega) only [up_k, up_i, up_s, scH_k, scH_f, scH_15, scH_16, scH_18, scH_21]
                        refine R_v1i hX dX12_scans_137 li_X12_125 mk_X12_byteAt mi_X12_byteAt rfl o_136 (r_byteAt (by rw [scH_f (by decide)]; exact hL) (by omega)) ⟨⟨by decide, by decide⟩, by decide, by decide, rfl, Nat.le_of_ble_eq_true rfl, rfl⟩ (fun x_137 F_137 h_137 => ?_)
                        obtain ⟨h_137, e_137⟩ := h_137; replace e_137 := e_137.symm; subst e_137
                        simp (disch := omega) only [scH_f, scH_k] at h_137
                        have hb_137 : x_137 = -2 ∨ (0 ≤ x_137 ∧ x_137 ≤ 255) := by rw [h_137]; split <;> first | exact Or.inl rfl | (right; exact hB _ (by omega) (by omega))
                        refine R_i2l hX (by constructor <;> first | omega | (simp (disch := omega) only [up_k, up_i, up_s]; omega)) dX12_scans_140 ?_
                        refine R_ladd hX dX12_scans_141 ?_
                        refine R_ldc2 (n := 96) hX k2_X12_141 rfl dX12_scans_142 ?_
                        refine R_lsub hX dX12_scans_145 ?_
                        refine R_goto (tgt := 153) hX dX12_scans_146 (by decide) ?_
                        refine R_putl hX dX12_scans_153 fl_X12_132 o_136 rfl ?_
                        refine R_aload_0 hX dX12_scans_156 ?_
                        refine R_dup hX c1_r dX12_scans_157 ?_
                        refine R_geti hX dX12_scans_158 fl_X12_122 o_136 rfl ?_
                        try simp (disch := omega) only [up_k, up_i, up_s, scH_k, scH_f, scH_15, scH_16, scH_18, scH_21]
                        refine R_iconst hX dX12_scans_161 ?_
                        refine R_iadd hX dX12_scans_162 ?_
                        refine R_puti hX dX12_scans_163 fl_X12_122 o_136 rfl ?_
                        refine R.eq rfl rfl (show _ = scH F (rkE F) (p + 1) 0 (rwC (F 146) (rkE F) (p + 1 - rkE F).toNat) by rw [rwC_s (by omega)]; first | (rw [if_pos hpl] at h_137; rw [if_pos (by omega), h_137, scH_u.2.2.2, scH_u.2.1]; done) | (rw [if_neg (by omega), scH_u.2.2.2, scH_u.2.1]; done)) ?_
                        refine R_goto (tgt := 95) hX dX12_scans_166 (by decide) ?_
                        exact ih_95 (k - 1) (p + 1) (by omega) (by rw [← iv95_1]; exact (runE_go (by omega) ⟨by omega, ltrB_t.mpr hsm⟩).symm) (by omega)
                refine R.eq rfl rfl (show _ = scH F (rkE F) (rkE F) 0 (rwC (F 146) (rkE F) (rkE F - rkE F).toNat) by rw [Int.sub_self]; rfl) ?_
                exact lp_95 901 ((F 136 14 - rkE F).toNat + 1) _ (by omega) rfl (by omega)
            · skip
              have hend : F 136 14 ≤ rkE F := by by_cases z : rkE F < F 136 14; (exfalso; rw [if_pos z] at h_60; have := hB _ (by omega) z; omega); omega
              refine R_aload_0 hX dX12_scans_80 ?_
              refine R_iconst hX dX12_scans_81 ?_
              refine R_puti hX dX12_scans_82 fl_X12_116 o_136 rfl ?_
              refine R.eq rfl rfl (show _ = scF F by unfold scF rtE rtK rtN rtW; simp only [if_pos hend]) ?_
              refine R_goto (tgt := 318) hX dX12_scans_85 (by decide) ?_
              skip
              exact R_vret hX dX12_scans_318 (by refine Eq.trans ?_ (show scF F = sc F from (if_pos (by omega)).symm); first | rfl | (unfold scF rtE rtK rtN rtW; simp only [if_neg hkl2, if_neg hnl, if_neg hnd]; first | (rw [if_pos (by omega)]; done) | (rw [if_neg (by omega)]; done)))
          · skip
            have hpl : p < F 136 14 := by by_cases z : p < F 136 14; exact z; exfalso; first | (rw [if_neg z] at h_13; omega) | (rw [if_neg z] at h_26; omega)
            have hsp : F 146 p = 32 ∨ F 146 p = 10 := by first | (rw [if_pos hpl] at h_13; rw [if_pos hpl] at h_26; omega) | (rw [if_pos hpl] at h_13; omega)
            refine R_aload_0 hX dX12_scans_34 ?_
            refine R_dup hX c1_r dX12_scans_35 ?_
            refine R_geti hX dX12_scans_36 fl_X12_122 o_136 rfl ?_
            try simp (disch := omega) only [up_k, up_i, up_s, scH_k, scH_f, scH_15, scH_16, scH_18, scH_21]
            refine R_iconst hX dX12_scans_39 ?_
            refine R_iadd hX dX12_scans_40 ?_
            refine R_puti hX dX12_scans_41 fl_X12_122 o_136 rfl ?_
            rw [scH_u.2.1]
            refine R_goto (tgt := 8) hX dX12_scans_44 (by decide) ?_
            exact ih_8 (k - 1) (p + 1) (by omega) (by rw [← iv8_1]; exact (runE_go (by omega) ⟨by omega, spcB_t.mpr hsp⟩).symm) (by omega)
    refine R.eq rfl rfl (scH_0 F).symm ?_
    exact lp_8 901 ((F 136 14 - F 136 16).toNat + 1) _ (by omega) rfl (by omega)
  · skip
    exact R_vret hX dX12_scans_7 (by unfold sc; rw [if_neg (by omega)])
