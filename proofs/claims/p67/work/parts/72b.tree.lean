set_option maxRecDepth 100000 in
set_option maxHeartbeats 4000000 in
theorem e_iTree {V : VX} {T : Shp} {F : Hp} {d t : Int} (ht : t + 1 = 136 + (T.length : Int)) (hp : 136 ≤ t) (ho : isO (SH T) t 12 []) (hd : isA (SH T) d .int 1) (hdt : d < t) (hz : ∀ j : Int, F t j = z0 12 j) : CtE V yX12_init cX12_init 3 none 6 131 60 400 (SH T) [vr V t, vr V d] F 0 (fun r s F' => ∃ g, s = SH (T ++ g) ∧ (IT F F' t d (F' t 0) ∧ IL (T ++ g) F' t (F' t 0) ∧ TrA (T ++ g) t)) := by
  refine CtE.ofI [some (vr V t), some (vr V d), none] (by decide) (by simp [lg_sl, vi_cat, vl_cat, vr_cat, rf_cat]) rfl (by simp [asc, lv_args, vi_cat, vl_cat, vr_cat, rf_cat]) (fun X hV hX hin => ?_)
  subst hV
  have hd0 := hd.ltT
  have jn_235 : ∀ (TZ : Shp) (G : Hp), (∃ g, TZ = T ++ g) → (TrA TZ t) → (isA (SH TZ) d .int 1) → ((TZ.length : Int) = T.length + 17) → (S0 F G t d) → (1 ≤ G t 0 ∧ G t 0 ≤ 6) → (0 ≤ G t 1 ∧ G t 1 ≤ 5) → (G t 2 = -1 ∨ (2 ≤ G t 2 ∧ G t 2 ≤ 7)) → (0 ≤ G t 22 ∧ G t 22 ≤ 9) → (0 ≤ G t 23 ∧ G t 23 < G t 0) → (0 ≤ G t 24 ∧ G t 24 ≤ 11) → R X (SH TZ) 17 99 235 [some (vr (xV X) t), some (vr (xV X) d), none] [] G (ZE X 0 (fun r s F' => ∃ g, s = SH (T ++ g) ∧ (IT F F' t d (F' t 0) ∧ IL (T ++ g) F' t (F' t 0) ∧ TrA (T ++ g) t)) 60 400) := by
    intro TZ G jv235_0 jv235_1 jv235_2 jv235_3 jv235_4 jv235_5 jv235_6 jv235_7 jv235_8 jv235_9 jv235_10
    have hA := jv235_1
    have hdz := jv235_2
    have hlz := jv235_3
    have hS0 := jv235_4
    clear hz
    refine R_iconst hX dX12_init_235 ?_
    refine R_istore_2 hX c1_r dX12_init_236 ?_
    have lp_237 : ∀ (n : Nat) (T1 : Shp) (G : Hp) (c : Nat) (w : Nat) (k : Int) (N : Int), (0 ≤ k ∧ k ≤ G t 0 ∧ 1 ≤ G t 0 ∧ G t 0 ≤ 6 ∧ (c : Int) ≤ 17 + 2 * k ∧ (w : Int) ≤ 99 + 13 * k) → (IT F G t d k) → (IL T1 G t k) → ((T1.length : Int) + 136 = t + 18 + (if k = 0 then 0 else k + 1)) → (∃ g, T1 = T ++ g) → (TrA T1 t) → (isA (SH T1) d .int 1) → (G t 0 = N) → (7 - k).toNat < n → R X (SH T1) c w 237 [some (vr (xV X) t), some (vr (xV X) d), some (vi k)] [] G (ZE X 0 (fun r s F' => ∃ g, s = SH (T ++ g) ∧ (IT F F' t d (F' t 0) ∧ IL (T ++ g) F' t (F' t 0) ∧ TrA (T ++ g) t)) 60 400) := by
      intro n
      induction n with
      | zero => intro T1 G c w k N iv237_0 iv237_1 iv237_2 iv237_3 iv237_4 iv237_5 iv237_6 iv237_7 hm; exact absurd hm (Nat.not_lt_zero _)
      | succ n ih_237 =>
        intro T1 G c w k N iv237_0 iv237_1 iv237_2 iv237_3 iv237_4 iv237_5 iv237_6 iv237_7 hm_237
        have hA1 := iv237_5
        have hd1 := iv237_6
        refine R_iload_2 hX dX12_init_237 ?_
        refine R_aload_0 hX dX12_init_238 ?_
        refine R_geti hX dX12_init_239 fl_X12_72 hA1.o rfl ?_
        try simp (disch := omega) only [up_k, up_i, up_s]
        refine R_icmpge (tgt := 403) hX dX12_init_242 (by decide) (by constructor <;> first | omega | (simp (disch := omega) only [up_k, up_i, up_s]; omega)) (by constructor <;> first | omega | (simp (disch := omega) only [up_k, up_i, up_s]; omega)) (fun c_242 => ?_) (fun c_242 => ?_)
        · skip
          exact R_vretE hX dX12_init_403 ⟨by omega, by omega⟩ (by obtain ⟨g, hg⟩ := iv237_4; exact ⟨g, by rw [hg], by rw [show G t 0 = k by omega]; exact iv237_1, by rw [show G t 0 = k by omega, ← hg]; exact iv237_2, by rw [← hg]; exact hA1⟩)
        · skip
          have jn_264 : ∀ (G : Hp) (p : Int), (IT F G t d k) → (IL T1 G t k) → ((k = 0 → p = -2) ∧ (1 ≤ k → 0 ≤ p ∧ p < k)) → (G t 0 = N) → R X (SH T1) c w 264 [some (vr (xV X) t), some (vr (xV X) d), some (vi k)] [vi p, vi k, vr (xV X) (t + 1)] G (ZE X 0 (fun r s F' => ∃ g, s = SH (T ++ g) ∧ (IT F F' t d (F' t 0) ∧ IL (T ++ g) F' t (F' t 0) ∧ TrA (T ++ g) t)) 60 400) := by
            intro G p jv264_0 jv264_1 jv264_2 jv264_3
            have i2 := jv264_0.2.1
            have hnb := jv264_0.2.2.1.1
            have jn_357 : ∀ (G : Hp) (a : Int), (IT F G t d k) → (IL T1 G t k) → (NB G t k) → (a = 0 ∨ a = 1) → (G t 0 = N) → R X (SH T1) c w 357 [some (vr (xV X) t), some (vr (xV X) d), some (vi k)] [vi a, vi k, vr (xV X) (t + 8)] G (ZE X 0 (fun r s F' => ∃ g, s = SH (T ++ g) ∧ (IT F F' t d (F' t 0) ∧ IL (T ++ g) F' t (F' t 0) ∧ TrA (T ++ g) t)) 60 400) := by
              intro G a jv357_0 jv357_1 jv357_2 jv357_3 jv357_4
              have i2 := jv357_0.2.1
              refine R_zast hX dX12_init_357 hA1.a8 ⟨by omega, by omega⟩ (by omega) ?_
              refine R_aload_0 hX dX12_init_358 ?_
              refine R_getaE (t := .int) (v := t + 9) hX (fun _ _ => rfl) dX12_init_359 fl_X12_35 hA1.o rfl (by (try simp (disch := omega) only [up_k]); have := i2 11 (by omega) (by omega); omega) ?_
              refine R_iload_2 hX dX12_init_362 ?_
              refine R_aload_0 hX dX12_init_363 ?_
              refine R_getaE (t := .int) (v := t + 4) hX (fun _ _ => rfl) dX12_init_364 fl_X12_19 hA1.o rfl (by (try simp (disch := omega) only [up_k]); have := i2 6 (by omega) (by omega); omega) ?_
              refine R_iload_2 hX dX12_init_367 ?_
              refine R_iald hX dX12_init_368 hA1.a4 ⟨by omega, by omega⟩ ?_
              try simp (disch := omega) only [up_k, up_i, up_s]
              refine R_iast hX dX12_init_369 hA1.a9 ⟨by omega, by omega⟩ ?_
              refine R_aload_0 hX dX12_init_370 ?_
              refine R_getaE (t := .int) (v := t + 11) hX (fun _ _ => rfl) dX12_init_371 fl_X12_41 hA1.o rfl (by (try simp (disch := omega) only [up_k]); have := i2 13 (by omega) (by omega); omega) ?_
              refine R_iload_2 hX dX12_init_374 ?_
              refine R_aload_0 hX dX12_init_375 ?_
              refine R_getaE (t := .int) (v := t + 4) hX (fun _ _ => rfl) dX12_init_376 fl_X12_19 hA1.o rfl (by (try simp (disch := omega) only [up_k]); have := i2 6 (by omega) (by omega); omega) ?_
              refine R_iload_2 hX dX12_init_379 ?_
              refine R_iald hX dX12_init_380 hA1.a4 ⟨by omega, by omega⟩ ?_
              try simp (disch := omega) only [up_k, up_i, up_s]
              refine R_iast hX dX12_init_381 hA1.a11 ⟨by omega, by omega⟩ ?_
              refine R_aload_0 hX dX12_init_382 ?_
              refine R.gen (fun G1 hG1 => ?_)
              have hI1 : IT F G1 t d (k + 1) := by rw [hG1]; exact IT.next jv357_0 jv357_2 jv357_3 hdt
              have hL1 : IL T1 G1 t k := by rw [hG1]; exact IL.put (by omega) (IL.put (by omega) (IL.put (by omega) jv357_1))
              have hN1 : G1 t 0 = N := by rw [hG1]; simp (disch := omega) only [up_k]; exact jv357_4
              clear hG1
              refine R_getoE (v := t + 17) hX dX12_init_383 fl_X12_62 hA1.o rfl (by have := hI1.2.1 19 (by omega) (by omega); omega) ?_
              rcases (by omega : k = 0 ∨ 1 ≤ k) with c_386 | c_386
              · skip
                refine R_newT hX cf_15 cl_X12_59 is_Jx4a65c in_java_util_ArrayList (by decide) ⟨by omega, by omega⟩ dX12_init_386 (fun n_386 hn_386 => ?_)
                refine R_dup hX c1_r dX12_init_389 ?_
                refine R_callIE (As := []) hX dX12_init_390 li_X12_61 mk_Jx4a65c_init_da8c8 mc_Jx4a65c_init_da8c8 (isO.newT hn_386) (e_iList (isO.newT hn_386)) ⟨⟨by decide, by decide⟩, by omega, by omega, rfl, rfl, (by simp [vi_cat, vl_cat, vr_cat, rf_cat])⟩ (fun x_390 s_390 F_390 d_390 h_390 hl_390 hd_390 => ?_)
                obtain ⟨rfl, h_390⟩ := h_390
                subst h_390
                clear hl_390
                have hlg2 : n_386 = qc t k := by unfold qc; omega
                have hqb := qc_b (t := t) (i := k) (by omega)
                have hoq : isO (SH (T1 ++ [.inl (15, [])])) (qc t k) 15 [] := by rw [← hlg2]; exact isO.newT hn_386
                have hT2 : (T1 ++ [.inl (15, [])] : Shp).length = T1.length + 1 := by rw [List.length_append]; rfl
                refine R.gen (fun H hH => ?_)
                have hH1 : ∀ q : Int, q ≠ qc t k → H q = G1 q := by rw [← hlg2, hH]; exact (nl_keep rfl).1
                have hH2 : H (qc t k) 2 = 0 := by rw [← hlg2, hH]; exact (nl_keep rfl).2
                clear hH
                refine R_callVE (As := [_]) hX dX12_init_393 li_X12_91 mk_Jx4a65c_add_9ea2d mi_Jx4a65c_add_9ea2d rfl (hA1.q.up) (e_addF hA1.q.up (isO.newT hn_386) (by rw [hH1 _ (by omega)]; exact (hL1.1 c_386).1) (by rw [hH1 _ (by omega)]; exact (hL1.1 c_386).2)) ⟨⟨by decide, by decide⟩, by omega, by omega, rfl, rfl, (by first | decide | exact Nat.zero_le _)⟩ (fun x_393 s_393 F_393 d_393 h_393 hl_393 hd_393 => ?_)
                obtain ⟨g_393, rfl, h_393⟩ := h_393
                obtain ⟨r1, r2, r3, r4, r5⟩ := h_393
                have hFN : F_393 t 0 = N := by rw [r5 t (by omega) (by omega), hH1 t (by omega)]; exact hN1
                refine R_pop hX c1_i dX12_init_396 ?_
                refine R_iinc_2 hX c1_r dX12_init_397 ?_
                refine R_goto (tgt := 237) hX dX12_init_400 (by decide) ?_
                exact ih_237 _ _ _ _ _ N (by omega) (hI1.fr hdt (fun q hq => by rw [r5 q (by omega) (by omega), hH1 q (by omega)])) (by
      subst c_386
      have e18 : qc t 0 = t + 18 := if_pos rfl
      rw [e18] at hoq hH2 hlg2
      have e19 : (136 : Int) + ((T1 ++ [.inl (15, [])] : Shp).length : Int) = t + 19 := by omega
      rw [e19] at r1 r2 r4
      exact IL.F r2 hoq r1 r3 (by rw [r4]; exact hlg2) (by rw [r5 (t + 18) (by omega) (by omega)]; exact hH2)) (by rw [if_neg (by omega)]; rw [SH_len, SH_len] at hl_393; have := r2.ltT; omega) (by obtain ⟨g, hg⟩ := iv237_4; exact ⟨_, by rw [hg]; simp only [List.append_assoc]; rfl⟩) hA1.up.up hd1.up.up (by rw [r5 t (by omega) (by omega), hH1 t (by omega)]; exact hN1) (by omega)
              · skip
                refine R_newT hX cf_15 cl_X12_59 is_Jx4a65c in_java_util_ArrayList (by decide) ⟨by omega, by omega⟩ dX12_init_386 (fun n_386 hn_386 => ?_)
                refine R_dup hX c1_r dX12_init_389 ?_
                refine R_callIE (As := []) hX dX12_init_390 li_X12_61 mk_Jx4a65c_init_da8c8 mc_Jx4a65c_init_da8c8 (isO.newT hn_386) (e_iList (isO.newT hn_386)) ⟨⟨by decide, by decide⟩, by omega, by omega, rfl, rfl, (by simp [vi_cat, vl_cat, vr_cat, rf_cat])⟩ (fun x_390 s_390 F_390 d_390 h_390 hl_390 hd_390 => ?_)
                obtain ⟨rfl, h_390⟩ := h_390
                subst h_390
                clear hl_390
                have hlg2 : n_386 = qc t k := by unfold qc; omega
                have hqb := qc_b (t := t) (i := k) (by omega)
                have hoq : isO (SH (T1 ++ [.inl (15, [])])) (qc t k) 15 [] := by rw [← hlg2]; exact isO.newT hn_386
                have hT2 : (T1 ++ [.inl (15, [])] : Shp).length = T1.length + 1 := by rw [List.length_append]; rfl
                refine R.gen (fun H hH => ?_)
                have hH1 : ∀ q : Int, q ≠ qc t k → H q = G1 q := by rw [← hlg2, hH]; exact (nl_keep rfl).1
                have hH2 : H (qc t k) 2 = 0 := by rw [← hlg2, hH]; exact (nl_keep rfl).2
                clear hH
                refine R_callVE (As := [_]) hX dX12_init_393 li_X12_91 mk_Jx4a65c_add_9ea2d mi_Jx4a65c_add_9ea2d rfl (hA1.q.up) (e_addN (w := t + 19) (n := k) hA1.q.up (isO.newT hn_386) (hL1.2.1 c_386).2.2.up ⟨by omega, by omega, by omega⟩ (by rw [hH1 _ (by omega)]; exact (hL1.2.1 c_386).1) (by rw [hH1 _ (by omega)]; exact (hL1.2.1 c_386).2.1)) ⟨⟨by decide, by decide⟩, by omega, by omega, rfl, rfl, (by first | decide | exact Nat.zero_le _)⟩ (fun x_393 s_393 F_393 d_393 h_393 hl_393 hd_393 => ?_)
                obtain ⟨rfl, h_393⟩ := h_393
                obtain ⟨r1, r2, r3, r4, r5⟩ := h_393
                have hFN : F_393 t 0 = N := by rw [r5 t (by omega) (by omega), hH1 t (by omega)]; exact hN1
                refine R_pop hX c1_i dX12_init_396 ?_
                refine R_iinc_2 hX c1_r dX12_init_397 ?_
                refine R_goto (tgt := 237) hX dX12_init_400 (by decide) ?_
                exact ih_237 _ _ _ _ _ N (by omega) (hI1.fr hdt (fun q hq => by rw [r5 q (by omega) (by omega), hH1 q (by omega)])) (by
      refine IL.N c_386 hL1 hoq ?_ r2 (by rw [r3]; exact hlg2) (fun i hi => by rw [r4 i hi, hH1 _ (by omega)]) (fun i h0 h1 => ?_) ?_
      · rw [r1, hH1 _ (by omega)]; exact (hL1.2.1 c_386).1
      · have hb := qc_b (t := t) h0
        have hn := qc_n (t := t) h0 h1
        rw [r5 _ (by omega) (by omega), hH1 _ (by omega)]
      · rw [r5 _ (by omega) (by omega)]; exact hH2) (by rw [if_neg (by omega)]; omega) (by obtain ⟨g, hg⟩ := iv237_4; exact ⟨_, by rw [hg]; simp only [List.append_assoc]; rfl⟩) hA1.up hd1.up (by rw [r5 t (by omega) (by omega), hH1 t (by omega)]; exact hN1) (by omega)
            refine R_iast hX dX12_init_264 hA1.a1 ⟨by omega, by omega⟩ ?_
            refine R_aload_0 hX dX12_init_265 ?_
            refine R_getaE (t := .int) (v := t + 2) hX (fun _ _ => rfl) dX12_init_266 fl_X12_13 hA1.o rfl (by (try simp (disch := omega) only [up_k]); have := i2 4 (by omega) (by omega); omega) ?_
            refine R_iload_2 hX dX12_init_269 ?_
            refine R_aload_1 hX dX12_init_270 ?_
            refine R_bipush hX dX12_init_271 (by decide) ?_
            refine R_sN2i hX dX12_init_273 li_X12_66 mk_L_draw ms_L_draw (c_draw hd1 ⟨by omega, by omega⟩) ⟨⟨by decide, by decide⟩, by omega, by omega, rfl, Nat.le_of_ble_eq_true rfl, rfl⟩ (fun x_273 F_273 h_273 => ?_)
            obtain ⟨hr_273, v_273, hv_273, h2_273⟩ := h_273
            subst h2_273
            clear hv_273
            refine R_iast hX dX12_init_276 hA1.a2 ⟨by omega, by omega⟩ ?_
            refine R_aload_0 hX dX12_init_277 ?_
            refine R_getaE (t := .int) (v := t + 3) hX (fun _ _ => rfl) dX12_init_278 fl_X12_16 hA1.o rfl (by (try simp (disch := omega) only [up_k]); have := i2 5 (by omega) (by omega); omega) ?_
            refine R_iload_2 hX dX12_init_281 ?_
            refine R_aload_1 hX dX12_init_282 ?_
            refine R_bipush hX dX12_init_283 (by decide) ?_
            refine R_sN2i hX dX12_init_285 li_X12_66 mk_L_draw ms_L_draw (c_draw hd1 ⟨by omega, by omega⟩) ⟨⟨by decide, by decide⟩, by omega, by omega, rfl, Nat.le_of_ble_eq_true rfl, rfl⟩ (fun x_285 F_285 h_285 => ?_)
            obtain ⟨hr_285, v_285, hv_285, h2_285⟩ := h_285
            subst h2_285
            clear hv_285
            refine R_iast hX dX12_init_288 hA1.a3 ⟨by omega, by omega⟩ ?_
            refine R_aload_0 hX dX12_init_289 ?_
            refine R_getaE (t := .int) (v := t + 4) hX (fun _ _ => rfl) dX12_init_290 fl_X12_19 hA1.o rfl (by (try simp (disch := omega) only [up_k]); have := i2 6 (by omega) (by omega); omega) ?_
            refine R_iload_2 hX dX12_init_293 ?_
            refine R_iconst hX dX12_init_294 ?_
            refine R_aload_1 hX dX12_init_295 ?_
            refine R_bipush hX dX12_init_296 (by decide) ?_
            refine R_sN2i hX dX12_init_298 li_X12_66 mk_L_draw ms_L_draw (c_draw hd1 ⟨by omega, by omega⟩) ⟨⟨by decide, by decide⟩, by omega, by omega, rfl, Nat.le_of_ble_eq_true rfl, rfl⟩ (fun x_298 F_298 h_298 => ?_)
            obtain ⟨hr_298, v_298, hv_298, h2_298⟩ := h_298
            subst h2_298
            clear hv_298
            refine R_iadd hX dX12_init_301 ?_
            refine R_iast hX dX12_init_302 hA1.a4 ⟨by omega, by omega⟩ ?_
            refine R_aload_0 hX dX12_init_303 ?_
            refine R_getaE (t := .int) (v := t + 5) hX (fun _ _ => rfl) dX12_init_304 fl_X12_22 hA1.o rfl (by (try simp (disch := omega) only [up_k]); have := i2 7 (by omega) (by omega); omega) ?_
            refine R_iload_2 hX dX12_init_307 ?_
            refine R_aload_1 hX dX12_init_308 ?_
            refine R_bipush hX dX12_init_309 (by decide) ?_
            refine R_sN2i hX dX12_init_311 li_X12_66 mk_L_draw ms_L_draw (c_draw hd1 ⟨by omega, by omega⟩) ⟨⟨by decide, by decide⟩, by omega, by omega, rfl, Nat.le_of_ble_eq_true rfl, rfl⟩ (fun x_311 F_311 h_311 => ?_)
            obtain ⟨hr_311, v_311, hv_311, h2_311⟩ := h_311
            subst h2_311
            clear hv_311
            refine R_iast hX dX12_init_314 hA1.a5 ⟨by omega, by omega⟩ ?_
            refine R_aload_0 hX dX12_init_315 ?_
            refine R_getaE (t := .int) (v := t + 6) hX (fun _ _ => rfl) dX12_init_316 fl_X12_25 hA1.o rfl (by (try simp (disch := omega) only [up_k]); have := i2 8 (by omega) (by omega); omega) ?_
            refine R_iload_2 hX dX12_init_319 ?_
            refine R_iconst hX dX12_init_320 ?_
            refine R_aload_1 hX dX12_init_321 ?_
            refine R_iconst hX dX12_init_322 ?_
            refine R_sN2i hX dX12_init_323 li_X12_66 mk_L_draw ms_L_draw (c_draw hd1 ⟨by omega, by omega⟩) ⟨⟨by decide, by decide⟩, by omega, by omega, rfl, Nat.le_of_ble_eq_true rfl, rfl⟩ (fun x_323 F_323 h_323 => ?_)
            obtain ⟨hr_323, v_323, hv_323, h2_323⟩ := h_323
            subst h2_323
            clear hv_323
            refine R_iadd hX dX12_init_326 ?_
            refine R_iast hX dX12_init_327 hA1.a6 ⟨by omega, by omega⟩ ?_
            refine R_aload_0 hX dX12_init_328 ?_
            refine R_getaE (t := .int) (v := t + 7) hX (fun _ _ => rfl) dX12_init_329 fl_X12_28 hA1.o rfl (by (try simp (disch := omega) only [up_k]); have := i2 9 (by omega) (by omega); omega) ?_
            refine R_iload_2 hX dX12_init_332 ?_
            refine R_aload_1 hX dX12_init_333 ?_
            refine R_iconst hX dX12_init_334 ?_
            refine R_sN2i hX dX12_init_335 li_X12_66 mk_L_draw ms_L_draw (c_draw hd1 ⟨by omega, by omega⟩) ⟨⟨by decide, by decide⟩, by omega, by omega, rfl, Nat.le_of_ble_eq_true rfl, rfl⟩ (fun x_335 F_335 h_335 => ?_)
            obtain ⟨hr_335, v_335, hv_335, h2_335⟩ := h_335
            subst h2_335
            clear hv_335
            refine R_iast hX dX12_init_338 hA1.a7 ⟨by omega, by omega⟩ ?_
            refine R_aload_0 hX dX12_init_339 ?_
            refine R_getaE (t := .boolean) (v := t + 8) hX (fun _ _ => rfl) dX12_init_340 fl_X12_31 hA1.o rfl (by (try simp (disch := omega) only [up_k]); have := i2 10 (by omega) (by omega); omega) ?_
            refine R_iload_2 hX dX12_init_343 ?_
            refine R_aload_1 hX dX12_init_344 ?_
            refine R_iconst hX dX12_init_345 ?_
            refine R_sN2i hX dX12_init_346 li_X12_66 mk_L_draw ms_L_draw (c_draw hd1 ⟨by omega, by omega⟩) ⟨⟨by decide, by decide⟩, by omega, by omega, rfl, Nat.le_of_ble_eq_true rfl, rfl⟩ (fun x_346 F_346 h_346 => ?_)
            obtain ⟨hr_346, v_346, hv_346, h2_346⟩ := h_346
            subst h2_346
            clear hv_346
            refine R_ifne (tgt := 356) hX dX12_init_349 (by decide) (by constructor <;> first | omega | (simp (disch := omega) only [up_k, up_i, up_s]; omega)) (fun c_349 => ?_) (fun c_349 => ?_)
            · skip
              refine R_iconst hX dX12_init_356 ?_
              exact jn_357 _ _ (by repeat (first | exact jv264_0 | refine IT.drw hdt ?_ | refine IT.put (by decide) ?_)) (by repeat (first | exact jv264_1 | refine IL.put (by omega) ?_)) (NB.of hdt jv264_2 hr_273 hr_285 hr_298 hr_311 hr_323 hr_335) (by omega) (by simp (disch := omega) only [up_k]; exact jv264_3)
            · skip
              refine R_iconst hX dX12_init_352 ?_
              refine R_goto (tgt := 357) hX dX12_init_353 (by decide) ?_
              exact jn_357 _ _ (by repeat (first | exact jv264_0 | refine IT.drw hdt ?_ | refine IT.put (by decide) ?_)) (by repeat (first | exact jv264_1 | refine IL.put (by omega) ?_)) (NB.of hdt jv264_2 hr_273 hr_285 hr_298 hr_311 hr_323 hr_335) (by omega) (by simp (disch := omega) only [up_k]; exact jv264_3)
          have hI := iv237_1
          have hL := iv237_2
          have hlg := iv237_3
          have hA1 := iv237_5
          have hd1 := iv237_6
          have i2 := hI.2.1
          refine R_aload_0 hX dX12_init_245 ?_
          refine R_getaE (t := .int) (v := t + 1) hX (fun _ _ => rfl) dX12_init_246 fl_X12_7 hA1.o rfl (by (try simp (disch := omega) only [up_k]); have := i2 3 (by omega) (by omega); omega) ?_
          refine R_iload_2 hX dX12_init_249 ?_
          refine R_iload_2 hX dX12_init_250 ?_
          refine R_ifne (tgt := 259) hX dX12_init_251 (by decide) (by constructor <;> first | omega | (simp (disch := omega) only [up_k, up_i, up_s]; omega)) (fun c_251 => ?_) (fun c_251 => ?_)
          · skip
            refine R_aload_1 hX dX12_init_259 ?_
            refine R_iload_2 hX dX12_init_260 ?_
            refine R_sN2i hX dX12_init_261 li_X12_66 mk_L_draw ms_L_draw (c_draw hd1 ⟨by omega, by omega⟩) ⟨⟨by decide, by decide⟩, by omega, by omega, rfl, Nat.le_of_ble_eq_true rfl, rfl⟩ (fun x_261 F_261 h_261 => ?_)
            obtain ⟨hr_261, v_261, hv_261, h2_261⟩ := h_261
            subst h2_261
            clear hv_261
            exact jn_264 _ _ (by first | exact hI | exact IT.drw hdt hI) (by first | exact hL | exact IL.put (by omega) hL) (by omega) (by first | exact iv237_7 | (rw [up_k (by omega)]; exact iv237_7))
          · skip
            refine R_bipush hX dX12_init_254 (by decide) ?_
            refine R_goto (tgt := 264) hX dX12_init_256 (by decide) ?_
            exact jn_264 _ _ (by first | exact hI | exact IT.drw hdt hI) (by first | exact hL | exact IL.put (by omega) hL) (by omega) (by first | exact iv237_7 | (rw [up_k (by omega)]; exact iv237_7))
    exact lp_237 8 _ _ _ _ _ _ (by omega) (S0.it hS0 ⟨jv235_5, jv235_6, jv235_7, jv235_8, jv235_9, jv235_10⟩) (IL.z hS0) (by rw [if_pos rfl]; omega) jv235_0 hA hdz rfl (by omega)
  have jn_210 : ∀ (TZ : Shp) (G : Hp) (v : Int), (∃ g, TZ = T ++ g) → (TrA TZ t) → (isA (SH TZ) d .int 1) → ((TZ.length : Int) = T.length + 17) → (S0 F G t d) → (1 ≤ G t 0 ∧ G t 0 ≤ 6) → (0 ≤ G t 1 ∧ G t 1 ≤ 5) → (G t 2 = -1 ∨ (2 ≤ G t 2 ∧ G t 2 ≤ 7)) → (0 ≤ v ∧ v ≤ 9) → R X (SH TZ) 17 99 210 [some (vr (xV X) t), some (vr (xV X) d), none] [vi v, vr (xV X) t] G (ZE X 0 (fun r s F' => ∃ g, s = SH (T ++ g) ∧ (IT F F' t d (F' t 0) ∧ IL (T ++ g) F' t (F' t 0) ∧ TrA (T ++ g) t)) 60 400) := by
    intro TZ G v jv210_0 jv210_1 jv210_2 jv210_3 jv210_4 jv210_5 jv210_6 jv210_7 jv210_8
    have hA := jv210_1
    have hdz := jv210_2
    have hlz := jv210_3
    have hS0 := jv210_4
    clear hz
    refine R_puti hX dX12_init_210 fl_X12_82 hA.o rfl ?_
    refine R_aload_0 hX dX12_init_213 ?_
    refine R_aload_1 hX dX12_init_214 ?_
    refine R_aload_0 hX dX12_init_215 ?_
    refine R_geti hX dX12_init_216 fl_X12_72 hA.o rfl ?_
    try simp (disch := omega) only [up_k, up_i, up_s]
    refine R_sN2i hX dX12_init_219 li_X12_66 mk_L_draw ms_L_draw (c_draw hdz ⟨by omega, by omega⟩) ⟨⟨by decide, by decide⟩, by omega, by omega, rfl, Nat.le_of_ble_eq_true rfl, rfl⟩ (fun x_219 F_219 h_219 => ?_)
    obtain ⟨hr_219, v_219, hv_219, h2_219⟩ := h_219
    subst h2_219
    clear hv_219
    refine R_puti hX dX12_init_222 fl_X12_85 hA.o rfl ?_
    refine R_aload_0 hX dX12_init_225 ?_
    refine R_aload_1 hX dX12_init_226 ?_
    refine R_bipush hX dX12_init_227 (by decide) ?_
    refine R_sN2i hX dX12_init_229 li_X12_66 mk_L_draw ms_L_draw (c_draw hdz ⟨by omega, by omega⟩) ⟨⟨by decide, by decide⟩, by omega, by omega, rfl, Nat.le_of_ble_eq_true rfl, rfl⟩ (fun x_229 F_229 h_229 => ?_)
    obtain ⟨hr_229, v_229, hv_229, h2_229⟩ := h_229
    subst h2_229
    clear hv_229
    refine R_puti hX dX12_init_232 fl_X12_88 hA.o rfl ?_
    exact jn_235 _ _ jv210_0 hA hdz hlz (by (repeat (first | exact hS0 | refine S0.drw hdt ?_ | refine S0.put (by decide) ?_))) (by (try simp (disch := omega) only [up_k, up_i, up_s]); omega) (by (try simp (disch := omega) only [up_k, up_i, up_s]); omega) (by (try simp (disch := omega) only [up_k, up_i, up_s]); omega) (by (try simp (disch := omega) only [up_k, up_i, up_s]); omega) (by (try simp (disch := omega) only [up_k, up_i, up_s]); omega) (by (try simp (disch := omega) only [up_k, up_i, up_s]); omega)
  have jn_186 : ∀ (TZ : Shp) (G : Hp) (v : Int), (∃ g, TZ = T ++ g) → (TrA TZ t) → (isA (SH TZ) d .int 1) → ((TZ.length : Int) = T.length + 17) → (S0 F G t d) → (1 ≤ G t 0 ∧ G t 0 ≤ 6) → (0 ≤ G t 1 ∧ G t 1 ≤ 5) → (v = -1 ∨ (2 ≤ v ∧ v ≤ 7)) → R X (SH TZ) 17 99 186 [some (vr (xV X) t), some (vr (xV X) d), none] [vi v, vr (xV X) t] G (ZE X 0 (fun r s F' => ∃ g, s = SH (T ++ g) ∧ (IT F F' t d (F' t 0) ∧ IL (T ++ g) F' t (F' t 0) ∧ TrA (T ++ g) t)) 60 400) := by
    intro TZ G v jv186_0 jv186_1 jv186_2 jv186_3 jv186_4 jv186_5 jv186_6 jv186_7
    have hA := jv186_1
    have hdz := jv186_2
    have hlz := jv186_3
    have hS0 := jv186_4
    clear hz
    refine R_putFi hX hin dX12_init_186 fl_X12_79 rfl hA.o rfl ?_
    refine R_aload_0 hX dX12_init_189 ?_
    refine R_aload_1 hX dX12_init_190 ?_
    refine R_iconst hX dX12_init_191 ?_
    refine R_sN2i hX dX12_init_192 li_X12_66 mk_L_draw ms_L_draw (c_draw hdz ⟨by omega, by omega⟩) ⟨⟨by decide, by decide⟩, by omega, by omega, rfl, Nat.le_of_ble_eq_true rfl, rfl⟩ (fun x_192 F_192 h_192 => ?_)
    obtain ⟨hr_192, v_192, hv_192, h2_192⟩ := h_192
    subst h2_192
    clear hv_192
    refine R_ifne (tgt := 209) hX dX12_init_195 (by decide) (by constructor <;> first | omega | (simp (disch := omega) only [up_k, up_i, up_s]; omega)) (fun c_195 => ?_) (fun c_195 => ?_)
    · skip
      refine R_iconst hX dX12_init_209 ?_
      exact jn_210 _ _ _ jv186_0 hA hdz hlz (by (repeat (first | exact hS0 | refine S0.drw hdt ?_ | refine S0.put (by decide) ?_))) (by (try simp (disch := omega) only [up_k, up_i, up_s]); omega) (by (try simp (disch := omega) only [up_k, up_i, up_s]); omega) (by (try simp (disch := omega) only [up_k, up_i, up_s]); omega) (by omega)
    · skip
      refine R_iconst hX dX12_init_198 ?_
      refine R_aload_1 hX dX12_init_199 ?_
      refine R_bipush hX dX12_init_200 (by decide) ?_
      refine R_sN2i hX dX12_init_202 li_X12_66 mk_L_draw ms_L_draw (c_draw hdz ⟨by omega, by omega⟩) ⟨⟨by decide, by decide⟩, by omega, by omega, rfl, Nat.le_of_ble_eq_true rfl, rfl⟩ (fun x_202 F_202 h_202 => ?_)
      obtain ⟨hr_202, v_202, hv_202, h2_202⟩ := h_202
      subst h2_202
      clear hv_202
      refine R_iadd hX dX12_init_205 ?_
      refine R_goto (tgt := 210) hX dX12_init_206 (by decide) ?_
      exact jn_210 _ _ _ jv186_0 hA hdz hlz (by (repeat (first | exact hS0 | refine S0.drw hdt ?_ | refine S0.put (by decide) ?_))) (by (try simp (disch := omega) only [up_k, up_i, up_s]); omega) (by (try simp (disch := omega) only [up_k, up_i, up_s]); omega) (by (try simp (disch := omega) only [up_k, up_i, up_s]); omega) (by omega)
  have jn_143 : ∀ (TZ : Shp) (G : Hp), (∃ g, TZ = T ++ g) → (TrA TZ t) → (isA (SH TZ) d .int 1) → ((TZ.length : Int) = T.length + 17) → (S0 F G t d) → R X (SH TZ) 17 99 143 [some (vr (xV X) t), some (vr (xV X) d), none] [] G (ZE X 0 (fun r s F' => ∃ g, s = SH (T ++ g) ∧ (IT F F' t d (F' t 0) ∧ IL (T ++ g) F' t (F' t 0) ∧ TrA (T ++ g) t)) 60 400) := by
    intro TZ G jv143_0 jv143_1 jv143_2 jv143_3 jv143_4
    have hA := jv143_1
    have hdz := jv143_2
    have hlz := jv143_3
    have hS0 := jv143_4
    clear hz
    refine R_aload_0 hX dX12_init_143 ?_
    refine R_iconst hX dX12_init_144 ?_
    refine R_aload_1 hX dX12_init_145 ?_
    refine R_bipush hX dX12_init_146 (by decide) ?_
    refine R_sN2i hX dX12_init_148 li_X12_66 mk_L_draw ms_L_draw (c_draw hdz ⟨by omega, by omega⟩) ⟨⟨by decide, by decide⟩, by omega, by omega, rfl, Nat.le_of_ble_eq_true rfl, rfl⟩ (fun x_148 F_148 h_148 => ?_)
    obtain ⟨hr_148, v_148, hv_148, h2_148⟩ := h_148
    subst h2_148
    clear hv_148
    refine R_iadd hX dX12_init_151 ?_
    refine R_putFi hX hin dX12_init_152 fl_X12_72 rfl hA.o rfl ?_
    refine R_aload_0 hX dX12_init_155 ?_
    refine R_aload_1 hX dX12_init_156 ?_
    refine R_bipush hX dX12_init_157 (by decide) ?_
    refine R_sN2i hX dX12_init_159 li_X12_66 mk_L_draw ms_L_draw (c_draw hdz ⟨by omega, by omega⟩) ⟨⟨by decide, by decide⟩, by omega, by omega, rfl, Nat.le_of_ble_eq_true rfl, rfl⟩ (fun x_159 F_159 h_159 => ?_)
    obtain ⟨hr_159, v_159, hv_159, h2_159⟩ := h_159
    subst h2_159
    clear hv_159
    refine R_putFi hX hin dX12_init_162 fl_X12_76 rfl hA.o rfl ?_
    refine R_aload_0 hX dX12_init_165 ?_
    refine R_aload_1 hX dX12_init_166 ?_
    refine R_iconst hX dX12_init_167 ?_
    refine R_sN2i hX dX12_init_168 li_X12_66 mk_L_draw ms_L_draw (c_draw hdz ⟨by omega, by omega⟩) ⟨⟨by decide, by decide⟩, by omega, by omega, rfl, Nat.le_of_ble_eq_true rfl, rfl⟩ (fun x_168 F_168 h_168 => ?_)
    obtain ⟨hr_168, v_168, hv_168, h2_168⟩ := h_168
    subst h2_168
    clear hv_168
    refine R_ifne (tgt := 185) hX dX12_init_171 (by decide) (by constructor <;> first | omega | (simp (disch := omega) only [up_k, up_i, up_s]; omega)) (fun c_171 => ?_) (fun c_171 => ?_)
    · skip
      refine R_iconst hX dX12_init_185 ?_
      exact jn_186 _ _ _ jv143_0 hA hdz hlz (by (repeat (first | exact hS0 | refine S0.drw hdt ?_ | refine S0.put (by decide) ?_))) (by (try simp (disch := omega) only [up_k, up_i, up_s]); omega) (by (try simp (disch := omega) only [up_k, up_i, up_s]); omega) (by omega)
    · skip
      refine R_iconst hX dX12_init_174 ?_
      refine R_aload_1 hX dX12_init_175 ?_
      refine R_bipush hX dX12_init_176 (by decide) ?_
      refine R_sN2i hX dX12_init_178 li_X12_66 mk_L_draw ms_L_draw (c_draw hdz ⟨by omega, by omega⟩) ⟨⟨by decide, by decide⟩, by omega, by omega, rfl, Nat.le_of_ble_eq_true rfl, rfl⟩ (fun x_178 F_178 h_178 => ?_)
      obtain ⟨hr_178, v_178, hv_178, h2_178⟩ := h_178
      subst h2_178
      clear hv_178
      refine R_iadd hX dX12_init_181 ?_
      refine R_goto (tgt := 186) hX dX12_init_182 (by decide) ?_
      exact jn_186 _ _ _ jv143_0 hA hdz hlz (by (repeat (first | exact hS0 | refine S0.drw hdt ?_ | refine S0.put (by decide) ?_))) (by (try simp (disch := omega) only [up_k, up_i, up_s]); omega) (by (try simp (disch := omega) only [up_k, up_i, up_s]); omega) (by omega)
  refine R_aload_0 hX dX12_init_0 ?_
  refine R_objInit hX (by omega) dX12_init_1 oi_X12_1 oi_i oi_c ⟨by omega, by omega, rfl, Nat.le_of_ble_eq_true rfl⟩ ?_
  refine R_aload_0 hX dX12_init_4 ?_
  refine R_bipush hX dX12_init_5 (by decide) ?_
  refine R_newaT (ty := .int) hX rfl (Or.inl rfl) ac_int ⟨by omega, by omega⟩ (m := 6) rfl ⟨by omega, by omega⟩ dX12_init_7 (fun n_7 hn_7 => ?_)
  refine R_putFa (t := .int) hX (fun _ _ => rfl) hin dX12_init_9 fl_X12_7 rfl (ho.up) rfl ?_
  have ha_7 : isA (SH (T ++ [.inr (.int, 6)])) n_7 .int 6 := isA.newT (by decide) hn_7
  have e_7 : n_7 = t + 1 := by omega
  refine R.gen (fun G_7 hG_7 => ?_)
  have hP_7 : P0 F G_7 t 1 := by rw [hG_7]; exact P0.next P0.z (by omega) (fun _ => rfl) (by omega) (by omega)
  rw [e_7] at ha_7
  clear hG_7 hn_7 e_7
  refine R.genT (fun T_7 hT_7 => ?_)
  rw [← hT_7] at ha_7
  have ho_7 : isO (SH T_7) t 12 [] := by rw [hT_7]; exact ho.up
  have hl_7 : (T_7.length : Int) = T.length + 1 := by rw [hT_7, List.length_append]; show ((_ + 1 : Nat) : Int) = _; omega
  refine R_aload_0 hX dX12_init_12 ?_
  refine R_bipush hX dX12_init_13 (by decide) ?_
  refine R_newaT (ty := .int) hX rfl (Or.inl rfl) ac_int ⟨by omega, by omega⟩ (m := 6) rfl ⟨by omega, by omega⟩ dX12_init_15 (fun n_15 hn_15 => ?_)
  refine R_putFa (t := .int) hX (fun _ _ => rfl) hin dX12_init_17 fl_X12_13 rfl (ho_7.up) rfl ?_
  have ha_15 : isA (SH (T_7 ++ [.inr (.int, 6)])) n_15 .int 6 := isA.newT (by decide) hn_15
  have e_15 : n_15 = t + 2 := by omega
  refine R.gen (fun G_15 hG_15 => ?_)
  have hP_15 : P0 F G_15 t 2 := by rw [hG_15]; exact P0.next hP_7 (by omega) (fun _ => rfl) (by omega) (by omega)
  rw [e_15] at ha_15
  clear hG_15 hn_15 e_15
  refine R.genT (fun T_15 hT_15 => ?_)
  rw [← hT_15] at ha_15
  have ho_15 : isO (SH T_15) t 12 [] := by rw [hT_15]; exact ho_7.up
  have hl_15 : (T_15.length : Int) = T.length + 2 := by rw [hT_15, List.length_append]; show ((_ + 1 : Nat) : Int) = _; omega
  clear hP_7 hl_7
  refine R_aload_0 hX dX12_init_20 ?_
  refine R_bipush hX dX12_init_21 (by decide) ?_
  refine R_newaT (ty := .int) hX rfl (Or.inl rfl) ac_int ⟨by omega, by omega⟩ (m := 6) rfl ⟨by omega, by omega⟩ dX12_init_23 (fun n_23 hn_23 => ?_)
  refine R_putFa (t := .int) hX (fun _ _ => rfl) hin dX12_init_25 fl_X12_16 rfl (ho_15.up) rfl ?_
  have ha_23 : isA (SH (T_15 ++ [.inr (.int, 6)])) n_23 .int 6 := isA.newT (by decide) hn_23
  have e_23 : n_23 = t + 3 := by omega
  refine R.gen (fun G_23 hG_23 => ?_)
  have hP_23 : P0 F G_23 t 3 := by rw [hG_23]; exact P0.next hP_15 (by omega) (fun _ => rfl) (by omega) (by omega)
  rw [e_23] at ha_23
  clear hG_23 hn_23 e_23
  refine R.genT (fun T_23 hT_23 => ?_)
  rw [← hT_23] at ha_23
  have ho_23 : isO (SH T_23) t 12 [] := by rw [hT_23]; exact ho_15.up
  have hl_23 : (T_23.length : Int) = T.length + 3 := by rw [hT_23, List.length_append]; show ((_ + 1 : Nat) : Int) = _; omega
  clear hP_15 hl_15
  refine R_aload_0 hX dX12_init_28 ?_
  refine R_bipush hX dX12_init_29 (by decide) ?_
  refine R_newaT (ty := .int) hX rfl (Or.inl rfl) ac_int ⟨by omega, by omega⟩ (m := 6) rfl ⟨by omega, by omega⟩ dX12_init_31 (fun n_31 hn_31 => ?_)
  refine R_putFa (t := .int) hX (fun _ _ => rfl) hin dX12_init_33 fl_X12_19 rfl (ho_23.up) rfl ?_
  have ha_31 : isA (SH (T_23 ++ [.inr (.int, 6)])) n_31 .int 6 := isA.newT (by decide) hn_31
  have e_31 : n_31 = t + 4 := by omega
  refine R.gen (fun G_31 hG_31 => ?_)
  have hP_31 : P0 F G_31 t 4 := by rw [hG_31]; exact P0.next hP_23 (by omega) (fun _ => rfl) (by omega) (by omega)
  rw [e_31] at ha_31
  clear hG_31 hn_31 e_31
  refine R.genT (fun T_31 hT_31 => ?_)
  rw [← hT_31] at ha_31
  have ho_31 : isO (SH T_31) t 12 [] := by rw [hT_31]; exact ho_23.up
  have hl_31 : (T_31.length : Int) = T.length + 4 := by rw [hT_31, List.length_append]; show ((_ + 1 : Nat) : Int) = _; omega
  clear hP_23 hl_23
  refine R_aload_0 hX dX12_init_36 ?_
  refine R_bipush hX dX12_init_37 (by decide) ?_
  refine R_newaT (ty := .int) hX rfl (Or.inl rfl) ac_int ⟨by omega, by omega⟩ (m := 6) rfl ⟨by omega, by omega⟩ dX12_init_39 (fun n_39 hn_39 => ?_)
  refine R_putFa (t := .int) hX (fun _ _ => rfl) hin dX12_init_41 fl_X12_22 rfl (ho_31.up) rfl ?_
  have ha_39 : isA (SH (T_31 ++ [.inr (.int, 6)])) n_39 .int 6 := isA.newT (by decide) hn_39
  have e_39 : n_39 = t + 5 := by omega
  refine R.gen (fun G_39 hG_39 => ?_)
  have hP_39 : P0 F G_39 t 5 := by rw [hG_39]; exact P0.next hP_31 (by omega) (fun _ => rfl) (by omega) (by omega)
  rw [e_39] at ha_39
  clear hG_39 hn_39 e_39
  refine R.genT (fun T_39 hT_39 => ?_)
  rw [← hT_39] at ha_39
  have ho_39 : isO (SH T_39) t 12 [] := by rw [hT_39]; exact ho_31.up
  have hl_39 : (T_39.length : Int) = T.length + 5 := by rw [hT_39, List.length_append]; show ((_ + 1 : Nat) : Int) = _; omega
  clear hP_31 hl_31
  refine R_aload_0 hX dX12_init_44 ?_
  refine R_bipush hX dX12_init_45 (by decide) ?_
  refine R_newaT (ty := .int) hX rfl (Or.inl rfl) ac_int ⟨by omega, by omega⟩ (m := 6) rfl ⟨by omega, by omega⟩ dX12_init_47 (fun n_47 hn_47 => ?_)
  refine R_putFa (t := .int) hX (fun _ _ => rfl) hin dX12_init_49 fl_X12_25 rfl (ho_39.up) rfl ?_
  have ha_47 : isA (SH (T_39 ++ [.inr (.int, 6)])) n_47 .int 6 := isA.newT (by decide) hn_47
  have e_47 : n_47 = t + 6 := by omega
  refine R.gen (fun G_47 hG_47 => ?_)
  have hP_47 : P0 F G_47 t 6 := by rw [hG_47]; exact P0.next hP_39 (by omega) (fun _ => rfl) (by omega) (by omega)
  rw [e_47] at ha_47
  clear hG_47 hn_47 e_47
  refine R.genT (fun T_47 hT_47 => ?_)
  rw [← hT_47] at ha_47
  have ho_47 : isO (SH T_47) t 12 [] := by rw [hT_47]; exact ho_39.up
  have hl_47 : (T_47.length : Int) = T.length + 6 := by rw [hT_47, List.length_append]; show ((_ + 1 : Nat) : Int) = _; omega
  clear hP_39 hl_39
  refine R_aload_0 hX dX12_init_52 ?_
  refine R_bipush hX dX12_init_53 (by decide) ?_
  refine R_newaT (ty := .int) hX rfl (Or.inl rfl) ac_int ⟨by omega, by omega⟩ (m := 6) rfl ⟨by omega, by omega⟩ dX12_init_55 (fun n_55 hn_55 => ?_)
  refine R_putFa (t := .int) hX (fun _ _ => rfl) hin dX12_init_57 fl_X12_28 rfl (ho_47.up) rfl ?_
  have ha_55 : isA (SH (T_47 ++ [.inr (.int, 6)])) n_55 .int 6 := isA.newT (by decide) hn_55
  have e_55 : n_55 = t + 7 := by omega
  refine R.gen (fun G_55 hG_55 => ?_)
  have hP_55 : P0 F G_55 t 7 := by rw [hG_55]; exact P0.next hP_47 (by omega) (fun _ => rfl) (by omega) (by omega)
  rw [e_55] at ha_55
  clear hG_55 hn_55 e_55
  refine R.genT (fun T_55 hT_55 => ?_)
  rw [← hT_55] at ha_55
  have ho_55 : isO (SH T_55) t 12 [] := by rw [hT_55]; exact ho_47.up
  have hl_55 : (T_55.length : Int) = T.length + 7 := by rw [hT_55, List.length_append]; show ((_ + 1 : Nat) : Int) = _; omega
  clear hP_47 hl_47
  refine R_aload_0 hX dX12_init_60 ?_
  refine R_bipush hX dX12_init_61 (by decide) ?_
  refine R_newaT (ty := .boolean) hX rfl (Or.inr (Or.inr (Or.inl rfl))) ac_boolean ⟨by omega, by omega⟩ (m := 6) rfl ⟨by omega, by omega⟩ dX12_init_63 (fun n_63 hn_63 => ?_)
  refine R_putFa (t := .boolean) hX (fun _ _ => rfl) hin dX12_init_65 fl_X12_31 rfl (ho_55.up) rfl ?_
  have ha_63 : isA (SH (T_55 ++ [.inr (.boolean, 6)])) n_63 .boolean 6 := isA.newT (by decide) hn_63
  have e_63 : n_63 = t + 8 := by omega
  refine R.gen (fun G_63 hG_63 => ?_)
  have hP_63 : P0 F G_63 t 8 := by rw [hG_63]; exact P0.next hP_55 (by omega) (fun _ => rfl) (by omega) (by omega)
  rw [e_63] at ha_63
  clear hG_63 hn_63 e_63
  refine R.genT (fun T_63 hT_63 => ?_)
  rw [← hT_63] at ha_63
  have ho_63 : isO (SH T_63) t 12 [] := by rw [hT_63]; exact ho_55.up
  have hl_63 : (T_63.length : Int) = T.length + 8 := by rw [hT_63, List.length_append]; show ((_ + 1 : Nat) : Int) = _; omega
  clear hP_55 hl_55
  refine R_aload_0 hX dX12_init_68 ?_
  refine R_bipush hX dX12_init_69 (by decide) ?_
  refine R_newaT (ty := .int) hX rfl (Or.inl rfl) ac_int ⟨by omega, by omega⟩ (m := 6) rfl ⟨by omega, by omega⟩ dX12_init_71 (fun n_71 hn_71 => ?_)
  refine R_putFa (t := .int) hX (fun _ _ => rfl) hin dX12_init_73 fl_X12_35 rfl (ho_63.up) rfl ?_
  have ha_71 : isA (SH (T_63 ++ [.inr (.int, 6)])) n_71 .int 6 := isA.newT (by decide) hn_71
  have e_71 : n_71 = t + 9 := by omega
  refine R.gen (fun G_71 hG_71 => ?_)
  have hP_71 : P0 F G_71 t 9 := by rw [hG_71]; exact P0.next hP_63 (by omega) (fun _ => rfl) (by omega) (by omega)
  rw [e_71] at ha_71
  clear hG_71 hn_71 e_71
  refine R.genT (fun T_71 hT_71 => ?_)
  rw [← hT_71] at ha_71
  have ho_71 : isO (SH T_71) t 12 [] := by rw [hT_71]; exact ho_63.up
  have hl_71 : (T_71.length : Int) = T.length + 9 := by rw [hT_71, List.length_append]; show ((_ + 1 : Nat) : Int) = _; omega
  clear hP_63 hl_63
  refine R_aload_0 hX dX12_init_76 ?_
  refine R_bipush hX dX12_init_77 (by decide) ?_
  refine R_newaT (ty := .int) hX rfl (Or.inl rfl) ac_int ⟨by omega, by omega⟩ (m := 6) rfl ⟨by omega, by omega⟩ dX12_init_79 (fun n_79 hn_79 => ?_)
  refine R_putFa (t := .int) hX (fun _ _ => rfl) hin dX12_init_81 fl_X12_38 rfl (ho_71.up) rfl ?_
  have ha_79 : isA (SH (T_71 ++ [.inr (.int, 6)])) n_79 .int 6 := isA.newT (by decide) hn_79
  have e_79 : n_79 = t + 10 := by omega
  refine R.gen (fun G_79 hG_79 => ?_)
  have hP_79 : P0 F G_79 t 10 := by rw [hG_79]; exact P0.next hP_71 (by omega) (fun _ => rfl) (by omega) (by omega)
  rw [e_79] at ha_79
  clear hG_79 hn_79 e_79
  refine R.genT (fun T_79 hT_79 => ?_)
  rw [← hT_79] at ha_79
  have ho_79 : isO (SH T_79) t 12 [] := by rw [hT_79]; exact ho_71.up
  have hl_79 : (T_79.length : Int) = T.length + 10 := by rw [hT_79, List.length_append]; show ((_ + 1 : Nat) : Int) = _; omega
  clear hP_71 hl_71
  refine R_aload_0 hX dX12_init_84 ?_
  refine R_bipush hX dX12_init_85 (by decide) ?_
  refine R_newaT (ty := .int) hX rfl (Or.inl rfl) ac_int ⟨by omega, by omega⟩ (m := 6) rfl ⟨by omega, by omega⟩ dX12_init_87 (fun n_87 hn_87 => ?_)
  refine R_putFa (t := .int) hX (fun _ _ => rfl) hin dX12_init_89 fl_X12_41 rfl (ho_79.up) rfl ?_
  have ha_87 : isA (SH (T_79 ++ [.inr (.int, 6)])) n_87 .int 6 := isA.newT (by decide) hn_87
  have e_87 : n_87 = t + 11 := by omega
  refine R.gen (fun G_87 hG_87 => ?_)
  have hP_87 : P0 F G_87 t 11 := by rw [hG_87]; exact P0.next hP_79 (by omega) (fun _ => rfl) (by omega) (by omega)
  rw [e_87] at ha_87
  clear hG_87 hn_87 e_87
  refine R.genT (fun T_87 hT_87 => ?_)
  rw [← hT_87] at ha_87
  have ho_87 : isO (SH T_87) t 12 [] := by rw [hT_87]; exact ho_79.up
  have hl_87 : (T_87.length : Int) = T.length + 11 := by rw [hT_87, List.length_append]; show ((_ + 1 : Nat) : Int) = _; omega
  clear hP_79 hl_79
  refine R_aload_0 hX dX12_init_92 ?_
  refine R_bipush hX dX12_init_93 (by decide) ?_
  refine R_newaT (ty := .int) hX rfl (Or.inl rfl) ac_int ⟨by omega, by omega⟩ (m := 6) rfl ⟨by omega, by omega⟩ dX12_init_95 (fun n_95 hn_95 => ?_)
  refine R_putFa (t := .int) hX (fun _ _ => rfl) hin dX12_init_97 fl_X12_44 rfl (ho_87.up) rfl ?_
  have ha_95 : isA (SH (T_87 ++ [.inr (.int, 6)])) n_95 .int 6 := isA.newT (by decide) hn_95
  have e_95 : n_95 = t + 12 := by omega
  refine R.gen (fun G_95 hG_95 => ?_)
  have hP_95 : P0 F G_95 t 12 := by rw [hG_95]; exact P0.next hP_87 (by omega) (fun _ => rfl) (by omega) (by omega)
  rw [e_95] at ha_95
  clear hG_95 hn_95 e_95
  refine R.genT (fun T_95 hT_95 => ?_)
  rw [← hT_95] at ha_95
  have ho_95 : isO (SH T_95) t 12 [] := by rw [hT_95]; exact ho_87.up
  have hl_95 : (T_95.length : Int) = T.length + 12 := by rw [hT_95, List.length_append]; show ((_ + 1 : Nat) : Int) = _; omega
  clear hP_87 hl_87
  refine R_aload_0 hX dX12_init_100 ?_
  refine R_bipush hX dX12_init_101 (by decide) ?_
  refine R_newaT (ty := .int) hX rfl (Or.inl rfl) ac_int ⟨by omega, by omega⟩ (m := 6) rfl ⟨by omega, by omega⟩ dX12_init_103 (fun n_103 hn_103 => ?_)
  refine R_putFa (t := .int) hX (fun _ _ => rfl) hin dX12_init_105 fl_X12_47 rfl (ho_95.up) rfl ?_
  have ha_103 : isA (SH (T_95 ++ [.inr (.int, 6)])) n_103 .int 6 := isA.newT (by decide) hn_103
  have e_103 : n_103 = t + 13 := by omega
  refine R.gen (fun G_103 hG_103 => ?_)
  have hP_103 : P0 F G_103 t 13 := by rw [hG_103]; exact P0.next hP_95 (by omega) (fun _ => rfl) (by omega) (by omega)
  rw [e_103] at ha_103
  clear hG_103 hn_103 e_103
  refine R.genT (fun T_103 hT_103 => ?_)
  rw [← hT_103] at ha_103
  have ho_103 : isO (SH T_103) t 12 [] := by rw [hT_103]; exact ho_95.up
  have hl_103 : (T_103.length : Int) = T.length + 13 := by rw [hT_103, List.length_append]; show ((_ + 1 : Nat) : Int) = _; omega
  clear hP_95 hl_95
  refine R_aload_0 hX dX12_init_108 ?_
  refine R_bipush hX dX12_init_109 (by decide) ?_
  refine R_newaT (ty := .int) hX rfl (Or.inl rfl) ac_int ⟨by omega, by omega⟩ (m := 6) rfl ⟨by omega, by omega⟩ dX12_init_111 (fun n_111 hn_111 => ?_)
  refine R_putFa (t := .int) hX (fun _ _ => rfl) hin dX12_init_113 fl_X12_50 rfl (ho_103.up) rfl ?_
  have ha_111 : isA (SH (T_103 ++ [.inr (.int, 6)])) n_111 .int 6 := isA.newT (by decide) hn_111
  have e_111 : n_111 = t + 14 := by omega
  refine R.gen (fun G_111 hG_111 => ?_)
  have hP_111 : P0 F G_111 t 14 := by rw [hG_111]; exact P0.next hP_103 (by omega) (fun _ => rfl) (by omega) (by omega)
  rw [e_111] at ha_111
  clear hG_111 hn_111 e_111
  refine R.genT (fun T_111 hT_111 => ?_)
  rw [← hT_111] at ha_111
  have ho_111 : isO (SH T_111) t 12 [] := by rw [hT_111]; exact ho_103.up
  have hl_111 : (T_111.length : Int) = T.length + 14 := by rw [hT_111, List.length_append]; show ((_ + 1 : Nat) : Int) = _; omega
  clear hP_103 hl_103
  refine R_aload_0 hX dX12_init_116 ?_
  refine R_bipush hX dX12_init_117 (by decide) ?_
  refine R_newaT (ty := .int) hX rfl (Or.inl rfl) ac_int ⟨by omega, by omega⟩ (m := 6) rfl ⟨by omega, by omega⟩ dX12_init_119 (fun n_119 hn_119 => ?_)
  refine R_putFa (t := .int) hX (fun _ _ => rfl) hin dX12_init_121 fl_X12_53 rfl (ho_111.up) rfl ?_
  have ha_119 : isA (SH (T_111 ++ [.inr (.int, 6)])) n_119 .int 6 := isA.newT (by decide) hn_119
  have e_119 : n_119 = t + 15 := by omega
  refine R.gen (fun G_119 hG_119 => ?_)
  have hP_119 : P0 F G_119 t 15 := by rw [hG_119]; exact P0.next hP_111 (by omega) (fun _ => rfl) (by omega) (by omega)
  rw [e_119] at ha_119
  clear hG_119 hn_119 e_119
  refine R.genT (fun T_119 hT_119 => ?_)
  rw [← hT_119] at ha_119
  have ho_119 : isO (SH T_119) t 12 [] := by rw [hT_119]; exact ho_111.up
  have hl_119 : (T_119.length : Int) = T.length + 15 := by rw [hT_119, List.length_append]; show ((_ + 1 : Nat) : Int) = _; omega
  clear hP_111 hl_111
  refine R_aload_0 hX dX12_init_124 ?_
  refine R_bipush hX dX12_init_125 (by decide) ?_
  refine R_newaT (ty := .int) hX rfl (Or.inl rfl) ac_int ⟨by omega, by omega⟩ (m := 6) rfl ⟨by omega, by omega⟩ dX12_init_127 (fun n_127 hn_127 => ?_)
  refine R_putFa (t := .int) hX (fun _ _ => rfl) hin dX12_init_129 fl_X12_56 rfl (ho_119.up) rfl ?_
  have ha_127 : isA (SH (T_119 ++ [.inr (.int, 6)])) n_127 .int 6 := isA.newT (by decide) hn_127
  have e_127 : n_127 = t + 16 := by omega
  refine R.gen (fun G_127 hG_127 => ?_)
  have hP_127 : P0 F G_127 t 16 := by rw [hG_127]; exact P0.next hP_119 (by omega) (fun _ => rfl) (by omega) (by omega)
  rw [e_127] at ha_127
  clear hG_127 hn_127 e_127
  refine R.genT (fun T_127 hT_127 => ?_)
  rw [← hT_127] at ha_127
  have ho_127 : isO (SH T_127) t 12 [] := by rw [hT_127]; exact ho_119.up
  have hl_127 : (T_127.length : Int) = T.length + 16 := by rw [hT_127, List.length_append]; show ((_ + 1 : Nat) : Int) = _; omega
  clear hP_119 hl_119
  refine R_aload_0 hX dX12_init_132 ?_
  refine R_newT hX cf_15 cl_X12_59 is_Jx4a65c in_java_util_ArrayList (by decide) ⟨by omega, by omega⟩ dX12_init_133 (fun n_133 hn_133 => ?_)
  refine R_dup hX c1_r dX12_init_136 ?_
  refine R_callIE (As := []) hX dX12_init_137 li_X12_61 mk_Jx4a65c_init_da8c8 mc_Jx4a65c_init_da8c8 (isO.newT hn_133) (e_iList (isO.newT hn_133)) ⟨⟨by decide, by decide⟩, by omega, by omega, rfl, rfl, (by simp [vi_cat, vl_cat, vr_cat, rf_cat])⟩ (fun x_137 s_137 F_137 d_137 h_137 hl_137 hd_137 => ?_)
  obtain ⟨rfl, h_137⟩ := h_137
  subst h_137
  clear hl_137
  obtain rfl : d_137 = 0 := by omega
  refine R_putFo hX hin dX12_init_140 fl_X12_62 rfl (ho_127.up) rfl ?_
  have hq_133 : isO (SH (T_127 ++ [.inl (15, [])])) n_133 15 [] := isO.newT hn_133
  have e_133 : n_133 = t + 17 := by omega
  refine R.gen (fun G_133 hG_133 => ?_)
  have hS0 : S0 F G_133 t d := by rw [hG_133]; exact S0.of rfl hP_127 (by rw [hz]; rfl) e_133
  rw [e_133] at hq_133
  clear hG_133 hn_133 e_133 hP_127
  refine R.genT (fun TZ hTZ => ?_)
  rw [← hTZ] at hq_133
  have hlz : (TZ.length : Int) = T.length + 17 := by rw [hTZ, List.length_append]; show ((_ + 1 : Nat) : Int) = _; omega
  have hA : TrA TZ t := by rw [hTZ] at hq_133 ⊢; exact ⟨ho_127.up, (show isA (SH T_127) (t + 1) .int 6 from by rw [hT_127, hT_119, hT_111, hT_103, hT_95, hT_87, hT_79, hT_71, hT_63, hT_55, hT_47, hT_39, hT_31, hT_23, hT_15]; exact ha_7.up.up.up.up.up.up.up.up.up.up.up.up.up.up.up).up, (show isA (SH T_127) (t + 2) .int 6 from by rw [hT_127, hT_119, hT_111, hT_103, hT_95, hT_87, hT_79, hT_71, hT_63, hT_55, hT_47, hT_39, hT_31, hT_23]; exact ha_15.up.up.up.up.up.up.up.up.up.up.up.up.up.up).up, (show isA (SH T_127) (t + 3) .int 6 from by rw [hT_127, hT_119, hT_111, hT_103, hT_95, hT_87, hT_79, hT_71, hT_63, hT_55, hT_47, hT_39, hT_31]; exact ha_23.up.up.up.up.up.up.up.up.up.up.up.up.up).up, (show isA (SH T_127) (t + 4) .int 6 from by rw [hT_127, hT_119, hT_111, hT_103, hT_95, hT_87, hT_79, hT_71, hT_63, hT_55, hT_47, hT_39]; exact ha_31.up.up.up.up.up.up.up.up.up.up.up.up).up, (show isA (SH T_127) (t + 5) .int 6 from by rw [hT_127, hT_119, hT_111, hT_103, hT_95, hT_87, hT_79, hT_71, hT_63, hT_55, hT_47]; exact ha_39.up.up.up.up.up.up.up.up.up.up.up).up, (show isA (SH T_127) (t + 6) .int 6 from by rw [hT_127, hT_119, hT_111, hT_103, hT_95, hT_87, hT_79, hT_71, hT_63, hT_55]; exact ha_47.up.up.up.up.up.up.up.up.up.up).up, (show isA (SH T_127) (t + 7) .int 6 from by rw [hT_127, hT_119, hT_111, hT_103, hT_95, hT_87, hT_79, hT_71, hT_63]; exact ha_55.up.up.up.up.up.up.up.up.up).up, (show isA (SH T_127) (t + 8) .boolean 6 from by rw [hT_127, hT_119, hT_111, hT_103, hT_95, hT_87, hT_79, hT_71]; exact ha_63.up.up.up.up.up.up.up.up).up, (show isA (SH T_127) (t + 9) .int 6 from by rw [hT_127, hT_119, hT_111, hT_103, hT_95, hT_87, hT_79]; exact ha_71.up.up.up.up.up.up.up).up, (show isA (SH T_127) (t + 10) .int 6 from by rw [hT_127, hT_119, hT_111, hT_103, hT_95, hT_87]; exact ha_79.up.up.up.up.up.up).up, (show isA (SH T_127) (t + 11) .int 6 from by rw [hT_127, hT_119, hT_111, hT_103, hT_95]; exact ha_87.up.up.up.up.up).up, (show isA (SH T_127) (t + 12) .int 6 from by rw [hT_127, hT_119, hT_111, hT_103]; exact ha_95.up.up.up.up).up, (show isA (SH T_127) (t + 13) .int 6 from by rw [hT_127, hT_119, hT_111]; exact ha_103.up.up.up).up, (show isA (SH T_127) (t + 14) .int 6 from by rw [hT_127, hT_119]; exact ha_111.up.up).up, (show isA (SH T_127) (t + 15) .int 6 from by rw [hT_127]; exact ha_119.up).up, ha_127.up, hq_133⟩
  have hdz : isA (SH TZ) d .int 1 := by rw [hTZ, hT_127, hT_119, hT_111, hT_103, hT_95, hT_87, hT_79, hT_71, hT_63, hT_55, hT_47, hT_39, hT_31, hT_23, hT_15, hT_7]; exact hd.up.up.up.up.up.up.up.up.up.up.up.up.up.up.up.up.up
  have hgz : ∃ g, TZ = T ++ g := ⟨[.inr (.int, 6), .inr (.int, 6), .inr (.int, 6), .inr (.int, 6), .inr (.int, 6), .inr (.int, 6), .inr (.int, 6), .inr (.boolean, 6), .inr (.int, 6), .inr (.int, 6), .inr (.int, 6), .inr (.int, 6), .inr (.int, 6), .inr (.int, 6), .inr (.int, 6), .inr (.int, 6), .inl (15, [])], by rw [hTZ, hT_127, hT_119, hT_111, hT_103, hT_95, hT_87, hT_79, hT_71, hT_63, hT_55, hT_47, hT_39, hT_31, hT_23, hT_15, hT_7]; simp only [List.append_assoc, List.cons_append, List.nil_append]⟩
  clear hTZ hT_127 ha_127 ho_127 hT_119 ha_119 ho_119 hT_111 ha_111 ho_111 hT_103 ha_103 ho_103 hT_95 ha_95 ho_95 hT_87 ha_87 ho_87 hT_79 ha_79 ho_79 hT_71 ha_71 ho_71 hT_63 ha_63 ho_63 hT_55 ha_55 ho_55 hT_47 ha_47 ho_47 hT_39 ha_39 ho_39 hT_31 ha_31 ho_31 hT_23 ha_23 ho_23 hT_15 ha_15 ho_15 hT_7 ha_7 ho_7 hq_133
  exact jn_143 _ _ hgz hA hdz hlz hS0
