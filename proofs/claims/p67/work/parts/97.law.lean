set_option maxRecDepth 100000 in
set_option maxHeartbeats 4000000 in
theorem lw_req {X : KX} {Z : State → Prop} {T : Shp} {cs ss : Nat} {F : Hp} (hX : Ok X RL cL_law 10 (some .boolean) 20 600 600000 7302250) {b : Nat} {turn d t u v : Int} (hdt : 136 ≤ d ∧ d < t) (hS : TrS T t) (hd : isA (SH T) d .int 1) (hR : Rl u v 0 F t) (hV : TrV F t) (hQ : TQ T F t) (h20 : F t 20 = 0) (hc : cs + 168 ≤ 600000 ∧ ss + 980 ≤ 7302250)
    (jn_423 : ∀ (T1 : Shp) (G : Hp) (c1 s1 : Nat), (c1 ≤ cs + 168 ∧ s1 ≤ ss + 980) → (G 0 3 = u ∧ G 3 2 = v ∧ G 1 1 = 0) → R X (SH T1) c1 s1 423 [some (.ref b), some (vr (xV X) 0), some (vi 1), some (vi turn), none, none, none, none, none, none] [] G Z) : R X (SH T) cs ss 186 [some (.ref b), some (vr (xV X) 0), some (vi 1), some (vi turn), some (vr (xV X) d), some (vr (xV X) t), some (vi 0), none, none, none] [] F Z := by
  have hp := hS.p
  have lp_186 : ∀ (n : Nat) (T1 : Shp) (G : Hp) (K : Int) (k : Int) (c1 : Nat) (s1 : Nat), ((0 ≤ k ∧ k ≤ 14) ∧ (0 ≤ K ∧ K ≤ 99 * k) ∧ (c1 ≤ cs + 12 * k.toNat ∧ s1 ≤ ss + 70 * k.toNat)) → (TrS T1 t ∧ isA (SH T1) d .int 1) → (Rl u v K G t ∧ TrV G t ∧ TQ T1 G t ∧ G t 20 ≤ k) → (15 - k).toNat < n → R X (SH T1) c1 s1 186 [some (.ref b), some (vr (xV X) 0), some (vi 1), some (vi turn), some (vr (xV X) d), some (vr (xV X) t), some (vi k), none, none, none] [] G Z := by
    intro n
    induction n with
    | zero => intro T1 G K k c1 s1 iv186_0 iv186_1 iv186_2 hm; exact absurd hm (Nat.not_lt_zero _)
    | succ n ih_186 =>
      intro T1 G K k c1 s1 iv186_0 iv186_1 iv186_2 hm_186
      clear hS hd hR hV hQ h20
      obtain ⟨hS, hd⟩ := iv186_1
      obtain ⟨hR, hV, hQ, h20⟩ := iv186_2
      have hn := hV.n
      have htb := hS.e.ltT.2
      have hs0 := hR.1
      unfold SS at hs0
      refine R_iload_6 hX dL_law_186 ?_
      refine R_bipush hX dL_law_188 (by decide) ?_
      refine R_icmpge (tgt := 423) hX dL_law_190 (by decide) ⟨by omega, by omega⟩ ⟨by omega, by omega⟩ (fun c_190 => ?_) (fun c_190 => ?_)
      · skip
        refine R_drop_4 ?_
        refine R_drop_5 ?_
        refine R_drop_6 ?_
        exact jn_423 _ _ _ _ (by omega) ⟨hR.2.1.1, hR.2.1.2.1, hR.2.2.1⟩
      · skip
        refine R_iload_2 hX dL_law_193 ?_
        refine R_ifeq (tgt := 423) hX dL_law_194 (by decide) ⟨by omega, by omega⟩ (fun c_194 => ?_) (fun c_194 => ?_)
        · exact absurd c_194 (by decide)
        · skip
          refine R_aload_5 hX dL_law_197 ?_
          refine R_aload_4 hX dL_law_199 ?_
          refine R_v1i hX dL_law_201 li_L_175 mk_X12_anyLeaf mi_X12_anyLeaf rfl hS.o (c_anyLeaf hS hV hd hdt.2) ⟨⟨by decide, by decide⟩, by omega, by omega, rfl, Nat.le_of_ble_eq_true rfl, rfl⟩ (fun x_201 F_201 h_201 => ?_)
          obtain ⟨⟨hl_201, hLf⟩, v_201, hv_201, rfl⟩ := h_201
          refine R_istore_7 hX c1_i dL_law_204 ?_
          refine R_iconst hX dL_law_206 ?_
          refine R_aload_4 hX dL_law_207 ?_
          refine R_bipush hX dL_law_209 (by decide) ?_
          refine R_s2i hX dL_law_211 li_L_179 mk_L_draw ms_L_draw (c_draw hd ⟨by omega, by omega⟩) ⟨⟨by decide, by decide⟩, by omega, by omega, rfl, Nat.le_of_ble_eq_true rfl, rfl⟩ (fun x_211 F_211 h_211 => ?_)
          obtain ⟨hc_211, v_211, hv_211, rfl⟩ := h_211
          refine R_iadd hX dL_law_214 ?_
          refine R_istore_8 hX c1_i dL_law_215 ?_
          have hta : ∀ a : Int, t ≤ a → up (up G d 0 v_201) d 0 v_211 a = G a := fun a h => by rw [up_r (by omega), up_r (by omega)]
          have hRa : Rl u v K (up (up G d 0 v_201) d 0 v_211) t := rl_drw (rl_drw hR hdt) hdt
          have hVa : TrV (up (up G d 0 v_201) d 0 v_211) t := trv_drw (trv_drw hV hdt.2) hdt.2
          have hQa : TQ T1 (up (up G d 0 v_201) d 0 v_211) t := tq_drw (tq_drw hQ hdt.2) hdt.2
          have hLa : Lf (up (up G d 0 v_201) d 0 v_211) t x_201 := fun j j0 j1 => by
            rw [hta t (by omega)] at j1
            rw [hta (t + 1) (by omega)]
            exact hLf j j0 j1
          have hla : 0 ≤ x_201 ∧ x_201 < up (up G d 0 v_201) d 0 v_211 t 0 := by rw [hta t (by omega)]; exact hl_201
          have h20a : up (up G d 0 v_201) d 0 v_211 t 20 ≤ k := by rw [hta t (by omega)]; exact h20
          refine R.gen (fun H hH => ?_)
          rw [← hH] at hRa hVa hQa hLa hla h20a
          clear hH hta hLf
          refine R_aload_1 hX dL_law_217 ?_
          refine R_aload_5 hX dL_law_218 ?_
          refine R_iload_7 hX dL_law_220 ?_
          refine R_iload_8 hX dL_law_222 ?_
          refine R_callSE (As := [_, _, _, _]) hX dL_law_224 li_L_182 mk_L_asked ms_L_asked (e_asked hRa hS hVa hQa htb hla hLa ⟨by omega, by omega⟩) ⟨⟨by decide, by decide⟩, by omega, by omega, rfl, rfl, (by first | decide | exact Nat.zero_le _)⟩ (fun x_224 s_224 F_224 d_224 h_224 hl_224 hd_224 => ?_)
          obtain ⟨g_224, rfl, h_224⟩ := h_224
          obtain ⟨r_224, hR1, hq_224⟩ := h_224
          subst r_224
          have hV1 : TrV F_224 t := hVa.fr2 (fun a h1 h2 => hq_224 a (by omega) (by omega))
          have hQ1 : TQ (T1 ++ g_224) F_224 t := by
            refine hQa.up (by rw [hq_224 t (by omega) (by omega)]) (hq_224 _ (by omega) (by omega)) (hq_224 _ (by omega) (by omega)) (fun k k0 k1 => ?_)
            have := (hQa.2.2 k k0 k1).2.1.ltT
            have := (hQa.2.2 k k0 k1).2.1.ge (by omega)
            rw [hq_224 _ (by omega) (by omega)]
          have hS1 : TrS (T1 ++ g_224) t := hS.up
          have hd1 : isA (SH (T1 ++ g_224)) d .int 1 := hd.up
          have hl1 : 0 ≤ x_201 ∧ x_201 < F_224 t 0 := by rw [hq_224 t (by omega) (by omega)]; exact hla
          have hLf1 : F_224 (u + 4) x_201 = 0 := (hR1.leaf hl1).mpr (fun j j0 j1 => by
            rw [hq_224 t (by omega) (by omega)] at j1
            rw [hq_224 (t + 1) (by omega) (by omega)]
            exact hLa j j0 j1)
          have h201 : F_224 t 20 ≤ k := by rw [hq_224 t (by omega) (by omega)]; exact h20a
          have hn1 := hV1.n
          have hun : F_224 u 0 = F_224 t 0 := hR1.2.2.2.1.1
          clear hRa hVa hQa hLa hla h20a hq_224 hl_201 hl_224
          refine R_istore_2 hX c1_r dL_law_227 ?_
          refine R_iload_2 hX dL_law_228 ?_
          refine R_ifne (tgt := 234) hX dL_law_229 (by decide) ⟨by omega, by omega⟩ (fun c_229 => ?_) (fun c_229 => ?_)
          · skip
            have jn_362 : ∀ (H2 : Hp) (K2 : Int), (K ≤ K2 ∧ K2 ≤ K + 99) → (Rl u v K2 H2 t ∧ TrV H2 t ∧ TQ (T1 ++ g_224) H2 t ∧ H2 t 20 ≤ k) → R X (SH (T1 ++ g_224)) (c1 + d_224) (s1 + 70) 362 [some (.ref b), some (vr (xV X) 0), some (vi 1), some (vi turn), some (vr (xV X) d), some (vr (xV X) t), some (vi k), none, none, none] [] H2 Z := by
              intro H2 K2 jv362_0 jv362_1
              obtain ⟨hRj, hVj, hQj, h20j⟩ := jv362_1
              have jn_417 : ∀ (H3 : Hp), (Rl u v K2 H3 t ∧ TrV H3 t ∧ TQ (T1 ++ g_224) H3 t ∧ H3 t 20 ≤ k + 1) → R X (SH (T1 ++ g_224)) (c1 + d_224) (s1 + 70) 417 [some (.ref b), some (vr (xV X) 0), some (vi 1), some (vi turn), some (vr (xV X) d), some (vr (xV X) t), some (vi k), none, none, none] [] H3 Z := by
                intro H3 jv417_0
                obtain ⟨hRk, hVk, hQk, h20k⟩ := jv417_0
                refine R_iinc_6 hX c1_r dL_law_417 ?_
                refine R_goto (tgt := 186) hX dL_law_420 (by decide) ?_
                exact ih_186 _ _ K2 _ _ _ (by omega) ⟨hS1, hd1⟩ ⟨hRk, hVk, hQk, h20k⟩ (by omega)
              refine R_aload_4 hX dL_law_362 ?_
              refine R_iconst hX dL_law_364 ?_
              refine R_s2i hX dL_law_365 li_L_179 mk_L_draw ms_L_draw (c_draw hd1 ⟨by omega, by omega⟩) ⟨⟨by decide, by decide⟩, by omega, by omega, rfl, Nat.le_of_ble_eq_true rfl, rfl⟩ (fun x_365 F_365 h_365 => ?_)
              obtain ⟨hr_365, v_365, hv_365, rfl⟩ := h_365
              have hR3 : Rl u v K2 (up H2 d 0 v_365) t := rl_drw hRj hdt
              have hV3 : TrV (up H2 d 0 v_365) t := trv_drw hVj hdt.2
              have hQ3 : TQ (T1 ++ g_224) (up H2 d 0 v_365) t := tq_drw hQj hdt.2
              have h203 : up H2 d 0 v_365 t 20 ≤ k := by rw [up_r (by omega)]; exact h20j
              refine R.gen (fun H hH => ?_)
              rw [← hH] at hR3 hV3 hQ3 h203
              clear hH
              refine R_ifle (tgt := 374) hX dL_law_368 (by decide) ⟨by omega, by omega⟩ (fun c_368 => ?_) (fun c_368 => ?_)
              · skip
                refine R_iload_2 hX dL_law_374 ?_
                refine R_ifeq (tgt := 390) hX dL_law_375 (by decide) ⟨by omega, by omega⟩ (fun c_375 => ?_) (fun c_375 => ?_)
                · exact absurd c_375 (by decide)
                · skip
                  refine R_aload_1 hX dL_law_378 ?_
                  refine R_iconst hX dL_law_379 ?_
                  refine R_v1i hX dL_law_380 li_L_146 mk_X11_advance mi_X11_advance rfl o_0 (c_advance rfl hR3.1.u hR3.2.1 ⟨by omega, by omega⟩) ⟨⟨by decide, by decide⟩, by omega, by omega, rfl, Nat.le_of_ble_eq_true rfl, rfl⟩ (fun x_380 F_380 h_380 => ?_)
                  have ht3 : H t 20 < 1000 := by omega
                  have htk := hR3.tick hp hV3 ht3
                  have hun3 : H u 0 = H t 0 := hR3.2.2.2.1.1
                  have htm3 : H 40 1 = H t 20 := hR3.2.2.2.2.1
                  have hn3 := hV3.n
                  have hz3 := hV3.tm.1
                  obtain ⟨e1, e2⟩ : x_380 = 0 ∧ F_380 = (tksS 40 u 1 H).2 := by
                    rcases h_380 with ⟨z, _⟩ | ⟨_, e1, e2⟩
                    · exact absurd ⟨by omega, by omega, by omega, by omega⟩ z
                    · exact ⟨e1.trans htk.1, e2⟩
                  subst e1
                  subst e2
                  have hV4 : TrV (tksS 40 u 1 H).2 t := hV3.fr2 (fun a h1 h2 => htk.2.2 a (by omega))
                  have hQ4 : TQ (T1 ++ g_224) (tksS 40 u 1 H).2 t := hQ3.fr (by rw [htk.2.2 t (by omega)]) (fun a h => htk.2.2 a (by omega))
                  have hV5 := trv_tick hV4 (by rw [htk.2.2 t (by omega)]; exact ht3)
                  have hQ5 := tq_tick hQ4
                  refine R_ifne (tgt := 390) hX dL_law_383 (by decide) ⟨by omega, by omega⟩ (fun c_383 => ?_) (fun c_383 => ?_)
                  · exact absurd rfl c_383
                  · skip
                    refine R_iconst hX dL_law_386 ?_
                    refine R_goto (tgt := 391) hX dL_law_387 (by decide) ?_
                    refine R_istore_2 hX c1_r dL_law_391 ?_
                    refine R_aload_5 hX dL_law_392 ?_
                    refine R_v0i hX dL_law_394 li_L_206 mk_X12_tick mi_X12_tick rfl (hS.o.up) (c_tTick hS1 hV4 hQ4 (by rw [htk.2.2 t (by omega)]; omega)) ⟨⟨by decide, by decide⟩, by omega, by omega, rfl, Nat.le_of_ble_eq_true rfl, rfl⟩ (fun x_394 F_394 h_394 => ?_)
                    obtain ⟨e_394, rfl⟩ := h_394
                    refine R_pop hX c1_i dL_law_397 ?_
                    refine R_iload_2 hX dL_law_398 ?_
                    refine R_ifeq (tgt := 415) hX dL_law_399 (by decide) ⟨by omega, by omega⟩ (fun c_399 => ?_) (fun c_399 => ?_)
                    · exact absurd c_399 (by decide)
                    · skip
                      refine R_aload_1 hX dL_law_402 ?_
                      refine R_aload_5 hX dL_law_403 ?_
                      refine R_s2i hX dL_law_405 li_L_172 mk_L_same ms_L_same (c_same htk.2.1 hS1 hV5 hQ5) ⟨⟨by decide, by decide⟩, by omega, by omega, rfl, Nat.le_of_ble_eq_true rfl, rfl⟩ (fun x_405 F_405 h_405 => ?_)
                      obtain ⟨h_405, e_405⟩ := h_405; replace e_405 := e_405.symm; subst e_405
                      refine R_ifeq (tgt := 415) hX dL_law_408 (by decide) ⟨by omega, by omega⟩ (fun c_408 => ?_) (fun c_408 => ?_)
                      · exact absurd c_408 (by omega)
                      · skip
                        refine R_iconst hX dL_law_411 ?_
                        refine R_goto (tgt := 416) hX dL_law_412 (by decide) ?_
                        refine R_istore_2 hX c1_r dL_law_416 ?_
                        exact jn_417 _ ⟨htk.2.1, hV5, hQ5, by rw [tkT_t, if_pos rfl, htk.2.2 t (by omega)]; omega⟩
              · skip
                refine R_goto (tgt := 417) hX dL_law_371 (by decide) ?_
                exact jn_417 _ ⟨hR3, hV3, hQ3, by omega⟩
            refine R_aload_5 hX dL_law_234 ?_
            refine R_iload_7 hX dL_law_236 ?_
            refine R_iload_8 hX dL_law_238 ?_
            refine R_v2i hX dL_law_240 li_L_186 mk_X12_lender mi_X12_lender rfl (hS.o.up) (c_tLender hS1 hV1 hl1 ⟨by omega, by omega⟩) ⟨⟨by decide, by decide⟩, by omega, by omega, rfl, Nat.le_of_ble_eq_true rfl, rfl⟩ (fun x_240 F_240 h_240 => ?_)
            obtain ⟨h_240, e_240⟩ := h_240; replace e_240 := e_240.symm; subst e_240
            subst h_240
            have hlr := lnT_rng hV1 (c := (1 + x_211)) hl1.2
            refine R_istore_9 hX c1_i dL_law_243 ?_
            refine R_aload_1 hX dL_law_245 ?_
            refine R_iload_7 hX dL_law_246 ?_
            refine R_iload_8 hX dL_law_248 ?_
            refine R_v2i hX dL_law_250 li_L_143 mk_X11_acquire mi_X11_acquire rfl o_0 (c_acquire rfl hR1.1.u hR1.2.1 ⟨by omega, by omega⟩ ⟨by omega, by omega⟩) ⟨⟨by decide, by decide⟩, by omega, by omega, rfl, Nat.le_of_ble_eq_true rfl, rfl⟩ (fun x_250 F_250 h_250 => ?_)
            have hlnd : lndS 40 u F_224 x_201 (1 + x_211) = lnT t F_224 x_201 (1 + x_211) := hR1.lnd hl1.2
            rw [hlnd] at h_250
            replace h_250 : (lnT t F_224 x_201 (1 + x_211) = -2 ∧ x_250 = -2 ∧ F_250 = F_224) ∨ (lnT t F_224 x_201 (1 + x_211) ≠ -2 ∧ x_250 = F_224 (u + 3) x_201 - F_224 (u + 3) (lnT t F_224 x_201 (1 + x_211)) ∧ F_250 = (sndS 40 u x_201 (lnT t F_224 x_201 (1 + x_211)) (1 + x_211) F_224)) := by
              rcases h_250 with ⟨z, _⟩ | ⟨⟨_, z⟩, e1, e2⟩ | ⟨⟨_, z⟩, e1, e2⟩
              · exact absurd ⟨hl1.1, by omega, hLf1, by omega, by omega⟩ z
              · exact Or.inl ⟨z, e1, e2⟩
              · exact Or.inr ⟨z, e1, e2⟩
            clear hlnd
            rcases h_250 with c_253 | c_253
            · skip
              refine R_iload_9 hX dL_law_253 ?_
              obtain ⟨hb, e1, e2⟩ := c_253
              subst e1
              replace e2 := e2.symm
              subst e2
              refine R_ifge (tgt := 263) hX dL_law_255 (by decide) ⟨by omega, by omega⟩ (fun c_255 => ?_) (fun c_255 => ?_)
              · exact absurd c_255 (by omega)
              · skip
                refine R_bipush hX dL_law_258 (by decide) ?_
                refine R_goto (tgt := 272) hX dL_law_260 (by decide) ?_
                refine R_icmpneS (tgt := 279) hX dL_law_272 (by decide) rfl ?_
                refine R_iconst hX dL_law_275 ?_
                refine R_goto (tgt := 280) hX dL_law_276 (by decide) ?_
                refine R_istore_2 hX c1_r dL_law_280 ?_
                refine R_iload_9 hX dL_law_281 ?_
                refine R_iflt (tgt := 295) hX dL_law_283 (by decide) ⟨by omega, by omega⟩ (fun c_283 => ?_) (fun c_283 => ?_)
                · skip
                  refine R_iload_2 hX dL_law_295 ?_
                  refine R_ifeq (tgt := 360) hX dL_law_296 (by decide) ⟨by omega, by omega⟩ (fun c_296 => ?_) (fun c_296 => ?_)
                  · exact absurd c_296 (by decide)
                  · skip
                    refine R_aload_1 hX dL_law_299 ?_
                    refine R_aload_5 hX dL_law_300 ?_
                    refine R_s2i hX dL_law_302 li_L_172 mk_L_same ms_L_same (c_same hR1 hS1 hV1 hQ1) ⟨⟨by decide, by decide⟩, by omega, by omega, rfl, Nat.le_of_ble_eq_true rfl, rfl⟩ (fun x_302 F_302 h_302 => ?_)
                    obtain ⟨h_302, e_302⟩ := h_302; replace e_302 := e_302.symm; subst e_302
                    refine R_ifeq (tgt := 360) hX dL_law_305 (by decide) ⟨by omega, by omega⟩ (fun c_305 => ?_) (fun c_305 => ?_)
                    · exact absurd c_305 (by omega)
                    · skip
                      refine R_iload_9 hX dL_law_308 ?_
                      refine R_iflt (tgt := 356) hX dL_law_310 (by decide) ⟨by omega, by omega⟩ (fun c_310 => ?_) (fun c_310 => ?_)
                      · skip
                        refine R_iconst hX dL_law_356 ?_
                        refine R_goto (tgt := 361) hX dL_law_357 (by decide) ?_
                        refine R_istore_2 hX c1_r dL_law_361 ?_
                        refine R_drop_7 ?_
                        refine R_drop_8 ?_
                        refine R_drop_9 ?_
                        exact jn_362 _ K (by omega) ⟨hR1, hV1, hQ1, h201⟩
                      · exact absurd c_310 (by omega)
                · exact absurd c_283 (by omega)
            · skip
              refine R_iload_9 hX dL_law_253 ?_
              obtain ⟨hb, e1, e2⟩ := c_253
              subst e1
              subst e2
              have hle := lnT_ok hV1 hl1.2 hb
              have hVs : TrV (sndS 40 u x_201 (lnT t F_224 x_201 (1 + x_211)) (1 + x_211) F_224) t := trv_sndS hp hV1
              have hsa : ∀ a : Int, t ≤ a → (sndS 40 u x_201 (lnT t F_224 x_201 (1 + x_211)) (1 + x_211) F_224) a = F_224 a := fun a h => sndS_r (by omega)
              have hls : 0 ≤ x_201 ∧ x_201 < (sndS 40 u x_201 (lnT t F_224 x_201 (1 + x_211)) (1 + x_211) F_224) t 0 := by rw [hsa t (by omega)]; exact hl1
              have hnb : lnT t (sndS 40 u x_201 (lnT t F_224 x_201 (1 + x_211)) (1 + x_211) F_224) x_201 (1 + x_211) ≠ -2 := by rw [lnT_sndS hp]; exact hb
              refine R_ifge (tgt := 263) hX dL_law_255 (by decide) ⟨by omega, by omega⟩ (fun c_255 => ?_) (fun c_255 => ?_)
              · skip
                refine R_aload_5 hX dL_law_263 ?_
                refine R_iload_7 hX dL_law_265 ?_
                refine R_iload_9 hX dL_law_267 ?_
                refine R_v2i hX dL_law_269 li_L_187 mk_X12_steps mi_X12_steps rfl (hS.o.up) (c_steps hS1 hVs ⟨by omega, by rw [hsa t (by omega)]; omega⟩ 5 x_201 (by omega) (by omega) (by omega) (by rw [hsa (t + 1) (by omega)]; exact hle.2.1)) ⟨⟨by decide, by decide⟩, by omega, by omega, rfl, Nat.le_of_ble_eq_true rfl, rfl⟩ (fun x_269 F_269 h_269 => ?_)
                obtain ⟨h_269, e_269⟩ := h_269; replace e_269 := e_269.symm; subst e_269
                rw [hsa (t + 1) (by omega)] at h_269
                have hdiff := stF_diff hV1.tr (fun m m1 m2 => (hV1.par m (by omega) m2).2 m1) hle.1.1 13 x_201 (by omega) (by omega) (by omega) (by omega) hle.2.1
                refine R_icmpneS (tgt := 279) hX dL_law_272 (by decide) (by rw [(hR1.2.2.2.1.2.1 x_201 hl1.1 hl1.2).2.2.1, (hR1.2.2.2.1.2.1 _ hle.1.1 (by omega)).2.2.1]; omega) ?_
                refine R_iconst hX dL_law_275 ?_
                refine R_goto (tgt := 280) hX dL_law_276 (by decide) ?_
                refine R_istore_2 hX c1_r dL_law_280 ?_
                refine R_iload_9 hX dL_law_281 ?_
                refine R_iflt (tgt := 295) hX dL_law_283 (by decide) ⟨by omega, by omega⟩ (fun c_283 => ?_) (fun c_283 => ?_)
                · exact absurd c_283 (by omega)
                · skip
                  refine R_aload_5 hX dL_law_286 ?_
                  refine R_iload_7 hX dL_law_288 ?_
                  refine R_iload_8 hX dL_law_290 ?_
                  refine R_v2v hX dL_law_292 li_L_190 mk_X12_send mi_X12_send rfl (hS.o.up) (c_tSend hS1 hVs hls ⟨by omega, by omega⟩ hnb) ⟨⟨by decide, by decide⟩, by omega, by omega, rfl, Nat.le_of_ble_eq_true rfl, rfl⟩ (fun x_292 F_292 h_292 => ?_)
                  subst h_292
                  rw [lnT_sndS hp]
                  have hR2 : Rl u v (K + 99) (snT t x_201 (lnT t F_224 x_201 (1 + x_211)) (1 + x_211) (sndS 40 u x_201 (lnT t F_224 x_201 (1 + x_211)) (1 + x_211) F_224)) t := Rl.snd hp hR1 hV1 hl1 ⟨by omega, by omega⟩ (by omega) rfl hb
                  have hV2 : TrV (snT t x_201 (lnT t F_224 x_201 (1 + x_211)) (1 + x_211) (sndS 40 u x_201 (lnT t F_224 x_201 (1 + x_211)) (1 + x_211) F_224)) t := by
                    have z := hVs.snd hls (by omega) hnb
                    rw [lnT_sndS hp] at z
                    exact z
                  have hQ2 : TQ (T1 ++ g_224) (snT t x_201 (lnT t F_224 x_201 (1 + x_211)) (1 + x_211) (sndS 40 u x_201 (lnT t F_224 x_201 (1 + x_211)) (1 + x_211) F_224)) t := tq_snd hp hQ1
                  have h202 : (snT t x_201 (lnT t F_224 x_201 (1 + x_211)) (1 + x_211) (sndS 40 u x_201 (lnT t F_224 x_201 (1 + x_211)) (1 + x_211) F_224)) t 20 ≤ k := by rw [snT_r (by omega), sndS_r (by omega)]; exact h201
                  have hlog := snd_log (u := u) (leaf := x_201) (l := lnT t F_224 x_201 (1 + x_211)) (c := (1 + x_211)) (t := t) (F := F_224) hp (by have := hR1.2.1.2.2.1.2.2.2.1.1; omega)
                  have etm : F_224 40 1 = (snT t x_201 (lnT t F_224 x_201 (1 + x_211)) (1 + x_211) (sndS 40 u x_201 (lnT t F_224 x_201 (1 + x_211)) (1 + x_211) F_224)) t 20 := by rw [snT_r (by omega), sndS_r (by omega)]; exact hR1.2.2.2.2.1
                  refine R_iload_2 hX dL_law_295 ?_
                  refine R_ifeq (tgt := 360) hX dL_law_296 (by decide) ⟨by omega, by omega⟩ (fun c_296 => ?_) (fun c_296 => ?_)
                  · exact absurd c_296 (by decide)
                  · skip
                    refine R_aload_1 hX dL_law_299 ?_
                    refine R_aload_5 hX dL_law_300 ?_
                    refine R_s2i hX dL_law_302 li_L_172 mk_L_same ms_L_same (c_same hR2 hS1 hV2 hQ2) ⟨⟨by decide, by decide⟩, by omega, by omega, rfl, Nat.le_of_ble_eq_true rfl, rfl⟩ (fun x_302 F_302 h_302 => ?_)
                    obtain ⟨h_302, e_302⟩ := h_302; replace e_302 := e_302.symm; subst e_302
                    refine R_ifeq (tgt := 360) hX dL_law_305 (by decide) ⟨by omega, by omega⟩ (fun c_305 => ?_) (fun c_305 => ?_)
                    · exact absurd c_305 (by omega)
                    · skip
                      refine R_iload_9 hX dL_law_308 ?_
                      refine R_iflt (tgt := 356) hX dL_law_310 (by decide) ⟨by omega, by omega⟩ (fun c_310 => ?_) (fun c_310 => ?_)
                      · exact absurd c_310 (by omega)
                      · skip
                        refine R_aload_1 hX dL_law_313 ?_
                        refine R_iconst hX dL_law_314 ?_
                        refine R_v1i hX dL_law_315 li_L_194 mk_X11_loggedLeaf mi_X11_loggedLeaf rfl o_0 (c_loggedLeaf rfl hR2.1.u hR2.2.1 ⟨by omega, by omega⟩) ⟨⟨by decide, by decide⟩, by omega, by omega, rfl, Nat.le_of_ble_eq_true rfl, rfl⟩ (fun x_315 F_315 h_315 => ?_)
                        obtain ⟨h_315, e_315⟩ := h_315; replace e_315 := e_315.symm; subst e_315
                        refine R_iload_7 hX dL_law_318 ?_
                        refine R_icmpneS (tgt := 360) hX dL_law_320 (by decide) (by rw [h_315, if_neg (by decide), if_pos hlog.1]; exact hlog.2.1) ?_
                        refine R_aload_1 hX dL_law_323 ?_
                        refine R_iconst hX dL_law_324 ?_
                        refine R_v1i hX dL_law_325 li_L_197 mk_X11_loggedCost mi_X11_loggedCost rfl o_0 (c_loggedCost rfl hR2.1.u hR2.2.1 ⟨by omega, by omega⟩) ⟨⟨by decide, by decide⟩, by omega, by omega, rfl, Nat.le_of_ble_eq_true rfl, rfl⟩ (fun x_325 F_325 h_325 => ?_)
                        obtain ⟨h_325, e_325⟩ := h_325; replace e_325 := e_325.symm; subst e_325
                        refine R_iload_8 hX dL_law_328 ?_
                        refine R_icmpneS (tgt := 360) hX dL_law_330 (by decide) (by rw [h_325, if_neg (by decide), if_pos hlog.1]; exact hlog.2.2.1) ?_
                        refine R_aload_1 hX dL_law_333 ?_
                        refine R_iconst hX dL_law_334 ?_
                        refine R_v1i hX dL_law_335 li_L_200 mk_X11_loggedLender mi_X11_loggedLender rfl o_0 (c_loggedLender rfl hR2.1.u hR2.2.1 ⟨by omega, by omega⟩) ⟨⟨by decide, by decide⟩, by omega, by omega, rfl, Nat.le_of_ble_eq_true rfl, rfl⟩ (fun x_335 F_335 h_335 => ?_)
                        obtain ⟨h_335, e_335⟩ := h_335; replace e_335 := e_335.symm; subst e_335
                        refine R_iload_9 hX dL_law_338 ?_
                        refine R_icmpneS (tgt := 360) hX dL_law_340 (by decide) (by rw [h_335, if_neg (by decide), if_pos hlog.1]; exact hlog.2.2.2.1) ?_
                        refine R_aload_1 hX dL_law_343 ?_
                        refine R_iconst hX dL_law_344 ?_
                        refine R_v1i hX dL_law_345 li_L_203 mk_X11_loggedTime mi_X11_loggedTime rfl o_0 (c_loggedTime rfl hR2.1.u hR2.2.1 ⟨by omega, by omega⟩) ⟨⟨by decide, by decide⟩, by omega, by omega, rfl, Nat.le_of_ble_eq_true rfl, rfl⟩ (fun x_345 F_345 h_345 => ?_)
                        obtain ⟨h_345, e_345⟩ := h_345; replace e_345 := e_345.symm; subst e_345
                        refine R_aload_5 hX dL_law_348 ?_
                        refine R_getNi hX dL_law_350 fn_L_59 (hS.o.up) rfl ?_
                        refine R_icmpneS (tgt := 360) hX dL_law_353 (by decide) (by rw [h_345, if_neg (by decide), if_pos hlog.1, hlog.2.2.2.2]; exact etm) ?_
                        refine R_iconst hX dL_law_356 ?_
                        refine R_goto (tgt := 361) hX dL_law_357 (by decide) ?_
                        refine R_istore_2 hX c1_r dL_law_361 ?_
                        refine R_drop_7 ?_
                        refine R_drop_8 ?_
                        refine R_drop_9 ?_
                        exact jn_362 _ (K + 99) (by omega) ⟨hR2, hV2, hQ2, h202⟩
              · exact absurd c_255 (by omega)
          · exact absurd c_229 (by decide)
  exact lp_186 16 _ _ 0 _ _ _ (by omega) ⟨hS, hd⟩ ⟨hR, hV, hQ, by omega⟩ (by omega)
