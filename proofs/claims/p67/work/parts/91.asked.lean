/-- the first m rows are kept -/
def CLI (F G : Hp) (t w m : Int) : Prop := (∀ q : Int, q < w → G q = F q) ∧ ∀ k : Int, 0 ≤ k → k < m → G w k = w + 1 + k ∧ G (w + 1 + k) = F (t + 9 + k)
theorem CLI.z {F : Hp} {t w : Int} {f : Int → Int} : CLI F (row F w f) t w 0 := ⟨fun q h => row_r (by omega), fun k h0 h1 => by omega⟩
theorem CLI.next {F G : Hp} {t w m a n : Int} (h : CLI F G t w m) (hm : 0 ≤ m ∧ m < 7) (hw : t + 19 < w) (ha : a = t + 9 + m) (hn : n = w + 1 + m) : CLI F (up (row G n (G a)) w m n) t w (m + 1) := by
  subst ha hn
  obtain ⟨h1, h2⟩ := h
  refine ⟨fun q hq => ?_, fun k k0 k1 => ?_⟩
  · rw [up_r (by omega), row_r (by omega)]
    exact h1 q hq
  · by_cases c : k = m
    · subst c
      rw [up_s, up_r (by omega), row_s, h1 _ (by omega)]
      exact ⟨rfl, rfl⟩
    · rw [up_i c, row_rb (by omega), up_r (by omega), row_r (by omega)]
      exact h2 k k0 (by omega)
theorem rfT_next {t n : Int} {w : Int} {F : Hp} (hw : 0 ≤ w) (hn : F t 0 = n) : rfP t (rfT t n w.toNat F) (rfT t n w.toNat F t 0) = rfT t n (w + 1).toNat F := by
  rw [show (w + 1).toNat = w.toNat + 1 by omega, rfT_s, rfT_k (by omega) (by omega) (by omega), hn]
set_option maxRecDepth 100000 in
set_option maxHeartbeats 4000000 in
theorem e_asked {V : VX} {T : Shp} {F : Hp} {t u v K : Int} (hR : Rl u v K F t) (hS : TrS T t) (hV : TrV F t) (hQ : TQ T F t) (htb : t + 19 < 136 + (T.length : Int)) {leaf cost : Int} (hl : 0 ≤ leaf ∧ leaf < F t 0) (hLf : Lf F t leaf) (hcost : 1 ≤ cost ∧ cost ≤ 12) : CtE V yL_asked cL_asked 12 (some .boolean) 6 141 12 70 (SH T) [vr V 0, vr V t, vi leaf, vi cost] F 1 (fun r s F' => ∃ g, s = SH (T ++ g) ∧ (r = 1 ∧ Rl u v K F' t ∧ ∀ q : Int, 136 ≤ q → q < 136 + T.length → F' q = F q)) := by
  refine CtE.of [some (vr V 0), some (vr V t), some (vi leaf), some (vi cost), none, none, none, none, none, none, none, none] (by decide) (by simp [lg_sl, vi_cat, vl_cat, vr_cat, rf_cat]) rfl (by simp [asc, lv_args, vi_cat, vl_cat, vr_cat, rf_cat]) (fun X hV hX => ?_)
  subst hV
  have hp := hS.p
  have hn := hV.n
  have hu := hR.1.u
  have hC := hR.2.1
  have hun : F u 0 = F t 0 := hR.2.2.2.1.1
  have hdr := hR.2.2.2.2
  have hsr := hR.2.2.2.1
  have hs' := hR.1
  unfold SS at hs'
  have hlf : F (u + 4) leaf = 0 := (hR.leaf hl).mpr hLf
  have hac1 := hR.ace.1
  have hTu : Tr (F t 0) (F (u + 2)) := by rw [← hun]; exact hC.2.2.1.1.2.1
  refine R_aload_1 hX dL_asked_0 ?_
  refine R_iload_2 hX dL_asked_1 ?_
  refine R_iload_3 hX dL_asked_2 ?_
  refine R_v2i hX dL_asked_3 li_L_186 mk_X12_lender mi_X12_lender rfl hS.o (c_tLender hS hV hl ⟨by omega, by omega⟩) ⟨⟨by decide, by decide⟩, by omega, by omega, rfl, Nat.le_of_ble_eq_true rfl, rfl⟩ (fun x_3 F_3 h_3 => ?_)
  obtain ⟨h_3, e_3⟩ := h_3; replace e_3 := e_3.symm; subst e_3
  subst h_3
  have hlr := lnT_rng hV (c := cost) hl.2
  refine R_istore_4 hX c1_i dL_asked_6 ?_
  have jn_282 : ∀ (T1 : Shp) (F1 : Hp) (w : Int), (∃ g, T1 = T ++ g) → (∀ q : Int, q < 136 + T.length → F1 q = F q) → (WS T1 F1 t w (fun k => w + 1 + k)) → (∀ k : Int, 0 ≤ k → k < 7 → F1 (w + 1 + k) = F (t + 9 + k)) → R X (SH T1) 8 49 282 [some (vr (xV X) 0), some (vr (xV X) t), some (vi leaf), some (vi cost), none, none, none, some (vi 1), some (vr (xV X) w), none, none, none] [] F1 (ZE X 1 (fun r s F' => ∃ g, s = SH (T ++ g) ∧ (r = 1 ∧ Rl u v K F' t ∧ ∀ q : Int, 136 ≤ q → q < 136 + T.length → F' q = F q)) 12 70) := by
    intro T1 F1 w jv282_0 jv282_1 jv282_2 jv282_3
    have hg1 := jv282_0
    have hk1 := jv282_1
    have hW1 := jv282_2
    have hc1 := jv282_3
    have hR1 : Rl u v K F1 t := hR.fr (fun a h => hk1 a (by omega)) (fun a h1 h2 => hk1 a (by omega)) (fun a h1 h2 => hk1 a (by omega))
    have hT1 : T.length ≤ T1.length := by
      obtain ⟨g, hg⟩ := hg1
      rw [hg, List.length_append]
      omega
    have hV1 : TrV F1 t := hV.up htb hk1
    have hQ1 : TQ T1 F1 t := by
      obtain ⟨g, hg⟩ := hg1
      rw [hg]
      exact hQ.up2 hV htb hk1
    replace hS : TrS T1 t := by
      obtain ⟨g, hg⟩ := hg1
      rw [hg]
      exact hS.up
    have en : F1 t 0 = F t 0 := by rw [hk1 t (by omega)]
    have hwA := hW1.1
    have hwt := hW1.2.1
    have hwl := hwA.ltT
    have hr7 : ∀ k : Int, 0 ≤ k → k < 7 → w + 1 + k < 136 + T1.length := fun k a b => (hW1.2.2 k a b).2.1.ltT.2
    have hwi := fun w' : Nat => (wt_it (t := t) (n := F t 0) hR.1.d40 (show 1 ≤ cost ∧ cost ≤ 99 by omega) hl.2 w' F1 F1 hR1.2.1.2.2.1 (by rw [← en]; exact hR1.2.2.2.1.1) (by rw [← en]; exact hR1.ace.1) (by rw [← en]; exact hR1.ace.2))
    have hmr := (hwi 0).2
    have jn_311 : ∀ (wt : Int), (0 ≤ wt ∧ wt ≤ 41) → ((wt = 41 ∧ 41 ≤ mW 40 u F1 cost leaf) ∨ (wt ≤ 40 ∧ mW 40 u F1 cost leaf = wt)) → R X (SH T1) 8 49 311 [some (vr (xV X) 0), some (vr (xV X) t), some (vi leaf), some (vi cost), none, none, none, some (vi 1), some (vr (xV X) w), some (vi wt), none, none] [] (rfT t (F t 0) wt.toNat F1) (ZE X 1 (fun r s F' => ∃ g, s = SH (T ++ g) ∧ (r = 1 ∧ Rl u v K F' t ∧ ∀ q : Int, 136 ≤ q → q < 136 + T.length → F' q = F q)) 12 70) := by
      intro wt jv311_0 jv311_1
      have ek : ∀ a : Int, (a < t + 9 ∨ t + 11 < a) → rfT t (F t 0) wt.toNat F1 a = F1 a := fun a h => rfT_k (by omega) (by omega) (by omega) _ _
      have hCw : CI 40 u v K (rfT t (F t 0) wt.toNat F1) := hR1.2.1.fr hR.1 (fun a h => ek a (by omega)) (fun a h1 h2 => ek a (by omega))
      have hu0 : rfT t (F t 0) wt.toNat F1 u 0 = F t 0 := by rw [ek u (by omega), hR1.2.2.2.1.1, en]
      have hlfw : rfT t (F t 0) wt.toNat F1 (u + 4) leaf = 0 := by rw [ek (u + 4) (by omega), hk1 (u + 4) (by omega)]; exact hlf
      have jn_355 : ((0 : Int) = 0) → R X (SH T1) 8 49 355 [some (vr (xV X) 0), some (vr (xV X) t), some (vi leaf), some (vi cost), none, none, none, none, some (vr (xV X) w), none, none, none] [] (rfT t (F t 0) wt.toNat F1) (ZE X 1 (fun r s F' => ∃ g, s = SH (T ++ g) ∧ (r = 1 ∧ Rl u v K F' t ∧ ∀ q : Int, 136 ≤ q → q < 136 + T.length → F' q = F q)) 12 70) := by
        intro jv355_0
        refine R_iconst hX dL_asked_355 ?_
        refine R_goto (tgt := 360) hX dL_asked_356 (by decide) ?_
        refine R_istore_7 hX c1_n dL_asked_360 ?_
        have hWw : WS T1 (rfT t (F t 0) wt.toNat F1) t w (fun k => w + 1 + k) := ⟨hW1.1, hW1.2.1, fun k k0 k1 => ⟨by rw [ek w (by omega)]; exact (hW1.2.2 k k0 k1).1, (hW1.2.2 k k0 k1).2.1, (hW1.2.2 k k0 k1).2.2⟩⟩
        refine R_aload_1 hX dL_asked_362 ?_
        refine R_aload_8 hX dL_asked_363 ?_
        refine R_callSE (As := [_, _]) hX dL_asked_365 li_L_292 mk_L_back ms_L_back (e_back hS hWw) ⟨⟨by decide, by decide⟩, by omega, by omega, rfl, rfl, (by first | decide | exact Nat.zero_le _)⟩ (fun x_365 s_365 F_365 d_365 h_365 hl_365 hd_365 => ?_)
        obtain ⟨g_365, rfl, h_365⟩ := h_365
        obtain ⟨hb_365, hq_365⟩ := h_365
        have hH : ∀ q : Int, q < 136 + T1.length → F_365 q = F1 q := bk_all (G := rfT t (F t 0) wt.toNat F1) (w := w) (by omega) hb_365 hq_365 (fun k k0 k1 => by rw [ek _ (by omega), hc1 k k0 k1, hk1 _ (by omega)]) (fun a i h h1 h2 => rfT_out (by omega) _ _) (fun q h1 h2 => ek q (by omega))
        have hR2 : Rl u v K F_365 t := hR1.fr (fun a h => hH a (by omega)) (fun a h1 h2 => hH a (by omega)) (fun a h1 h2 => hH a (by omega))
        have hV2 : TrV F_365 t := hV1.up (by omega) hH
        have hQ2 : TQ (T1 ++ g_365) F_365 t := hQ1.up2 hV1 (by omega) hH
        have hlt2 : T1.length ≤ (T1 ++ g_365).length := by rw [List.length_append]; omega
        have en2 : F_365 t 0 = F t 0 := by rw [hH t (by omega)]; exact en
        clear hl_365 hb_365 hq_365
        refine R_iconst hX dL_asked_368 ?_
        refine R_istore_11 hX c1_n dL_asked_369 ?_
        have lp_371 : ∀ (n : Nat) (G : Hp) (many : Int), ((0 ≤ many ∧ many + G (t + 11) leaf ≤ 20) ∧ TrV G t) → (snC t leaf cost 999 F_365 = ((snC t leaf cost (999 - many).toNat G).1 + many, (snC t leaf cost (999 - many).toNat G).2)) → (∀ q : Int, (q < t + 9 ∨ t + 15 < q) → G q = F_365 q) → (∀ q i : Int, (i < 0 ∨ 6 ≤ i) → G q i = F_365 q i) → (22 - many).toNat < n → R X (SH (T1 ++ g_365)) (8 + d_365) (49 + 7) 371 [some (vr (xV X) 0), some (vr (xV X) t), some (vi leaf), some (vi cost), none, none, none, some (vi 1), some (vr (xV X) w), none, none, some (vi many)] [] G (ZE X 1 (fun r s F' => ∃ g, s = SH (T ++ g) ∧ (r = 1 ∧ Rl u v K F' t ∧ ∀ q : Int, 136 ≤ q → q < 136 + T.length → F' q = F q)) 12 70) := by
          intro n
          induction n with
          | zero => intro G many iv371_0 iv371_1 iv371_2 iv371_3 hm; exact absurd hm (Nat.not_lt_zero _)
          | succ n ih_371 =>
            intro G many iv371_0 iv371_1 iv371_2 iv371_3 hm_371
            have hVG := iv371_0.2
            have hGk := iv371_2
            have hGo := iv371_3
            have hlG : 0 ≤ leaf ∧ leaf < G t 0 := by rw [hGk t (by omega), en2]; exact hl
            have hacG := hVG.ac leaf hlG.1 hlG.2
            refine R_aload_1 hX dL_asked_371 ?_
            refine R_iload_2 hX dL_asked_372 ?_
            refine R_iload_3 hX dL_asked_373 ?_
            refine R_v2i hX dL_asked_374 li_L_186 mk_X12_lender mi_X12_lender rfl (hS.o.up) (c_tLender hS.up hVG hlG ⟨by omega, by omega⟩) ⟨⟨by decide, by decide⟩, by omega, by omega, rfl, Nat.le_of_ble_eq_true rfl, rfl⟩ (fun x_374 F_374 h_374 => ?_)
            obtain ⟨h_374, e_374⟩ := h_374; replace e_374 := e_374.symm; subst e_374
            have hlrg := lnT_rng hVG (c := cost) hlG.2
            refine R_iflt (tgt := 392) hX dL_asked_377 (by decide) ⟨by omega, by omega⟩ (fun c_377 => ?_) (fun c_377 => ?_)
            · skip
              have hz : lnT t G leaf cost = -2 := by have := lnT_rng hVG (c := cost) hlG.2; omega
              have hmany : (pofS 64 u leaf cost 999 (acT 40 64 G)).1 = many := by
                rw [rep_eq hR2 hV2 (by rw [en2]; exact hl) (by omega) (fun a h => hGk a (by omega)), iv371_1, snC_stop hz]
                show 0 + many = many
                omega
              have hCG : CI 40 u v K G := hR2.2.1.fr hR.1 (fun a h => hGk a (by omega)) (fun a h1 h2 => hGk a (by omega))
              have hlfG : G (u + 4) leaf = 0 := by rw [hGk (u + 4) (by omega), hH (u + 4) (by omega), hk1 (u + 4) (by omega)]; exact hlf
              have huG : G u 0 = F t 0 := by rw [hGk u (by omega), hR2.2.2.2.1.1, en2]
              refine R_iload_7 hX dL_asked_392 ?_
              refine R_ifeq (tgt := 412) hX dL_asked_394 (by decide) ⟨by omega, by omega⟩ (fun c_394 => ?_) (fun c_394 => ?_)
              · exact absurd c_394 (by decide)
              · skip
                refine R_aload_0 hX dL_asked_397 ?_
                refine R_iload_2 hX dL_asked_398 ?_
                refine R_iload_3 hX dL_asked_399 ?_
                refine R_v2i hX dL_asked_400 li_L_296 mk_X11_repeats mi_X11_repeats rfl o_0 (c_repeats rfl hu hCG rfl ⟨by omega, by omega⟩ ⟨by omega, by omega⟩) ⟨⟨by decide, by decide⟩, by omega, by omega, rfl, Nat.le_of_ble_eq_true rfl, rfl⟩ (fun x_400 F_400 h_400 => ?_)
                rcases h_400 with ⟨h_400, _⟩ | ⟨_, h_400, hF_400⟩
                · exact absurd ⟨hl.1, by omega, hlfG, by omega, by omega⟩ h_400
                have kr : ∀ a : Int, (a < 69 ∨ 71 < a) → F_400 a = G a := fun a h => by rw [hF_400, pofS_r (by omega), acT_r (by omega)]
                have hWG : WS (T1 ++ g_365) F_400 t w (fun k => w + 1 + k) := ⟨hW1.1.up, hW1.2.1, fun k k0 k1 => ⟨by rw [kr w (by omega), hGk w (by omega), hH w (by omega)]; exact (hW1.2.2 k k0 k1).1, (hW1.2.2 k k0 k1).2.1.up, (hW1.2.2 k k0 k1).2.2⟩⟩
                clear hF_400
                refine R_iload_11 hX dL_asked_403 ?_
                refine R_icmpneS (tgt := 412) hX dL_asked_405 (by decide) (by rw [h_400]; exact hmany) ?_
                refine R_iconst hX dL_asked_408 ?_
                refine R_goto (tgt := 413) hX dL_asked_409 (by decide) ?_
                refine R_istore_7 hX c1_n dL_asked_413 ?_
                refine R_aload_1 hX dL_asked_415 ?_
                refine R_aload_8 hX dL_asked_416 ?_
                refine R_callSE (As := [_, _]) hX dL_asked_418 li_L_292 mk_L_back ms_L_back (e_back hS.up hWG) ⟨⟨by decide, by decide⟩, by omega, by omega, rfl, rfl, (by first | decide | exact Nat.zero_le _)⟩ (fun x_418 s_418 F_418 d_418 h_418 hl_418 hd_418 => ?_)
                obtain ⟨g_418, rfl, h_418⟩ := h_418
                obtain ⟨hb_418, hq_418⟩ := h_418
                have hH3 : ∀ q : Int, 72 ≤ q → q < 136 + T1.length → F_418 q = F_365 q := fun q z1 z2 => (bk_all (F0 := fun a => if a < 72 then F_400 a else F_365 a) (G := F_400) (w := w) (B := 136 + T1.length) (by omega) hb_418 (fun q h1 h2 => hq_418 q h1 (by omega)) (fun k k0 k1 => by have := hr7 k k0 k1; rw [kr _ (by omega), hGk _ (by omega), hH _ (by omega), hc1 k k0 k1, if_neg (by omega), hH _ (by omega), hk1 _ (by omega)]) (fun a i h h1 h2 => by show _ = (if a < 72 then F_400 a else F_365 a) i; rw [if_neg (by omega), kr a (by omega)]; exact hGo a i h) (fun q h1 h2 => by by_cases y : q < 72; (rw [if_pos y]); (rw [if_neg y, kr q (by omega)]; exact hGk q (by omega))) q z2).trans (if_neg (by omega))
                have hL3 : ∀ q : Int, q < 64 → F_418 q = F_365 q := fun q z1 => by rw [hq_418 q (by omega) (by omega), kr q (by omega), hGk q (by omega)]
                have hR3 : Rl u v K F_418 t := hR2.fr (fun a h => hL3 a h) (fun a h1 h2 => hH3 a (by omega) (by omega)) (fun a h1 h2 => hH3 a (by omega) (by omega))
                have hV3 : TrV F_418 t := hV2.fr2 (fun a h1 h2 => hH3 a (by omega) (by omega))
                have hQ3 : TQ (T1 ++ g_365 ++ g_418) F_418 t := by
                  refine hQ2.up (by rw [hH3 t (by omega) (by omega)]) (hH3 _ (by omega) (by omega)) (hH3 _ (by omega) (by omega)) (fun k k0 k1 => ?_)
                  have := (hQ1.2.2 k k0 (by omega)).2.1.ltT
                  have := (hQ1.2.2 k k0 (by omega)).2.1.ge (by omega)
                  rw [hH3 _ (by omega) (by omega)]
                clear hl_418 hb_418 hq_418
                refine R_iload_7 hX dL_asked_421 ?_
                refine R_ifeq (tgt := 438) hX dL_asked_423 (by decide) ⟨by omega, by omega⟩ (fun c_423 => ?_) (fun c_423 => ?_)
                · exact absurd c_423 (by decide)
                · skip
                  refine R_aload_0 hX dL_asked_426 ?_
                  refine R_aload_1 hX dL_asked_427 ?_
                  refine R_s2i hX dL_asked_428 li_L_172 mk_L_same ms_L_same (c_same hR3 hS.up.up hV3 hQ3) ⟨⟨by decide, by decide⟩, by omega, by omega, rfl, Nat.le_of_ble_eq_true rfl, rfl⟩ (fun x_428 F_428 h_428 => ?_)
                  obtain ⟨h_428, e_428⟩ := h_428; replace e_428 := e_428.symm; subst e_428
                  refine R_ifeq (tgt := 438) hX dL_asked_431 (by decide) ⟨by omega, by omega⟩ (fun c_431 => ?_) (fun c_431 => ?_)
                  · exact absurd c_431 (by omega)
                  · skip
                    refine R_iconst hX dL_asked_434 ?_
                    refine R_goto (tgt := 439) hX dL_asked_435 (by decide) ?_
                    exact R_zretE hX (by omega) dL_asked_439 ⟨by omega, by omega⟩ (by obtain ⟨g, hg⟩ := hg1; exact ⟨_, by rw [hg]; simp only [List.append_assoc]; rfl, rfl, hR3, fun q q0 q1 => by rw [hH3 q (by omega) (by omega), hH q (by omega), hk1 q q1]⟩)
            · skip
              have hne : lnT t G leaf cost ≠ -2 := by omega
              have hle := lnT_ok hVG hlG.2 hne
              refine R_aload_1 hX dL_asked_380 ?_
              refine R_iload_2 hX dL_asked_381 ?_
              refine R_iload_3 hX dL_asked_382 ?_
              refine R_v2v hX dL_asked_383 li_L_190 mk_X12_send mi_X12_send rfl (hS.o.up) (c_tSend hS.up hVG hlG ⟨by omega, by omega⟩ hne) ⟨⟨by decide, by decide⟩, by omega, by omega, rfl, Nat.le_of_ble_eq_true rfl, rfl⟩ (fun x_383 F_383 h_383 => ?_)
              subst h_383
              refine R_iinc_11 hX c1_n dL_asked_386 ?_
              refine R_goto (tgt := 371) hX dL_asked_389 (by decide) ?_
              exact ih_371 _ _ ⟨(by
                have z := (snT_5 (t := t) (leaf := leaf) (l := lnT t G leaf cost) (c := cost) (i := leaf) (G := G)).2.2
                rw [if_pos (onP_self hl.1 (by omega))] at z
                have z2 := hle.2.2.2 leaf (onP_self hl.1 (by omega))
                omega), hVG.snd hlG (by omega) hne⟩ (by rw [iv371_1, snC_go (k := (999 - many).toNat) (by omega) hne, show (999 - many).toNat - 1 = (999 - (many + 1)).toNat by omega]; congr 1; omega) (fun q h => by rw [snT_r h]; exact hGk q h) (fun q i h => by rw [snT_out hVG.tr hlG.2 hle.1 (by omega)]; exact hGo q i h) (by omega)
        exact lp_371 23 _ _ ⟨(by have := hV2.ac leaf hl.1 (by rw [en2]; exact hl.2); omega), hV2⟩ (by rw [show ((999 : Int) - 0).toNat = 999 by omega, Int.add_zero]) (fun _ _ => rfl) (fun _ _ _ => rfl) (by omega)
      refine R_aload_0 hX dL_asked_311 ?_
      refine R_iload_2 hX dL_asked_312 ?_
      refine R_iload_3 hX dL_asked_313 ?_
      refine R_v2i hX dL_asked_314 li_L_289 mk_X11_waitTime mi_X11_waitTime rfl o_0 (c_waitTime rfl hu hCw ⟨by omega, by omega⟩ ⟨by omega, by omega⟩) ⟨⟨by decide, by decide⟩, by omega, by omega, rfl, Nat.le_of_ble_eq_true rfl, rfl⟩ (fun x_314 F_314 h_314 => ?_)
      obtain ⟨h_314, e_314⟩ := h_314; replace e_314 := e_314.symm; subst e_314
      rw [hu0, if_pos ⟨hl.1, hl.2, hlfw, by omega, by omega⟩, wtA_row (F := F1) hu (fun a h => ek a (by omega))] at h_314
      have htold : (wt ≤ 40 → x_314 = wt) ∧ (wt = 41 → x_314 = -2 ∨ 40 < x_314) ∧ (-2 ≤ x_314 ∧ x_314 ≤ 1001) := by
        rw [h_314]
        split <;> omega
      refine R_istore_10 hX c1_i dL_asked_317 ?_
      refine R_iload_7 hX dL_asked_319 ?_
      refine R_ifeq (tgt := 359) hX dL_asked_321 (by decide) ⟨by omega, by omega⟩ (fun c_321 => ?_) (fun c_321 => ?_)
      · exact absurd c_321 (by decide)
      · skip
        refine R_iload_9 hX dL_asked_324 ?_
        refine R_bipush hX dL_asked_326 (by decide) ?_
        refine R_icmpgt (tgt := 341) hX dL_asked_328 (by decide) ⟨by omega, by omega⟩ ⟨by omega, by omega⟩ (fun c_328 => ?_) (fun c_328 => ?_)
        · skip
          refine R_iload_10 hX dL_asked_341 ?_
          refine R_bipush hX dL_asked_343 (by decide) ?_
          refine R_icmpeq (tgt := 355) hX dL_asked_345 (by decide) ⟨by omega, by omega⟩ ⟨by omega, by omega⟩ (fun c_345 => ?_) (fun c_345 => ?_)
          · skip
            refine R_drop_7 ?_
            refine R_drop_9 ?_
            refine R_drop_10 ?_
            exact jn_355 rfl
          · skip
            refine R_iload_10 hX dL_asked_348 ?_
            refine R_bipush hX dL_asked_350 (by decide) ?_
            refine R_icmple (tgt := 359) hX dL_asked_352 (by decide) ⟨by omega, by omega⟩ ⟨by omega, by omega⟩ (fun c_352 => ?_) (fun c_352 => ?_)
            · exact absurd c_352 (by omega)
            · skip
              refine R_drop_7 ?_
              refine R_drop_9 ?_
              refine R_drop_10 ?_
              exact jn_355 rfl
        · skip
          refine R_iload_10 hX dL_asked_331 ?_
          refine R_iload_9 hX dL_asked_333 ?_
          refine R_icmpneS (tgt := 359) hX dL_asked_335 (by decide) (by rw [h_314]; omega) ?_
          refine R_goto (tgt := 355) hX dL_asked_338 (by decide) ?_
          refine R_drop_7 ?_
          refine R_drop_9 ?_
          refine R_drop_10 ?_
          exact jn_355 rfl
    refine R_iconst hX dL_asked_282 ?_
    refine R_istore_9 hX c1_r dL_asked_283 ?_
    have lp_285 : ∀ (n : Nat) (wt : Int), ((0 ≤ wt ∧ wt ≤ 41) ∧ wt ≤ mW 40 u F1 cost leaf) → (42 - wt).toNat < n → R X (SH T1) 8 49 285 [some (vr (xV X) 0), some (vr (xV X) t), some (vi leaf), some (vi cost), none, none, none, some (vi 1), some (vr (xV X) w), some (vi wt), none, none] [] (rfT t (F t 0) wt.toNat F1) (ZE X 1 (fun r s F' => ∃ g, s = SH (T ++ g) ∧ (r = 1 ∧ Rl u v K F' t ∧ ∀ q : Int, 136 ≤ q → q < 136 + T.length → F' q = F q)) 12 70) := by
      intro n
      induction n with
      | zero => intro wt iv285_0 hm; exact absurd hm (Nat.not_lt_zero _)
      | succ n ih_285 =>
        intro wt iv285_0 hm_285
        have hVw : TrV (rfT t (F t 0) wt.toNat F1) t := rfT_V _ _ en hV1
        have hlw : 0 ≤ leaf ∧ leaf < rfT t (F t 0) wt.toNat F1 t 0 := by rw [rfT_k (by omega) (by omega) (by omega), en]; exact hl
        refine R_iload_9 hX dL_asked_285 ?_
        refine R_bipush hX dL_asked_287 (by decide) ?_
        refine R_icmpgt (tgt := 311) hX dL_asked_289 (by decide) ⟨by omega, by omega⟩ ⟨by omega, by omega⟩ (fun c_289 => ?_) (fun c_289 => ?_)
        · skip
          exact jn_311 _ (by omega) (by left; omega)
        · skip
          refine R_aload_1 hX dL_asked_292 ?_
          refine R_iload_2 hX dL_asked_293 ?_
          refine R_iload_3 hX dL_asked_294 ?_
          refine R_v2i hX dL_asked_295 li_L_186 mk_X12_lender mi_X12_lender rfl hS.o (c_tLender hS hVw hlw ⟨by omega, by omega⟩) ⟨⟨by decide, by decide⟩, by omega, by omega, rfl, Nat.le_of_ble_eq_true rfl, rfl⟩ (fun x_295 F_295 h_295 => ?_)
          obtain ⟨h_295, e_295⟩ := h_295; replace e_295 := e_295.symm; subst e_295
          have hlrw := lnT_rng hVw (c := cost) hlw.2
          refine R_ifge (tgt := 311) hX dL_asked_298 (by decide) ⟨by omega, by omega⟩ (fun c_298 => ?_) (fun c_298 => ?_)
          · skip
            exact jn_311 _ (by omega) (by right; have z := (hwi wt.toNat).1; have y : ¬ lnT t (rfT t (F t 0) wt.toNat F1) leaf cost = -2 := (by rw [← h_295]; omega); rw [z] at y; omega)
          · skip
            refine R_aload_1 hX dL_asked_301 ?_
            refine R_v0v hX dL_asked_302 li_L_286 mk_X12_refill mi_X12_refill rfl hS.o (c_tRefill hS hVw) ⟨⟨by decide, by decide⟩, by omega, by omega, rfl, Nat.le_of_ble_eq_true rfl, rfl⟩ (fun x_302 F_302 h_302 => ?_)
            subst h_302
            refine R.eq rfl rfl (rfT_next (by omega) en) ?_
            refine R_iinc_9 hX c1_r dL_asked_305 ?_
            refine R_goto (tgt := 285) hX dL_asked_308 (by decide) ?_
            exact ih_285 _ (by have z := (hwi wt.toNat).1; have y := lnT_rng hVw (c := cost) hlw.2; have y2 : lnT t (rfT t (F t 0) wt.toNat F1) leaf cost = -2 := (by omega); rw [z] at y2; omega) (by omega)
    exact lp_285 43 _ (by omega) (by omega)
  have jn_181 : ((0 : Int) = 0) → R X (SH T) 0 0 181 [some (vr (xV X) 0), some (vr (xV X) t), some (vi leaf), some (vi cost), none, none, none, none, none, none, none, none] [vi 1] F (ZE X 1 (fun r s F' => ∃ g, s = SH (T ++ g) ∧ (r = 1 ∧ Rl u v K F' t ∧ ∀ q : Int, 136 ≤ q → q < 136 + T.length → F' q = F q)) 12 70) := by
    intro jv181_0
    refine R_istore_7 hX c1_n dL_asked_181 ?_
    refine R_bipush hX dL_asked_183 (by decide) ?_
    refine R_anewAT (n := 7) hX rfl cl_L_281 (by decide) ⟨by omega, by omega⟩ dL_asked_185 (fun n_185 hn_185 => ?_)
    refine R_dup hX c1_r dL_asked_188 ?_
    refine R_iconst hX dL_asked_189 ?_
    refine R_aload_1 hX dL_asked_190 ?_
    refine R_getNq (v := t + 9) hX dL_asked_191 fn_L_70 (hS.o.up) rfl (by omega) ?_
    refine R_cloneI (n := 6) hX dL_asked_194 oc_L_282 (hS.a9.up) ⟨by omega, by omega, by omega, by omega, rfl, (by simp [vi_cat, vl_cat, vr_cat, rf_cat])⟩ (fun n_194 hn_194 => ?_)
    refine R_castA (ty := .int) hX (Or.inl rfl) dL_asked_197 cl_L_281 (isA.newT (by decide) hn_194) ?_
    refine R_aastA hX dL_asked_200 ((isA.newT (by decide) hn_185).up) ⟨by omega, by omega⟩ (isA.newT (by decide) hn_194) ?_
    have ha_194 : isA (SH ((T ++ [.inr (.array .int, 7)]) ++ [.inr (.int, 6)])) n_194 .int 6 := isA.newT (by decide) hn_194
    have e_194 : n_194 = n_185 + 1 + 0 := by
      simp only [List.length_append, List.length_cons, List.length_nil] at hn_194
      omega
    refine R.gen (fun G_194 hG_194 => ?_)
    have hC_194 : CLI F G_194 t n_185 1 := by rw [hG_194]; exact CLI.next CLI.z (by omega) (by omega) (by omega) e_194
    rw [e_194] at ha_194
    clear hG_194 hn_194 e_194
    refine R_dup hX c1_r dL_asked_201 ?_
    refine R_iconst hX dL_asked_202 ?_
    refine R_aload_1 hX dL_asked_203 ?_
    refine R_getNq (v := t + 10) hX dL_asked_204 fn_L_76 (hS.o.up.up) rfl (by omega) ?_
    refine R_cloneI (n := 6) hX dL_asked_207 oc_L_282 (hS.a10.up.up) ⟨by omega, by omega, by omega, by omega, rfl, (by simp [vi_cat, vl_cat, vr_cat, rf_cat])⟩ (fun n_207 hn_207 => ?_)
    refine R_castA (ty := .int) hX (Or.inl rfl) dL_asked_210 cl_L_281 (isA.newT (by decide) hn_207) ?_
    refine R_aastA hX dL_asked_213 ((isA.newT (by decide) hn_185).up.up) ⟨by omega, by omega⟩ (isA.newT (by decide) hn_207) ?_
    have ha_207 : isA (SH (((T ++ [.inr (.array .int, 7)]) ++ [.inr (.int, 6)]) ++ [.inr (.int, 6)])) n_207 .int 6 := isA.newT (by decide) hn_207
    have e_207 : n_207 = n_185 + 1 + 1 := by
      simp only [List.length_append, List.length_cons, List.length_nil] at hn_207
      omega
    refine R.gen (fun G_207 hG_207 => ?_)
    have hC_207 : CLI F G_207 t n_185 2 := by rw [hG_207]; exact CLI.next hC_194 (by omega) (by omega) (by omega) e_207
    rw [e_207] at ha_207
    clear hG_207 hn_207 e_207
    clear hC_194
    refine R_dup hX c1_r dL_asked_214 ?_
    refine R_iconst hX dL_asked_215 ?_
    refine R_aload_1 hX dL_asked_216 ?_
    refine R_getNq (v := t + 11) hX dL_asked_217 fn_L_81 (hS.o.up.up.up) rfl (by omega) ?_
    refine R_cloneI (n := 6) hX dL_asked_220 oc_L_282 (hS.a11.up.up.up) ⟨by omega, by omega, by omega, by omega, rfl, (by simp [vi_cat, vl_cat, vr_cat, rf_cat])⟩ (fun n_220 hn_220 => ?_)
    refine R_castA (ty := .int) hX (Or.inl rfl) dL_asked_223 cl_L_281 (isA.newT (by decide) hn_220) ?_
    refine R_aastA hX dL_asked_226 ((isA.newT (by decide) hn_185).up.up.up) ⟨by omega, by omega⟩ (isA.newT (by decide) hn_220) ?_
    have ha_220 : isA (SH ((((T ++ [.inr (.array .int, 7)]) ++ [.inr (.int, 6)]) ++ [.inr (.int, 6)]) ++ [.inr (.int, 6)])) n_220 .int 6 := isA.newT (by decide) hn_220
    have e_220 : n_220 = n_185 + 1 + 2 := by
      simp only [List.length_append, List.length_cons, List.length_nil] at hn_220
      omega
    refine R.gen (fun G_220 hG_220 => ?_)
    have hC_220 : CLI F G_220 t n_185 3 := by rw [hG_220]; exact CLI.next hC_207 (by omega) (by omega) (by omega) e_220
    rw [e_220] at ha_220
    clear hG_220 hn_220 e_220
    clear hC_207
    refine R_dup hX c1_r dL_asked_227 ?_
    refine R_iconst hX dL_asked_228 ?_
    refine R_aload_1 hX dL_asked_229 ?_
    refine R_getNq (v := t + 12) hX dL_asked_230 fn_L_101 (hS.o.up.up.up.up) rfl (by omega) ?_
    refine R_cloneI (n := 6) hX dL_asked_233 oc_L_282 (hS.a12.up.up.up.up) ⟨by omega, by omega, by omega, by omega, rfl, (by simp [vi_cat, vl_cat, vr_cat, rf_cat])⟩ (fun n_233 hn_233 => ?_)
    refine R_castA (ty := .int) hX (Or.inl rfl) dL_asked_236 cl_L_281 (isA.newT (by decide) hn_233) ?_
    refine R_aastA hX dL_asked_239 ((isA.newT (by decide) hn_185).up.up.up.up) ⟨by omega, by omega⟩ (isA.newT (by decide) hn_233) ?_
    have ha_233 : isA (SH (((((T ++ [.inr (.array .int, 7)]) ++ [.inr (.int, 6)]) ++ [.inr (.int, 6)]) ++ [.inr (.int, 6)]) ++ [.inr (.int, 6)])) n_233 .int 6 := isA.newT (by decide) hn_233
    have e_233 : n_233 = n_185 + 1 + 3 := by
      simp only [List.length_append, List.length_cons, List.length_nil] at hn_233
      omega
    refine R.gen (fun G_233 hG_233 => ?_)
    have hC_233 : CLI F G_233 t n_185 4 := by rw [hG_233]; exact CLI.next hC_220 (by omega) (by omega) (by omega) e_233
    rw [e_233] at ha_233
    clear hG_233 hn_233 e_233
    clear hC_220
    refine R_dup hX c1_r dL_asked_240 ?_
    refine R_iconst hX dL_asked_241 ?_
    refine R_aload_1 hX dL_asked_242 ?_
    refine R_getNq (v := t + 13) hX dL_asked_243 fn_L_107 (hS.o.up.up.up.up.up) rfl (by omega) ?_
    refine R_cloneI (n := 6) hX dL_asked_246 oc_L_282 (hS.a13.up.up.up.up.up) ⟨by omega, by omega, by omega, by omega, rfl, (by simp [vi_cat, vl_cat, vr_cat, rf_cat])⟩ (fun n_246 hn_246 => ?_)
    refine R_castA (ty := .int) hX (Or.inl rfl) dL_asked_249 cl_L_281 (isA.newT (by decide) hn_246) ?_
    refine R_aastA hX dL_asked_252 ((isA.newT (by decide) hn_185).up.up.up.up.up) ⟨by omega, by omega⟩ (isA.newT (by decide) hn_246) ?_
    have ha_246 : isA (SH ((((((T ++ [.inr (.array .int, 7)]) ++ [.inr (.int, 6)]) ++ [.inr (.int, 6)]) ++ [.inr (.int, 6)]) ++ [.inr (.int, 6)]) ++ [.inr (.int, 6)])) n_246 .int 6 := isA.newT (by decide) hn_246
    have e_246 : n_246 = n_185 + 1 + 4 := by
      simp only [List.length_append, List.length_cons, List.length_nil] at hn_246
      omega
    refine R.gen (fun G_246 hG_246 => ?_)
    have hC_246 : CLI F G_246 t n_185 5 := by rw [hG_246]; exact CLI.next hC_233 (by omega) (by omega) (by omega) e_246
    rw [e_246] at ha_246
    clear hG_246 hn_246 e_246
    clear hC_233
    refine R_dup hX c1_r dL_asked_253 ?_
    refine R_iconst hX dL_asked_254 ?_
    refine R_aload_1 hX dL_asked_255 ?_
    refine R_getNq (v := t + 14) hX dL_asked_256 fn_L_113 (hS.o.up.up.up.up.up.up) rfl (by omega) ?_
    refine R_cloneI (n := 6) hX dL_asked_259 oc_L_282 (hS.a14.up.up.up.up.up.up) ⟨by omega, by omega, by omega, by omega, rfl, (by simp [vi_cat, vl_cat, vr_cat, rf_cat])⟩ (fun n_259 hn_259 => ?_)
    refine R_castA (ty := .int) hX (Or.inl rfl) dL_asked_262 cl_L_281 (isA.newT (by decide) hn_259) ?_
    refine R_aastA hX dL_asked_265 ((isA.newT (by decide) hn_185).up.up.up.up.up.up) ⟨by omega, by omega⟩ (isA.newT (by decide) hn_259) ?_
    have ha_259 : isA (SH (((((((T ++ [.inr (.array .int, 7)]) ++ [.inr (.int, 6)]) ++ [.inr (.int, 6)]) ++ [.inr (.int, 6)]) ++ [.inr (.int, 6)]) ++ [.inr (.int, 6)]) ++ [.inr (.int, 6)])) n_259 .int 6 := isA.newT (by decide) hn_259
    have e_259 : n_259 = n_185 + 1 + 5 := by
      simp only [List.length_append, List.length_cons, List.length_nil] at hn_259
      omega
    refine R.gen (fun G_259 hG_259 => ?_)
    have hC_259 : CLI F G_259 t n_185 6 := by rw [hG_259]; exact CLI.next hC_246 (by omega) (by omega) (by omega) e_259
    rw [e_259] at ha_259
    clear hG_259 hn_259 e_259
    clear hC_246
    refine R_dup hX c1_r dL_asked_266 ?_
    refine R_bipush hX dL_asked_267 (by decide) ?_
    refine R_aload_1 hX dL_asked_269 ?_
    refine R_getNq (v := t + 15) hX dL_asked_270 fn_L_87 (hS.o.up.up.up.up.up.up.up) rfl (by omega) ?_
    refine R_cloneI (n := 6) hX dL_asked_273 oc_L_282 (hS.a15.up.up.up.up.up.up.up) ⟨by omega, by omega, by omega, by omega, rfl, (by simp [vi_cat, vl_cat, vr_cat, rf_cat])⟩ (fun n_273 hn_273 => ?_)
    refine R_castA (ty := .int) hX (Or.inl rfl) dL_asked_276 cl_L_281 (isA.newT (by decide) hn_273) ?_
    refine R_aastA hX dL_asked_279 ((isA.newT (by decide) hn_185).up.up.up.up.up.up.up) ⟨by omega, by omega⟩ (isA.newT (by decide) hn_273) ?_
    have ha_273 : isA (SH ((((((((T ++ [.inr (.array .int, 7)]) ++ [.inr (.int, 6)]) ++ [.inr (.int, 6)]) ++ [.inr (.int, 6)]) ++ [.inr (.int, 6)]) ++ [.inr (.int, 6)]) ++ [.inr (.int, 6)]) ++ [.inr (.int, 6)])) n_273 .int 6 := isA.newT (by decide) hn_273
    have e_273 : n_273 = n_185 + 1 + 6 := by
      simp only [List.length_append, List.length_cons, List.length_nil] at hn_273
      omega
    refine R.gen (fun G_273 hG_273 => ?_)
    have hC_273 : CLI F G_273 t n_185 7 := by rw [hG_273]; exact CLI.next hC_259 (by omega) (by omega) (by omega) e_273
    rw [e_273] at ha_273
    clear hG_273 hn_273 e_273
    clear hC_259
    refine R_astore_8 hX c1_i dL_asked_280 ?_
    exact jn_282 _ _ _ (⟨_, by simp only [List.append_assoc]; rfl⟩) (fun q h => hC_273.1 q (by omega)) (by
        refine ⟨(isA.newT (by decide) hn_185).up.up.up.up.up.up.up, by omega, fun k k0 k1 => ⟨(hC_273.2 k k0 k1).1, ?_, (show t + 19 < n_185 + 1 + k by omega)⟩⟩
        have e : k = 0 ∨ k = 1 ∨ k = 2 ∨ k = 3 ∨ k = 4 ∨ k = 5 ∨ k = 6 := by omega
        rcases e with rfl | rfl | rfl | rfl | rfl | rfl | rfl
        · exact ha_194.up.up.up.up.up.up
        · exact ha_207.up.up.up.up.up
        · exact ha_220.up.up.up.up
        · exact ha_233.up.up.up
        · exact ha_246.up.up
        · exact ha_259.up
        · exact ha_273) (fun k k0 k1 => (hC_273.2 k k0 k1).2)
  have jn_57 : ∀ (block : Int), (block = blkS (F (t + 11)) (F (t + 1)) cost 13 leaf) → (block = -2 ∨ (0 ≤ block ∧ block < F t 0)) → R X (SH T) 0 0 57 [some (vr (xV X) 0), some (vr (xV X) t), some (vi leaf), some (vi cost), some (vi (lnT t F leaf cost)), some (vi block), none, none, none, none, none, none] [] F (ZE X 1 (fun r s F' => ∃ g, s = SH (T ++ g) ∧ (r = 1 ∧ Rl u v K F' t ∧ ∀ q : Int, 136 ≤ q → q < 136 + T.length → F' q = F q)) 12 70) := by
    intro block jv57_0 jv57_1
    have hblk := jv57_0
    refine R_iconst hX dL_asked_57 ?_
    refine R_istore_6 hX c1_i dL_asked_58 ?_
    refine R_iconst hX dL_asked_60 ?_
    refine R_istore_7 hX c1_i dL_asked_61 ?_
    have lp_63 : ∀ (n : Nat) (most : Int) (j : Int), ((1 ≤ j ∧ j ≤ 100) ∧ (0 ≤ most ∧ most ≤ 99)) → (most = mxS (fun c => lnT t F leaf c) (j - 1).toNat) → (101 - j).toNat < n → R X (SH T) 0 0 63 [some (vr (xV X) 0), some (vr (xV X) t), some (vi leaf), some (vi cost), some (vi (lnT t F leaf cost)), some (vi block), some (vi most), some (vi j), none, none, none, none] [] F (ZE X 1 (fun r s F' => ∃ g, s = SH (T ++ g) ∧ (r = 1 ∧ Rl u v K F' t ∧ ∀ q : Int, 136 ≤ q → q < 136 + T.length → F' q = F q)) 12 70) := by
      intro n
      induction n with
      | zero => intro most j iv63_0 iv63_1 hm; exact absurd hm (Nat.not_lt_zero _)
      | succ n ih_63 =>
        intro most j iv63_0 iv63_1 hm_63
        refine R_iload_7 hX dL_asked_63 ?_
        refine R_bipush hX dL_asked_65 (by decide) ?_
        refine R_icmpge (tgt := 95) hX dL_asked_67 (by decide) ⟨by omega, by omega⟩ ⟨by omega, by omega⟩ (fun c_67 => ?_) (fun c_67 => ?_)
        · skip
          have hmost : most = mxS (fun c => lnT t F leaf c) 99 := by rw [iv63_1, show (j - 1).toNat = 99 by omega]
          refine R_aload_0 hX dL_asked_95 ?_
          refine R_iload_2 hX dL_asked_96 ?_
          refine R_iload_3 hX dL_asked_97 ?_
          refine R_v2i hX dL_asked_98 li_L_139 mk_X11_lender mi_X11_lender rfl o_0 (c_lender rfl hu hC ⟨by omega, by omega⟩ ⟨by omega, by omega⟩) ⟨⟨by decide, by decide⟩, by omega, by omega, rfl, Nat.le_of_ble_eq_true rfl, rfl⟩ (fun x_98 F_98 h_98 => ?_)
          obtain ⟨h_98, e_98⟩ := h_98; replace e_98 := e_98.symm; subst e_98
          refine R_iload_4 hX dL_asked_101 ?_
          refine R_icmpneS (tgt := 180) hX dL_asked_103 (by decide) (by rw [h_98, if_pos ⟨hl.1, by omega, hlf, by omega, by omega⟩]; exact hR.lnd hl.2) ?_
          refine R_aload_0 hX dL_asked_106 ?_
          refine R_iload_2 hX dL_asked_107 ?_
          refine R_iload_3 hX dL_asked_108 ?_
          refine R_v2i hX dL_asked_109 li_L_272 mk_X11_blockingNode mi_X11_blockingNode rfl o_0 (c_blockingNode rfl hu hC ⟨by omega, by omega⟩ ⟨by omega, by omega⟩) ⟨⟨by decide, by decide⟩, by omega, by omega, rfl, Nat.le_of_ble_eq_true rfl, rfl⟩ (fun x_109 F_109 h_109 => ?_)
          obtain ⟨h_109, e_109⟩ := h_109; replace e_109 := e_109.symm; subst e_109
          refine R_iload_5 hX dL_asked_112 ?_
          refine R_icmpneS (tgt := 180) hX dL_asked_114 (by decide) (by rw [h_109, if_pos ⟨hl.1, by omega, hlf, by omega, by omega⟩, hblk]; exact blkS_cong (N := F t 0) hTu (fun i q0 q1 => (hac1 i q0 q1).2.2.1) (fun i q0 q1 => (hac1 i q0 q1).2.2.2.1) 13 leaf hl.2) ?_
          refine R_aload_0 hX dL_asked_117 ?_
          refine R_iload_2 hX dL_asked_118 ?_
          refine R_v1i hX dL_asked_119 li_L_275 mk_X11_greatestCost mi_X11_greatestCost rfl o_0 (c_greatestCost rfl hu hC ⟨by omega, by omega⟩) ⟨⟨by decide, by decide⟩, by omega, by omega, rfl, Nat.le_of_ble_eq_true rfl, rfl⟩ (fun x_119 F_119 h_119 => ?_)
          obtain ⟨h_119, e_119⟩ := h_119; replace e_119 := e_119.symm; subst e_119
          refine R_iload_6 hX dL_asked_122 ?_
          refine R_icmpneS (tgt := 180) hX dL_asked_124 (by decide) (by rw [h_119, if_pos ⟨hl.1, by omega, hlf⟩, hmost]; exact (mxS_gc 99 (fun c _ _ => (hR.lnd hl.2).symm)).symm) ?_
          refine R_aload_0 hX dL_asked_127 ?_
          refine R_iload_2 hX dL_asked_128 ?_
          refine R_iload_3 hX dL_asked_129 ?_
          refine R_v2i hX dL_asked_130 li_L_278 mk_X11_refusal mi_X11_refusal rfl o_0 (c_refusal rfl hu hC ⟨by omega, by omega⟩ ⟨by omega, by omega⟩) ⟨⟨by decide, by decide⟩, by omega, by omega, rfl, Nat.le_of_ble_eq_true rfl, rfl⟩ (fun x_130 F_130 h_130 => ?_)
          obtain ⟨h_130, e_130⟩ := h_130; replace e_130 := e_130.symm; subst e_130
          
          refine R_iload_5 hX dL_asked_133 ?_
          have hbe : blkS (F (40 + 7)) (F (u + 2)) cost 13 leaf = block := by rw [hblk]; exact blkS_cong (N := F t 0) hTu (fun i q0 q1 => (hac1 i q0 q1).2.2.1) (fun i q0 q1 => (hac1 i q0 q1).2.2.2.1) 13 leaf hl.2
          have hle : lndS 40 u F leaf cost = lnT t F leaf cost := hR.lnd hl.2
          refine R_iflt (tgt := 142) hX dL_asked_135 (by decide) ⟨by omega, by omega⟩ (fun c_135 => ?_) (fun c_135 => ?_)
          · skip
            refine R_iload_4 hX dL_asked_142 ?_
            refine R_ifge (tgt := 151) hX dL_asked_144 (by decide) ⟨by omega, by omega⟩ (fun c_144 => ?_) (fun c_144 => ?_)
            · skip
              refine R_iconst hX dL_asked_151 ?_
              refine R_icmpneS (tgt := 180) hX dL_asked_152 (by decide) (by rw [h_130, if_pos ⟨hl.1, by omega, hlf, by omega, by omega⟩, hbe, if_neg (by omega), hle, if_neg (by omega)]) ?_
              refine R_aload_0 hX dL_asked_155 ?_
              refine R_iload_2 hX dL_asked_156 ?_
              refine R_iconst hX dL_asked_157 ?_
              refine R_v2i hX dL_asked_158 li_L_139 mk_X11_lender mi_X11_lender rfl o_0 (c_lender rfl hu hC ⟨by omega, by omega⟩ ⟨by omega, by omega⟩) ⟨⟨by decide, by decide⟩, by omega, by omega, rfl, Nat.le_of_ble_eq_true rfl, rfl⟩ (fun x_158 F_158 h_158 => ?_)
              obtain ⟨h_158, e_158⟩ := h_158; replace e_158 := e_158.symm; subst e_158
              refine R_iconst hX dL_asked_161 ?_
              refine R_icmpneS (tgt := 180) hX dL_asked_162 (by decide) (by rw [h_158, if_neg (by omega)]) ?_
              refine R_aload_0 hX dL_asked_165 ?_
              refine R_iload_2 hX dL_asked_166 ?_
              refine R_bipush hX dL_asked_167 (by decide) ?_
              refine R_v2i hX dL_asked_169 li_L_139 mk_X11_lender mi_X11_lender rfl o_0 (c_lender rfl hu hC ⟨by omega, by omega⟩ ⟨by omega, by omega⟩) ⟨⟨by decide, by decide⟩, by omega, by omega, rfl, Nat.le_of_ble_eq_true rfl, rfl⟩ (fun x_169 F_169 h_169 => ?_)
              obtain ⟨h_169, e_169⟩ := h_169; replace e_169 := e_169.symm; subst e_169
              refine R_iconst hX dL_asked_172 ?_
              refine R_icmpneS (tgt := 180) hX dL_asked_173 (by decide) (by rw [h_169, if_neg (by omega)]) ?_
              refine R_iconst hX dL_asked_176 ?_
              refine R_goto (tgt := 181) hX dL_asked_177 (by decide) ?_
              refine R_drop_4 ?_
              refine R_drop_5 ?_
              refine R_drop_6 ?_
              refine R_drop_7 ?_
              exact jn_181 rfl
            · skip
              refine R_iconst hX dL_asked_147 ?_
              refine R_goto (tgt := 152) hX dL_asked_148 (by decide) ?_
              refine R_icmpneS (tgt := 180) hX dL_asked_152 (by decide) (by rw [h_130, if_pos ⟨hl.1, by omega, hlf, by omega, by omega⟩, hbe, if_neg (by omega), hle, if_pos (by have := lnT_rng hV (c := cost) hl.2; omega)]) ?_
              refine R_aload_0 hX dL_asked_155 ?_
              refine R_iload_2 hX dL_asked_156 ?_
              refine R_iconst hX dL_asked_157 ?_
              refine R_v2i hX dL_asked_158 li_L_139 mk_X11_lender mi_X11_lender rfl o_0 (c_lender rfl hu hC ⟨by omega, by omega⟩ ⟨by omega, by omega⟩) ⟨⟨by decide, by decide⟩, by omega, by omega, rfl, Nat.le_of_ble_eq_true rfl, rfl⟩ (fun x_158 F_158 h_158 => ?_)
              obtain ⟨h_158, e_158⟩ := h_158; replace e_158 := e_158.symm; subst e_158
              refine R_iconst hX dL_asked_161 ?_
              refine R_icmpneS (tgt := 180) hX dL_asked_162 (by decide) (by rw [h_158, if_neg (by omega)]) ?_
              refine R_aload_0 hX dL_asked_165 ?_
              refine R_iload_2 hX dL_asked_166 ?_
              refine R_bipush hX dL_asked_167 (by decide) ?_
              refine R_v2i hX dL_asked_169 li_L_139 mk_X11_lender mi_X11_lender rfl o_0 (c_lender rfl hu hC ⟨by omega, by omega⟩ ⟨by omega, by omega⟩) ⟨⟨by decide, by decide⟩, by omega, by omega, rfl, Nat.le_of_ble_eq_true rfl, rfl⟩ (fun x_169 F_169 h_169 => ?_)
              obtain ⟨h_169, e_169⟩ := h_169; replace e_169 := e_169.symm; subst e_169
              refine R_iconst hX dL_asked_172 ?_
              refine R_icmpneS (tgt := 180) hX dL_asked_173 (by decide) (by rw [h_169, if_neg (by omega)]) ?_
              refine R_iconst hX dL_asked_176 ?_
              refine R_goto (tgt := 181) hX dL_asked_177 (by decide) ?_
              refine R_drop_4 ?_
              refine R_drop_5 ?_
              refine R_drop_6 ?_
              refine R_drop_7 ?_
              exact jn_181 rfl
          · skip
            refine R_iconst hX dL_asked_138 ?_
            refine R_goto (tgt := 152) hX dL_asked_139 (by decide) ?_
            refine R_icmpneS (tgt := 180) hX dL_asked_152 (by decide) (by rw [h_130, if_pos ⟨hl.1, by omega, hlf, by omega, by omega⟩, hbe, if_pos (by omega)]) ?_
            refine R_aload_0 hX dL_asked_155 ?_
            refine R_iload_2 hX dL_asked_156 ?_
            refine R_iconst hX dL_asked_157 ?_
            refine R_v2i hX dL_asked_158 li_L_139 mk_X11_lender mi_X11_lender rfl o_0 (c_lender rfl hu hC ⟨by omega, by omega⟩ ⟨by omega, by omega⟩) ⟨⟨by decide, by decide⟩, by omega, by omega, rfl, Nat.le_of_ble_eq_true rfl, rfl⟩ (fun x_158 F_158 h_158 => ?_)
            obtain ⟨h_158, e_158⟩ := h_158; replace e_158 := e_158.symm; subst e_158
            refine R_iconst hX dL_asked_161 ?_
            refine R_icmpneS (tgt := 180) hX dL_asked_162 (by decide) (by rw [h_158, if_neg (by omega)]) ?_
            refine R_aload_0 hX dL_asked_165 ?_
            refine R_iload_2 hX dL_asked_166 ?_
            refine R_bipush hX dL_asked_167 (by decide) ?_
            refine R_v2i hX dL_asked_169 li_L_139 mk_X11_lender mi_X11_lender rfl o_0 (c_lender rfl hu hC ⟨by omega, by omega⟩ ⟨by omega, by omega⟩) ⟨⟨by decide, by decide⟩, by omega, by omega, rfl, Nat.le_of_ble_eq_true rfl, rfl⟩ (fun x_169 F_169 h_169 => ?_)
            obtain ⟨h_169, e_169⟩ := h_169; replace e_169 := e_169.symm; subst e_169
            refine R_iconst hX dL_asked_172 ?_
            refine R_icmpneS (tgt := 180) hX dL_asked_173 (by decide) (by rw [h_169, if_neg (by omega)]) ?_
            refine R_iconst hX dL_asked_176 ?_
            refine R_goto (tgt := 181) hX dL_asked_177 (by decide) ?_
            refine R_drop_4 ?_
            refine R_drop_5 ?_
            refine R_drop_6 ?_
            refine R_drop_7 ?_
            exact jn_181 rfl
        · skip
          refine R_aload_1 hX dL_asked_70 ?_
          refine R_iload_2 hX dL_asked_71 ?_
          refine R_iload_7 hX dL_asked_72 ?_
          refine R_v2i hX dL_asked_74 li_L_186 mk_X12_lender mi_X12_lender rfl hS.o (c_tLender hS hV hl ⟨by omega, by omega⟩) ⟨⟨by decide, by decide⟩, by omega, by omega, rfl, Nat.le_of_ble_eq_true rfl, rfl⟩ (fun x_74 F_74 h_74 => ?_)
          obtain ⟨h_74, e_74⟩ := h_74; replace e_74 := e_74.symm; subst e_74
          have hlr2 := lnT_rng hV (c := j) hl.2
          refine R_iflt (tgt := 85) hX dL_asked_77 (by decide) ⟨by omega, by omega⟩ (fun c_77 => ?_) (fun c_77 => ?_)
          · skip
            refine R_iload_6 hX dL_asked_85 ?_
            refine R_istore_6 hX c1_i dL_asked_87 ?_
            refine R_iinc_7 hX c1_i dL_asked_89 ?_
            refine R_goto (tgt := 63) hX dL_asked_92 (by decide) ?_
            exact ih_63 _ _ (by omega) (by rw [mxS_s (by omega), if_neg (by rw [← h_74]; have := lnT_rng hV (c := j) hl.2; omega), ← iv63_1]) (by omega)
          · skip
            refine R_iload_7 hX dL_asked_80 ?_
            refine R_goto (tgt := 87) hX dL_asked_82 (by decide) ?_
            refine R_istore_6 hX c1_i dL_asked_87 ?_
            refine R_iinc_7 hX c1_i dL_asked_89 ?_
            refine R_goto (tgt := 63) hX dL_asked_92 (by decide) ?_
            exact ih_63 _ _ (by omega) (by rw [mxS_s (by omega), if_pos (by omega)]) (by omega)
    exact lp_63 102 _ _ (by omega) rfl (by omega)
  refine R_bipush hX dL_asked_8 (by decide) ?_
  refine R_istore_5 hX c1_i dL_asked_10 ?_
  refine R_iload_2 hX dL_asked_12 ?_
  refine R_istore_6 hX c1_i dL_asked_13 ?_
  have lp_15 : ∀ (n : Nat) (k : Nat) (node : Int) (block : Int), ((node < k ∧ node < F t 0 ∧ -2 ≤ node) ∧ (block = -2 ∨ (0 ≤ block ∧ block < F t 0))) → ((0 ≤ block → block = blkS (F (t + 11)) (F (t + 1)) cost 13 leaf) ∧ (block = -2 → blkS (F (t + 11)) (F (t + 1)) cost k node = blkS (F (t + 11)) (F (t + 1)) cost 13 leaf)) → (node + 3).toNat < n → R X (SH T) 0 0 15 [some (vr (xV X) 0), some (vr (xV X) t), some (vi leaf), some (vi cost), some (vi (lnT t F leaf cost)), some (vi block), some (vi node), none, none, none, none, none] [] F (ZE X 1 (fun r s F' => ∃ g, s = SH (T ++ g) ∧ (r = 1 ∧ Rl u v K F' t ∧ ∀ q : Int, 136 ≤ q → q < 136 + T.length → F' q = F q)) 12 70) := by
    intro n
    induction n with
    | zero => intro k node block iv15_0 iv15_1 hm; exact absurd hm (Nat.not_lt_zero _)
    | succ n ih_15 =>
      intro k node block iv15_0 iv15_1 hm_15
      refine R_iload_6 hX dL_asked_15 ?_
      refine R_iflt (tgt := 57) hX dL_asked_17 (by decide) ⟨by omega, by omega⟩ (fun c_17 => ?_) (fun c_17 => ?_)
      · skip
        refine R_drop_6 ?_
        exact jn_57 _ (by have z := blkS_neg (hd := F (t + 11)) (par := F (t + 1)) (c := cost) (k := k) (n := node); rcases iv15_0.2 with y | y; (rw [y, ← iv15_1.2 y, z (by omega)]); exact iv15_1.1 y.1) (by omega)
      · skip
        refine R_iload_5 hX dL_asked_20 ?_
        refine R_ifge (tgt := 57) hX dL_asked_22 (by decide) ⟨by omega, by omega⟩ (fun c_22 => ?_) (fun c_22 => ?_)
        · skip
          refine R_drop_6 ?_
          exact jn_57 _ (iv15_1.1 (by omega)) (by omega)
        · skip
          have htr := hV.tr node (by omega) (by omega)
          have hac := hV.ac node (by omega) (by omega)
          refine R_aload_1 hX dL_asked_25 ?_
          refine R_getNq (v := t + 11) hX dL_asked_26 fn_L_81 hS.o rfl (by omega) ?_
          refine R_iload_6 hX dL_asked_29 ?_
          refine R_iald hX dL_asked_31 hS.a11 ⟨by omega, by omega⟩ ?_
          refine R_iload_3 hX dL_asked_32 ?_
          refine R_icmpge (tgt := 41) hX dL_asked_33 (by decide) ⟨by omega, by omega⟩ ⟨by omega, by omega⟩ (fun c_33 => ?_) (fun c_33 => ?_)
          · skip
            refine R_iload_5 hX dL_asked_41 ?_
            refine R_istore_5 hX c1_i dL_asked_43 ?_
            refine R_aload_1 hX dL_asked_45 ?_
            refine R_getNq (v := t + 1) hX dL_asked_46 fn_L_212 hS.o rfl (by omega) ?_
            refine R_iload_6 hX dL_asked_49 ?_
            refine R_iald hX dL_asked_51 hS.a1 ⟨by omega, by omega⟩ ?_
            refine R_istore_6 hX c1_i dL_asked_52 ?_
            refine R_goto (tgt := 15) hX dL_asked_54 (by decide) ?_
            exact ih_15 (k - 1) _ _ (by omega) ⟨fun z => by omega, fun _ => by rw [← iv15_1.2 (by omega), blkS_up (k := k) (by omega) (by omega) (by omega)]⟩ (by omega)
          · skip
            refine R_iload_6 hX dL_asked_36 ?_
            refine R_goto (tgt := 43) hX dL_asked_38 (by decide) ?_
            refine R_istore_5 hX c1_i dL_asked_43 ?_
            refine R_aload_1 hX dL_asked_45 ?_
            refine R_getNq (v := t + 1) hX dL_asked_46 fn_L_212 hS.o rfl (by omega) ?_
            refine R_iload_6 hX dL_asked_49 ?_
            refine R_iald hX dL_asked_51 hS.a1 ⟨by omega, by omega⟩ ?_
            refine R_istore_6 hX c1_i dL_asked_52 ?_
            refine R_goto (tgt := 15) hX dL_asked_54 (by decide) ?_
            exact ih_15 (k - 1) _ _ (by omega) ⟨fun _ => by rw [← iv15_1.2 (by omega), blkS_hit (by omega) (by omega) (by omega)], fun z => by omega⟩ (by omega)
  exact lp_15 10 13 _ _ (by omega) ⟨fun z => by omega, fun _ => rfl⟩ (by omega)
