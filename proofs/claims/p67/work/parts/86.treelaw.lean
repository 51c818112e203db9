theorem onP_root {N : Int} {par : Int → Int} (hT : ∀ m : Int, 1 ≤ m → m < N → 0 ≤ par m ∧ par m < m) : ∀ (k : Nat) (m : Int), 0 ≤ m → m < N → m < k → onP par k m 0 = true
  | 0, m, h, _, h1 => by omega
  | k + 1, m, h, h0, h1 => by
    unfold onP
    rw [if_neg (by omega)]
    by_cases c : 0 = m
    · rw [if_pos c]
    · rw [if_neg c]
      have := hT m (by omega) h0
      exact onP_root hT k (par m) this.1 (by omega) (by omega)
theorem lcS_cong {ce ce' par par' : Int → Int} {N : Int} (hT : Tr N par) (h1 : ∀ n, 0 ≤ n → n < N → ce n = ce' n) (h2 : ∀ n, 0 ≤ n → n < N → par n = par' n) : ∀ (k : Nat) (n a : Int), n < N → lcS ce par k n a = lcS ce' par' k n a
  | 0, n, a, _ => rfl
  | k + 1, n, a, h => by
    unfold lcS
    by_cases c : n < 0
    · rw [if_pos c, if_pos c]
    · have := hT n (by omega) h
      rw [if_neg c, if_neg c, ← h1 n (by omega) h, ← h2 n (by omega) h, lcS_cong hT h1 h2 k (par n) _ (by omega)]
theorem nlt_0 {k : Int} (h : 0 ≤ k ∧ k < 6) : ltS (nmW k) 0 = 16 + k := by
  rcases six h with rfl | rfl | rfl | rfl | rfl | rfl <;> decide +kernel
theorem nlt_1 {k : Int} (h : 0 ≤ k ∧ k < 6) : ltS (nmW k) 1 = 0 := by
  rcases six h with rfl | rfl | rfl | rfl | rfl | rfl <;> decide +kernel
/-- the children of k below j are passed -/
def ChI (par : Int → Int) (N k cn j : Int) : Prop := ∃ (q : Nat) (m : Int), m = max j (k + 1) ∧ N - m ≤ q ∧ ∀ i : Int, 0 ≤ i → chS par k N (cn + i) 12 (k + 1) = chS par k N i q m
theorem ChI.z {par : Int → Int} {N k : Int} (hN : N ≤ 12) (hk : 0 ≤ k) : ChI par N k 0 1 := ⟨12, k + 1, by omega, by omega, fun i _ => by rw [Int.zero_add]⟩
theorem ChI.hit {par : Int → Int} {N k cn j : Int} (h : ChI par N k cn j) (hj : j < N) (hk : k < j) (hp : par j = k) : chS par k N cn 12 (k + 1) = j := by
  obtain ⟨q, m, hm, hq, h⟩ := h
  obtain rfl : m = j := by omega
  have := h 0 (by omega)
  rw [Int.add_zero] at this
  rw [this]
  exact chS_hit hq hj hp rfl
theorem ChI.next {par : Int → Int} {N k cn j : Int} (h : ChI par N k cn j) (hj : j < N) (hk : k < j) (hp : par j = k) : ChI par N k (cn + 1) (j + 1) := by
  obtain ⟨q, m, hm, hq, h⟩ := h
  obtain rfl : m = j := by omega
  refine ⟨q - 1, m + 1, by omega, by omega, fun i hi => ?_⟩
  rw [show cn + 1 + i = cn + (i + 1) by omega, h (i + 1) (by omega), chS_next hq hj hp (by omega), show i + 1 - 1 = i by omega]
theorem ChI.skip {par : Int → Int} {N k cn j : Int} (h : ChI par N k cn j) (hj : j < N) (hp : ¬ par j = k) : ChI par N k cn (j + 1) := by
  obtain ⟨q, m, hm, hq, h⟩ := h
  by_cases c : j ≤ k
  · exact ⟨q, m, by omega, hq, h⟩
  · obtain rfl : m = j := by omega
    refine ⟨q - 1, m + 1, by omega, by omega, fun i hi => ?_⟩
    rw [h i hi, chS_skip hq hj hp]
theorem ChI.end_ {par : Int → Int} {N k cn j : Int} (h : ChI par N k cn j) (hj : N ≤ j) : chS par k N cn 12 (k + 1) = -2 := by
  obtain ⟨q, m, hm, hq, h⟩ := h
  have := h 0 (by omega)
  rw [Int.add_zero] at this
  rw [this]
  exact chS_end (by omega)
/-- the children's rates below j -/
def crT (F : Hp) (t k : Int) : Int → Int := fun c => if F (t + 1) c = k then F (t + 2) c else 0
set_option maxRecDepth 100000 in
set_option maxHeartbeats 4000000 in
theorem c_tree {V : VX} {T : Shp} {F : Hp} {t u v K : Int} (hR : Rl u v K F t) (hS : TrS T t) (hV : TrV F t) (hQ : TQ T F t)  : Ct V yL_tree cL_tree 8 (some .boolean) 6 132 0 0 (SH T) [vr V 0, vr V t] F (SH T) 1 (fun r F' => r = 1 ∧ F' = F) := by
  refine Ct.of [some (vr V 0), some (vr V t), none, none, none, none, none, none] (by decide) (by simp [lg_sl, vi_cat, vl_cat, vr_cat]) rfl (by simp [asc, lv_args, vi_cat, vl_cat, vr_cat]) (fun X hV hX => ?_)
  subst hV
  have hp := hS.p
  have hn := hV.n
  have hu := hR.1.u
  have hC := hR.2.1
  have hun : F u 0 = F t 0 := hR.2.2.2.1.1
  have hdr := hR.2.2.2.2
  have hsr := hR.2.2.2.1
  have hpe : ∀ j : Int, 0 ≤ j → j < F t 0 → F (u + 2) j = F (t + 1) j := fun j h0 h1 => (hsr.2.1 j h0 h1).2.1
  refine R_aload_0 hX dL_tree_0 ?_
  refine R_v0i hX dL_tree_1 li_L_136 mk_X11_nodeCount mi_X11_nodeCount rfl o_0 (c_nodeCount rfl hu hC) ⟨⟨by decide, by decide⟩, by decide, by decide, rfl, Nat.le_of_ble_eq_true rfl, rfl⟩ (fun x_1 F_1 h_1 => ?_)
  obtain ⟨h_1, e_1⟩ := h_1; replace e_1 := e_1.symm; subst e_1
  refine R_aload_1 hX dL_tree_4 ?_
  refine R_getNi hX dL_tree_5 fn_L_46 hS.o rfl ?_
  refine R_icmpneS (tgt := 37) hX dL_tree_8 (by decide) (by rw [h_1]; exact hun) ?_
  refine R_aload_0 hX dL_tree_11 ?_
  refine R_iconst hX dL_tree_12 ?_
  refine R_v1i hX dL_tree_13 li_L_209 mk_X11_parent mi_X11_parent rfl o_0 (c_parent rfl hu hC ⟨by omega, by omega⟩) ⟨⟨by decide, by decide⟩, by decide, by decide, rfl, Nat.le_of_ble_eq_true rfl, rfl⟩ (fun x_13 F_13 h_13 => ?_)
  obtain ⟨h_13, e_13⟩ := h_13; replace e_13 := e_13.symm; subst e_13
  refine R_bipush hX dL_tree_16 (by decide) ?_
  refine R_icmpneS (tgt := 37) hX dL_tree_18 (by decide) (by rw [h_13, if_pos ⟨by omega, by omega⟩, hpe 0 (by omega) (by omega)]; exact (hV.par 0 (by omega) (by omega)).1 rfl) ?_
  refine R_aload_0 hX dL_tree_21 ?_
  refine R_aload_1 hX dL_tree_22 ?_
  refine R_getNi hX dL_tree_23 fn_L_46 hS.o rfl ?_
  refine R_v1i hX dL_tree_26 li_L_209 mk_X11_parent mi_X11_parent rfl o_0 (c_parent rfl hu hC ⟨by omega, by omega⟩) ⟨⟨by decide, by decide⟩, by decide, by decide, rfl, Nat.le_of_ble_eq_true rfl, rfl⟩ (fun x_26 F_26 h_26 => ?_)
  obtain ⟨h_26, e_26⟩ := h_26; replace e_26 := e_26.symm; subst e_26
  refine R_iconst hX dL_tree_29 ?_
  refine R_icmpneS (tgt := 37) hX dL_tree_30 (by decide) (by rw [h_26, if_neg (by omega)]) ?_
  refine R_iconst hX dL_tree_33 ?_
  refine R_goto (tgt := 38) hX dL_tree_34 (by decide) ?_
  refine R_istore_2 hX c1_r dL_tree_38 ?_
  refine R_iconst hX dL_tree_39 ?_
  refine R_istore_3 hX c1_i dL_tree_40 ?_
  have lp_41 : ∀ (n : Nat) (k : Int), (0 ≤ k ∧ k ≤ F t 0) → (7 - k).toNat < n → R X (SH T) 0 0 41 [some (vr (xV X) 0), some (vr (xV X) t), some (vi 1), some (vi k), none, none, none, none] [] F (Zq X (SH T) 1 (fun r F' => r = 1 ∧ F' = F) 0 0) := by
    intro n
    induction n with
    | zero => intro k iv41_0 hm; exact absurd hm (Nat.not_lt_zero _)
    | succ n ih_41 =>
      intro k iv41_0 hm_41
      refine R_iload_3 hX dL_tree_41 ?_
      refine R_aload_1 hX dL_tree_42 ?_
      refine R_getNi hX dL_tree_43 fn_L_46 hS.o rfl ?_
      refine R_icmpge (tgt := 395) hX dL_tree_46 (by decide) (by constructor <;> omega) (by constructor <;> omega) (fun c_46 => ?_) (fun c_46 => ?_)
      · skip
        refine R_iload_2 hX dL_tree_395 ?_
        exact R_zret hX (by omega) dL_tree_396 ⟨rfl, rfl⟩
      · skip
        refine R_iload_2 hX dL_tree_49 ?_
        refine R_ifeq (tgt := 395) hX dL_tree_50 (by decide) (by constructor <;> omega) (fun c_50 => ?_) (fun c_50 => ?_)
        · exact absurd c_50 (by decide)
        · skip
          have hsk := hsr.2.1 k (by omega) (by omega)
          have hdk := hdr.2 k (by omega) (by omega)
          have hst := hV.st k (by omega) (by omega)
          refine R_iconst hX dL_tree_53 ?_
          refine R_istore_4 hX c1_i dL_tree_54 ?_
          refine R_iconst hX dL_tree_56 ?_
          refine R_istore_5 hX c1_i dL_tree_57 ?_
          refine R_iconst hX dL_tree_59 ?_
          refine R_istore_6 hX c1_i dL_tree_60 ?_
          have lp_62 : ∀ (n : Nat) (rt : Int) (cn : Int) (j : Int), ((1 ≤ j ∧ j ≤ F t 0) ∧ (0 ≤ rt ∧ rt ≤ 11 * j) ∧ (0 ≤ cn ∧ cn ≤ j)) → (rt = sumN (crT F t k) j.toNat) → (ChI (F (u + 2)) (F t 0) k cn j) → (7 - j).toNat < n → R X (SH T) 0 0 62 [some (vr (xV X) 0), some (vr (xV X) t), some (vi 1), some (vi k), some (vi rt), some (vi cn), some (vi j), none] [] F (Zq X (SH T) 1 (fun r F' => r = 1 ∧ F' = F) 0 0) := by
            intro n
            induction n with
            | zero => intro rt cn j iv62_0 iv62_1 iv62_2 hm; exact absurd hm (Nat.not_lt_zero _)
            | succ n ih_62 =>
              intro rt cn j iv62_0 iv62_1 iv62_2 hm_62
              refine R_iload_6 hX dL_tree_62 ?_
              refine R_aload_1 hX dL_tree_64 ?_
              refine R_getNi hX dL_tree_65 fn_L_46 hS.o rfl ?_
              refine R_icmpge (tgt := 128) hX dL_tree_68 (by decide) (by constructor <;> omega) (by constructor <;> omega) (fun c_68 => ?_) (fun c_68 => ?_)
              · skip
                have hch := iv62_2.end_ (show F t 0 ≤ j by omega)
                have hrt : rt = sumN (crT F t k) (F t 0).toNat := by rw [iv62_1, show j = F t 0 by omega]
                have hov : sumN (fun c => if F (u + 2) c = k then F (40 + 1) c else 0) (F u 0).toNat = rt := by
                  rw [hrt, hun]
                  refine sumN_cong _ (fun c c0 c1 => ?_)
                  unfold crT
                  rw [hpe c c0 (by omega), (hdr.2 c c0 (by omega)).1]
                refine R_sipush hX dL_tree_128 (by decide) ?_
                refine R_istore_6 hX c1_i dL_tree_131 ?_
                refine R_iload_3 hX dL_tree_133 ?_
                refine R_istore_7 hX c1_i dL_tree_134 ?_
                have lp_136 : ∀ (n : Nat) (q : Nat) (least : Int) (j : Int), ((j < q ∧ j < F t 0 ∧ -2 ≤ j) ∧ (0 ≤ least ∧ least ≤ 1000)) → (lcS (F (t + 3)) (F (t + 1)) q j least = lcS (F (t + 3)) (F (t + 1)) 13 k 1000) → (j + 3).toNat < n → R X (SH T) 0 0 136 [some (vr (xV X) 0), some (vr (xV X) t), some (vi 1), some (vi k), some (vi rt), some (vi cn), some (vi least), some (vi j)] [] F (Zq X (SH T) 1 (fun r F' => r = 1 ∧ F' = F) 0 0) := by
                  intro n
                  induction n with
                  | zero => intro q least j iv136_0 iv136_1 hm; exact absurd hm (Nat.not_lt_zero _)
                  | succ n ih_136 =>
                    intro q least j iv136_0 iv136_1 hm_136
                    refine R_iload_7 hX dL_tree_136 ?_
                    refine R_iflt (tgt := 167) hX dL_tree_138 (by decide) (by constructor <;> omega) (fun c_138 => ?_) (fun c_138 => ?_)
                    · skip
                      have jn_322 : (lcS (F (40 + 2)) (F (u + 2)) 13 k 999 = least) → R X (SH T) 0 0 322 [some (vr (xV X) 0), some (vr (xV X) t), some (vi 1), some (vi k), some (vi rt), some (vi cn), some (vi least), none] [vi 1] F (Zq X (SH T) 1 (fun r F' => r = 1 ∧ F' = F) 0 0) := by
                        intro jv322_0
                        have hlc := jv322_0
                        refine R_istore_2 hX c1_r dL_tree_322 ?_
                        refine R_iload_2 hX dL_tree_323 ?_
                        refine R_ifeq (tgt := 387) hX dL_tree_324 (by decide) (by constructor <;> omega) (fun c_324 => ?_) (fun c_324 => ?_)
                        · exact absurd c_324 (by decide)
                        · skip
                          refine R_aload_0 hX dL_tree_327 ?_
                          refine R_iload_3 hX dL_tree_328 ?_
                          refine R_v1i hX dL_tree_329 li_L_263 mk_X11_isOversubscribed mi_X11_isOversubscribed rfl o_0 (c_isOversubscribed rfl hu hC ⟨by omega, by omega⟩) ⟨⟨by decide, by decide⟩, by decide, by decide, rfl, Nat.le_of_ble_eq_true rfl, rfl⟩ (fun x_329 F_329 h_329 => ?_)
                          obtain ⟨h_329, e_329⟩ := h_329; replace e_329 := e_329.symm; subst e_329
                          refine R_iload_4 hX dL_tree_332 ?_
                          refine R_aload_1 hX dL_tree_334 ?_
                          refine R_getNq (v := t + 2) hX dL_tree_335 fn_L_214 hS.o rfl (by omega) ?_
                          refine R_iload_3 hX dL_tree_338 ?_
                          refine R_iald hX dL_tree_339 hS.a2 ⟨by omega, by omega⟩ ?_
                          refine R_icmple (tgt := 347) hX dL_tree_340 (by decide) ⟨by omega, by omega⟩ (by constructor <;> omega) (fun c_340 => ?_) (fun c_340 => ?_)
                          · skip
                            refine R_iconst hX dL_tree_347 ?_
                            refine R_icmpneS (tgt := 387) hX dL_tree_348 (by decide) (by rw [hov] at h_329; rcases h_329 with ⟨z, y⟩ | ⟨z, y⟩; exact absurd y.2.2 (by rw [hdk.1]; omega); exact z) ?_
                            refine R_aload_0 hX dL_tree_351 ?_
                            refine R_iload_3 hX dL_tree_352 ?_
                            refine R_v1i hX dL_tree_353 li_L_266 mk_X11_pathCeiling mi_X11_pathCeiling rfl o_0 (c_pathCeiling rfl hu hC ⟨by omega, by omega⟩) ⟨⟨by decide, by decide⟩, by decide, by decide, rfl, Nat.le_of_ble_eq_true rfl, rfl⟩ (fun x_353 F_353 h_353 => ?_)
                            obtain ⟨h_353, e_353⟩ := h_353; replace e_353 := e_353.symm; subst e_353
                            refine R_iload_6 hX dL_tree_356 ?_
                            refine R_icmpneS (tgt := 387) hX dL_tree_358 (by decide) (by rw [h_353, if_pos ⟨by omega, by omega⟩]; exact hlc) ?_
                            refine R_aload_0 hX dL_tree_361 ?_
                            refine R_iload_3 hX dL_tree_362 ?_
                            refine R_iconst hX dL_tree_363 ?_
                            refine R_v2i hX dL_tree_364 li_L_269 mk_X11_nameLetter mi_X11_nameLetter rfl o_0 (c_nameLetter rfl hu hC ⟨by omega, by omega⟩ ⟨by omega, by omega⟩) ⟨⟨by decide, by decide⟩, by decide, by decide, rfl, Nat.le_of_ble_eq_true rfl, rfl⟩ (fun x_364 F_364 h_364 => ?_)
                            obtain ⟨h_364, e_364⟩ := h_364; replace e_364 := e_364.symm; subst e_364
                            refine R_bipush hX dL_tree_367 (by decide) ?_
                            refine R_iload_3 hX dL_tree_369 ?_
                            refine R_iadd hX dL_tree_370 ?_
                            refine R_icmpneS (tgt := 387) hX dL_tree_371 (by decide) (by rw [h_364, if_pos ⟨by omega, by omega, by omega⟩, hsk.1]; exact nlt_0 ⟨by omega, by omega⟩) ?_
                            refine R_aload_0 hX dL_tree_374 ?_
                            refine R_iload_3 hX dL_tree_375 ?_
                            refine R_iconst hX dL_tree_376 ?_
                            refine R_v2i hX dL_tree_377 li_L_269 mk_X11_nameLetter mi_X11_nameLetter rfl o_0 (c_nameLetter rfl hu hC ⟨by omega, by omega⟩ ⟨by omega, by omega⟩) ⟨⟨by decide, by decide⟩, by decide, by decide, rfl, Nat.le_of_ble_eq_true rfl, rfl⟩ (fun x_377 F_377 h_377 => ?_)
                            obtain ⟨h_377, e_377⟩ := h_377; replace e_377 := e_377.symm; subst e_377
                            rw [if_pos ⟨by omega, by omega, by omega⟩, hsk.1, nlt_1 ⟨by omega, by omega⟩] at h_377
                            refine R_ifne (tgt := 387) hX dL_tree_380 (by decide) (by constructor <;> omega) (fun c_380 => ?_) (fun c_380 => ?_)
                            · exact absurd h_377 c_380
                            · skip
                              refine R_iconst hX dL_tree_383 ?_
                              refine R_goto (tgt := 388) hX dL_tree_384 (by decide) ?_
                              refine R_istore_2 hX c1_r dL_tree_388 ?_
                              refine R_iinc_3 hX c1_i dL_tree_389 ?_
                              refine R_goto (tgt := 41) hX dL_tree_392 (by decide) ?_
                              refine R_drop_4 ?_
                              refine R_drop_5 ?_
                              refine R_drop_6 ?_
                              exact ih_41 _ (by omega) (by omega)
                          · skip
                            refine R_iconst hX dL_tree_343 ?_
                            refine R_goto (tgt := 348) hX dL_tree_344 (by decide) ?_
                            refine R_icmpneS (tgt := 387) hX dL_tree_348 (by decide) (by rw [hov] at h_329; rcases h_329 with ⟨z, y⟩ | ⟨z, y⟩; exact z; exact absurd ⟨by omega, by omega, by rw [hdk.1]; omega⟩ y) ?_
                            refine R_aload_0 hX dL_tree_351 ?_
                            refine R_iload_3 hX dL_tree_352 ?_
                            refine R_v1i hX dL_tree_353 li_L_266 mk_X11_pathCeiling mi_X11_pathCeiling rfl o_0 (c_pathCeiling rfl hu hC ⟨by omega, by omega⟩) ⟨⟨by decide, by decide⟩, by decide, by decide, rfl, Nat.le_of_ble_eq_true rfl, rfl⟩ (fun x_353 F_353 h_353 => ?_)
                            obtain ⟨h_353, e_353⟩ := h_353; replace e_353 := e_353.symm; subst e_353
                            refine R_iload_6 hX dL_tree_356 ?_
                            refine R_icmpneS (tgt := 387) hX dL_tree_358 (by decide) (by rw [h_353, if_pos ⟨by omega, by omega⟩]; exact hlc) ?_
                            refine R_aload_0 hX dL_tree_361 ?_
                            refine R_iload_3 hX dL_tree_362 ?_
                            refine R_iconst hX dL_tree_363 ?_
                            refine R_v2i hX dL_tree_364 li_L_269 mk_X11_nameLetter mi_X11_nameLetter rfl o_0 (c_nameLetter rfl hu hC ⟨by omega, by omega⟩ ⟨by omega, by omega⟩) ⟨⟨by decide, by decide⟩, by decide, by decide, rfl, Nat.le_of_ble_eq_true rfl, rfl⟩ (fun x_364 F_364 h_364 => ?_)
                            obtain ⟨h_364, e_364⟩ := h_364; replace e_364 := e_364.symm; subst e_364
                            refine R_bipush hX dL_tree_367 (by decide) ?_
                            refine R_iload_3 hX dL_tree_369 ?_
                            refine R_iadd hX dL_tree_370 ?_
                            refine R_icmpneS (tgt := 387) hX dL_tree_371 (by decide) (by rw [h_364, if_pos ⟨by omega, by omega, by omega⟩, hsk.1]; exact nlt_0 ⟨by omega, by omega⟩) ?_
                            refine R_aload_0 hX dL_tree_374 ?_
                            refine R_iload_3 hX dL_tree_375 ?_
                            refine R_iconst hX dL_tree_376 ?_
                            refine R_v2i hX dL_tree_377 li_L_269 mk_X11_nameLetter mi_X11_nameLetter rfl o_0 (c_nameLetter rfl hu hC ⟨by omega, by omega⟩ ⟨by omega, by omega⟩) ⟨⟨by decide, by decide⟩, by decide, by decide, rfl, Nat.le_of_ble_eq_true rfl, rfl⟩ (fun x_377 F_377 h_377 => ?_)
                            obtain ⟨h_377, e_377⟩ := h_377; replace e_377 := e_377.symm; subst e_377
                            rw [if_pos ⟨by omega, by omega, by omega⟩, hsk.1, nlt_1 ⟨by omega, by omega⟩] at h_377
                            refine R_ifne (tgt := 387) hX dL_tree_380 (by decide) (by constructor <;> omega) (fun c_380 => ?_) (fun c_380 => ?_)
                            · exact absurd h_377 c_380
                            · skip
                              refine R_iconst hX dL_tree_383 ?_
                              refine R_goto (tgt := 388) hX dL_tree_384 (by decide) ?_
                              refine R_istore_2 hX c1_r dL_tree_388 ?_
                              refine R_iinc_3 hX c1_i dL_tree_389 ?_
                              refine R_goto (tgt := 41) hX dL_tree_392 (by decide) ?_
                              refine R_drop_4 ?_
                              refine R_drop_5 ?_
                              refine R_drop_6 ?_
                              exact ih_41 _ (by omega) (by omega)
                      have hlc : lcS (F (40 + 2)) (F (u + 2)) 13 k 999 = least := by
                        have e1 : lcS (F (40 + 2)) (F (u + 2)) 13 k 999 = lcS (F (t + 3)) (F (t + 1)) 13 k 999 := lcS_cong (N := F t 0) (by rw [← hun]; exact hC.2.2.1.1.2.1) (fun c c0 c1 => (hdr.2 c c0 c1).2.1) hpe 13 k 999 (by omega)
                        rw [e1, lcS_go (by omega) (by omega), show min 999 (F (t + 3) k) = min 1000 (F (t + 3) k) by omega, ← lcS_go (k := 13) (by omega) (by omega), ← iv136_1, lcS_neg (by omega)]
                      refine R_iload_2 hX dL_tree_167 ?_
                      refine R_ifeq (tgt := 321) hX dL_tree_168 (by decide) (by constructor <;> omega) (fun c_168 => ?_) (fun c_168 => ?_)
                      · exact absurd c_168 (by decide)
                      · skip
                        refine R_aload_0 hX dL_tree_171 ?_
                        refine R_iload_3 hX dL_tree_172 ?_
                        refine R_iload_5 hX dL_tree_173 ?_
                        refine R_v2i hX dL_tree_175 li_L_217 mk_X11_child mi_X11_child rfl o_0 (c_child rfl hu hC ⟨by omega, by omega⟩ ⟨by omega, by omega⟩) ⟨⟨by decide, by decide⟩, by decide, by decide, rfl, Nat.le_of_ble_eq_true rfl, rfl⟩ (fun x_175 F_175 h_175 => ?_)
                        obtain ⟨h_175, e_175⟩ := h_175; replace e_175 := e_175.symm; subst e_175
                        refine R_bipush hX dL_tree_178 (by decide) ?_
                        refine R_icmpneS (tgt := 321) hX dL_tree_180 (by decide) (by rw [h_175, if_pos ⟨by omega, by omega, by omega⟩, hun]; exact hch) ?_
                        refine R_aload_0 hX dL_tree_183 ?_
                        refine R_iload_3 hX dL_tree_184 ?_
                        refine R_v1i hX dL_tree_185 li_L_209 mk_X11_parent mi_X11_parent rfl o_0 (c_parent rfl hu hC ⟨by omega, by omega⟩) ⟨⟨by decide, by decide⟩, by decide, by decide, rfl, Nat.le_of_ble_eq_true rfl, rfl⟩ (fun x_185 F_185 h_185 => ?_)
                        obtain ⟨h_185, e_185⟩ := h_185; replace e_185 := e_185.symm; subst e_185
                        refine R_aload_1 hX dL_tree_188 ?_
                        refine R_getNq (v := t + 1) hX dL_tree_189 fn_L_212 hS.o rfl (by omega) ?_
                        refine R_iload_3 hX dL_tree_192 ?_
                        refine R_iald hX dL_tree_193 hS.a1 ⟨by omega, by omega⟩ ?_
                        refine R_icmpneS (tgt := 321) hX dL_tree_194 (by decide) (by rw [h_185, if_pos ⟨by omega, by omega⟩]; exact hsk.2.1) ?_
                        refine R_aload_0 hX dL_tree_197 ?_
                        refine R_iload_3 hX dL_tree_198 ?_
                        refine R_v1i hX dL_tree_199 li_L_228 mk_X11_depth mi_X11_depth rfl o_0 (c_depth rfl hu hC ⟨by omega, by omega⟩) ⟨⟨by decide, by decide⟩, by decide, by decide, rfl, Nat.le_of_ble_eq_true rfl, rfl⟩ (fun x_199 F_199 h_199 => ?_)
                        obtain ⟨h_199, e_199⟩ := h_199; replace e_199 := e_199.symm; subst e_199
                        refine R_aload_1 hX dL_tree_202 ?_
                        refine R_iload_3 hX dL_tree_203 ?_
                        refine R_iconst hX dL_tree_204 ?_
                        refine R_v2i hX dL_tree_205 li_L_187 mk_X12_steps mi_X12_steps rfl hS.o (c_steps hS hV ⟨by omega, by omega⟩ 5 k (by omega) (by omega) (by omega) (onP_root (fun m m1 m2 => (hV.par m (by omega) m2).2 m1) 13 k (by omega) (by omega) (by omega))) ⟨⟨by decide, by decide⟩, by decide, by decide, rfl, Nat.le_of_ble_eq_true rfl, rfl⟩ (fun x_205 F_205 h_205 => ?_)
                        obtain ⟨h_205, e_205⟩ := h_205; replace e_205 := e_205.symm; subst e_205
                        refine R_icmpneS (tgt := 321) hX dL_tree_208 (by decide) (by rw [h_199, if_pos ⟨by omega, by omega⟩, h_205]; exact hsk.2.2.1) ?_
                        refine R_aload_0 hX dL_tree_211 ?_
                        refine R_iload_3 hX dL_tree_212 ?_
                        refine R_v1i hX dL_tree_213 li_L_231 mk_X11_rate mi_X11_rate rfl o_0 (c_rate rfl hu hC ⟨by omega, by omega⟩) ⟨⟨by decide, by decide⟩, by decide, by decide, rfl, Nat.le_of_ble_eq_true rfl, rfl⟩ (fun x_213 F_213 h_213 => ?_)
                        obtain ⟨h_213, e_213⟩ := h_213; replace e_213 := e_213.symm; subst e_213
                        refine R_aload_1 hX dL_tree_216 ?_
                        refine R_getNq (v := t + 2) hX dL_tree_217 fn_L_214 hS.o rfl (by omega) ?_
                        refine R_iload_3 hX dL_tree_220 ?_
                        refine R_iald hX dL_tree_221 hS.a2 ⟨by omega, by omega⟩ ?_
                        refine R_icmpneS (tgt := 321) hX dL_tree_222 (by decide) (by rw [h_213, if_pos ⟨by omega, by omega⟩]; exact hdk.1) ?_
                        refine R_aload_0 hX dL_tree_225 ?_
                        refine R_iload_3 hX dL_tree_226 ?_
                        refine R_v1i hX dL_tree_227 li_L_233 mk_X11_ceiling mi_X11_ceiling rfl o_0 (c_ceiling rfl hu hC ⟨by omega, by omega⟩) ⟨⟨by decide, by decide⟩, by decide, by decide, rfl, Nat.le_of_ble_eq_true rfl, rfl⟩ (fun x_227 F_227 h_227 => ?_)
                        obtain ⟨h_227, e_227⟩ := h_227; replace e_227 := e_227.symm; subst e_227
                        refine R_aload_1 hX dL_tree_230 ?_
                        refine R_getNq (v := t + 3) hX dL_tree_231 fn_L_220 hS.o rfl (by omega) ?_
                        refine R_iload_3 hX dL_tree_234 ?_
                        refine R_iald hX dL_tree_235 hS.a3 ⟨by omega, by omega⟩ ?_
                        refine R_icmpneS (tgt := 321) hX dL_tree_236 (by decide) (by rw [h_227, if_pos ⟨by omega, by omega⟩]; exact hdk.2.1) ?_
                        refine R_aload_0 hX dL_tree_239 ?_
                        refine R_iload_3 hX dL_tree_240 ?_
                        refine R_v1i hX dL_tree_241 li_L_235 mk_X11_burst mi_X11_burst rfl o_0 (c_burst rfl hu hC ⟨by omega, by omega⟩) ⟨⟨by decide, by decide⟩, by decide, by decide, rfl, Nat.le_of_ble_eq_true rfl, rfl⟩ (fun x_241 F_241 h_241 => ?_)
                        obtain ⟨h_241, e_241⟩ := h_241; replace e_241 := e_241.symm; subst e_241
                        refine R_aload_1 hX dL_tree_244 ?_
                        refine R_getNq (v := t + 4) hX dL_tree_245 fn_L_238 hS.o rfl (by omega) ?_
                        refine R_iload_3 hX dL_tree_248 ?_
                        refine R_iald hX dL_tree_249 hS.a4 ⟨by omega, by omega⟩ ?_
                        refine R_icmpneS (tgt := 321) hX dL_tree_250 (by decide) (by rw [h_241, if_pos ⟨by omega, by omega⟩]; exact hsk.2.2.2.1) ?_
                        refine R_aload_0 hX dL_tree_253 ?_
                        refine R_iload_3 hX dL_tree_254 ?_
                        refine R_v1i hX dL_tree_255 li_L_240 mk_X11_creditLimit mi_X11_creditLimit rfl o_0 (c_creditLimit rfl hu hC ⟨by omega, by omega⟩) ⟨⟨by decide, by decide⟩, by decide, by decide, rfl, Nat.le_of_ble_eq_true rfl, rfl⟩ (fun x_255 F_255 h_255 => ?_)
                        obtain ⟨h_255, e_255⟩ := h_255; replace e_255 := e_255.symm; subst e_255
                        refine R_aload_1 hX dL_tree_258 ?_
                        refine R_getNq (v := t + 5) hX dL_tree_259 fn_L_243 hS.o rfl (by omega) ?_
                        refine R_iload_3 hX dL_tree_262 ?_
                        refine R_iald hX dL_tree_263 hS.a5 ⟨by omega, by omega⟩ ?_
                        refine R_icmpneS (tgt := 321) hX dL_tree_264 (by decide) (by rw [h_255, if_pos ⟨by omega, by omega⟩]; exact hsk.2.2.2.2.1) ?_
                        refine R_aload_0 hX dL_tree_267 ?_
                        refine R_iload_3 hX dL_tree_268 ?_
                        refine R_v1i hX dL_tree_269 li_L_246 mk_X11_weight mi_X11_weight rfl o_0 (c_weight rfl hu hC ⟨by omega, by omega⟩) ⟨⟨by decide, by decide⟩, by decide, by decide, rfl, Nat.le_of_ble_eq_true rfl, rfl⟩ (fun x_269 F_269 h_269 => ?_)
                        obtain ⟨h_269, e_269⟩ := h_269; replace e_269 := e_269.symm; subst e_269
                        refine R_aload_1 hX dL_tree_272 ?_
                        refine R_getNq (v := t + 6) hX dL_tree_273 fn_L_249 hS.o rfl (by omega) ?_
                        refine R_iload_3 hX dL_tree_276 ?_
                        refine R_iald hX dL_tree_277 hS.a6 ⟨by omega, by omega⟩ ?_
                        refine R_icmpneS (tgt := 321) hX dL_tree_278 (by decide) (by rw [h_269, if_pos ⟨by omega, by omega⟩]; exact hdk.2.2.1) ?_
                        refine R_aload_0 hX dL_tree_281 ?_
                        refine R_iload_3 hX dL_tree_282 ?_
                        refine R_v1i hX dL_tree_283 li_L_251 mk_X11_priority mi_X11_priority rfl o_0 (c_priority rfl hu hC ⟨by omega, by omega⟩) ⟨⟨by decide, by decide⟩, by decide, by decide, rfl, Nat.le_of_ble_eq_true rfl, rfl⟩ (fun x_283 F_283 h_283 => ?_)
                        obtain ⟨h_283, e_283⟩ := h_283; replace e_283 := e_283.symm; subst e_283
                        refine R_aload_1 hX dL_tree_286 ?_
                        refine R_getNq (v := t + 7) hX dL_tree_287 fn_L_254 hS.o rfl (by omega) ?_
                        refine R_iload_3 hX dL_tree_290 ?_
                        refine R_iald hX dL_tree_291 hS.a7 ⟨by omega, by omega⟩ ?_
                        refine R_icmpneS (tgt := 321) hX dL_tree_292 (by decide) (by rw [h_283, if_pos ⟨by omega, by omega⟩]; exact hsk.2.2.2.2.2.1) ?_
                        refine R_aload_0 hX dL_tree_295 ?_
                        refine R_iload_3 hX dL_tree_296 ?_
                        refine R_v1i hX dL_tree_297 li_L_256 mk_X11_mayBorrow mi_X11_mayBorrow rfl o_0 (c_mayBorrow rfl hu hC ⟨by omega, by omega⟩) ⟨⟨by decide, by decide⟩, by decide, by decide, rfl, Nat.le_of_ble_eq_true rfl, rfl⟩ (fun x_297 F_297 h_297 => ?_)
                        obtain ⟨h_297, e_297⟩ := h_297; replace e_297 := e_297.symm; subst e_297
                        refine R_aload_1 hX dL_tree_300 ?_
                        refine R_getNq (v := t + 8) hX dL_tree_301 fn_L_259 hS.o rfl (by omega) ?_
                        refine R_iload_3 hX dL_tree_304 ?_
                        refine R_zald hX dL_tree_305 hS.a8 ⟨by omega, by omega⟩ ?_
                        refine R_ifne (tgt := 313) hX dL_tree_306 (by decide) (by constructor <;> omega) (fun c_306 => ?_) (fun c_306 => ?_)
                        · skip
                          refine R_iconst hX dL_tree_313 ?_
                          refine R_icmpneS (tgt := 321) hX dL_tree_314 (by decide) (by rcases h_297 with ⟨z, y⟩ | ⟨z, y⟩; exact absurd (y.2.2.symm.trans hsk.2.2.2.2.2.2).symm c_306; exact z) ?_
                          refine R_iconst hX dL_tree_317 ?_
                          refine R_goto (tgt := 322) hX dL_tree_318 (by decide) ?_
                          refine R_drop_7 ?_
                          exact jn_322 hlc
                        · skip
                          refine R_iconst hX dL_tree_309 ?_
                          refine R_goto (tgt := 314) hX dL_tree_310 (by decide) ?_
                          refine R_icmpneS (tgt := 321) hX dL_tree_314 (by decide) (by rcases h_297 with ⟨z, y⟩ | ⟨z, y⟩; exact z; exact absurd ⟨by omega, by omega, by rw [hsk.2.2.2.2.2.2]; exact c_306⟩ y) ?_
                          refine R_iconst hX dL_tree_317 ?_
                          refine R_goto (tgt := 322) hX dL_tree_318 (by decide) ?_
                          refine R_drop_7 ?_
                          exact jn_322 hlc
                    · skip
                      have hpj := hV.par j (by omega) (by omega)
                      have hsj := hV.st j (by omega) (by omega)
                      refine R_iload_6 hX dL_tree_141 ?_
                      refine R_aload_1 hX dL_tree_143 ?_
                      refine R_getNq (v := t + 3) hX dL_tree_144 fn_L_220 hS.o rfl (by omega) ?_
                      refine R_iload_7 hX dL_tree_147 ?_
                      refine R_iald hX dL_tree_149 hS.a3 ⟨by omega, by omega⟩ ?_
                      refine R_mmin hX dL_tree_150 mm_L_223 mm_s_min in_java_lang_Math mm_c_min (by constructor <;> omega) (by constructor <;> omega) ⟨by decide, by decide, by decide, by decide⟩ rfl (Nat.le_of_ble_eq_true rfl) ?_
                      refine R_istore_6 hX c1_i dL_tree_153 ?_
                      refine R_aload_1 hX dL_tree_155 ?_
                      refine R_getNq (v := t + 1) hX dL_tree_156 fn_L_212 hS.o rfl (by omega) ?_
                      refine R_iload_7 hX dL_tree_159 ?_
                      refine R_iald hX dL_tree_161 hS.a1 ⟨by omega, by omega⟩ ?_
                      refine R_istore_7 hX c1_i dL_tree_162 ?_
                      refine R_goto (tgt := 136) hX dL_tree_164 (by decide) ?_
                      exact ih_136 (q - 1) _ _ (by omega) (by rw [← iv136_1, lcS_go (k := q) (by omega) (by omega)]) (by omega)
                exact lp_136 10 13 _ _ (by omega) rfl (by omega)
              · skip
                have hpj := (hV.par j (by omega) (by omega)).2 (by omega)
                have hsj := hV.st j (by omega) (by omega)
                refine R_aload_1 hX dL_tree_71 ?_
                refine R_getNq (v := t + 1) hX dL_tree_72 fn_L_212 hS.o rfl (by omega) ?_
                refine R_iload_6 hX dL_tree_75 ?_
                refine R_iald hX dL_tree_77 hS.a1 ⟨by omega, by omega⟩ ?_
                refine R_iload_3 hX dL_tree_78 ?_
                refine R_icmpeq (tgt := 85) hX dL_tree_79 (by decide) (by constructor <;> omega) (by constructor <;> omega) (fun c_79 => ?_) (fun c_79 => ?_)
                · skip
                  refine R_iload_4 hX dL_tree_85 ?_
                  refine R_aload_1 hX dL_tree_87 ?_
                  refine R_getNq (v := t + 2) hX dL_tree_88 fn_L_214 hS.o rfl (by omega) ?_
                  refine R_iload_6 hX dL_tree_91 ?_
                  refine R_iald hX dL_tree_93 hS.a2 ⟨by omega, by omega⟩ ?_
                  refine R_iadd hX dL_tree_94 ?_
                  refine R_istore_4 hX c1_i dL_tree_95 ?_
                  refine R_iload_2 hX dL_tree_97 ?_
                  refine R_ifeq (tgt := 117) hX dL_tree_98 (by decide) (by constructor <;> omega) (fun c_98 => ?_) (fun c_98 => ?_)
                  · exact absurd c_98 (by decide)
                  · skip
                    refine R_aload_0 hX dL_tree_101 ?_
                    refine R_iload_3 hX dL_tree_102 ?_
                    refine R_iload_5 hX dL_tree_103 ?_
                    refine R_v2i hX dL_tree_105 li_L_217 mk_X11_child mi_X11_child rfl o_0 (c_child rfl hu hC ⟨by omega, by omega⟩ ⟨by omega, by omega⟩) ⟨⟨by decide, by decide⟩, by decide, by decide, rfl, Nat.le_of_ble_eq_true rfl, rfl⟩ (fun x_105 F_105 h_105 => ?_)
                    obtain ⟨h_105, e_105⟩ := h_105; replace e_105 := e_105.symm; subst e_105
                    refine R_iload_6 hX dL_tree_108 ?_
                    refine R_icmpneS (tgt := 117) hX dL_tree_110 (by decide) (by rw [h_105, if_pos ⟨by omega, by omega, by omega⟩, hun]; exact iv62_2.hit (by omega) (by omega) (by rw [hpe _ (by omega) (by omega)]; exact c_79)) ?_
                    refine R_iconst hX dL_tree_113 ?_
                    refine R_goto (tgt := 118) hX dL_tree_114 (by decide) ?_
                    refine R_istore_2 hX c1_r dL_tree_118 ?_
                    refine R_iinc_5 hX c1_i dL_tree_119 ?_
                    refine R_iinc_6 hX c1_i dL_tree_122 ?_
                    refine R_goto (tgt := 62) hX dL_tree_125 (by decide) ?_
                    exact ih_62 _ _ _ (by omega) (by rw [sumN_s (by omega), ← iv62_1]; unfold crT; rw [if_pos c_79]) (iv62_2.next (by omega) (by omega) (by rw [hpe _ (by omega) (by omega)]; exact c_79)) (by omega)
                · skip
                  refine R_goto (tgt := 122) hX dL_tree_82 (by decide) ?_
                  refine R_iinc_6 hX c1_i dL_tree_122 ?_
                  refine R_goto (tgt := 62) hX dL_tree_125 (by decide) ?_
                  exact ih_62 _ _ _ (by omega) (by rw [sumN_s (by omega), ← iv62_1]; unfold crT; rw [if_neg c_79, Int.add_zero]) (iv62_2.skip (by omega) (by rw [hpe _ (by omega) (by omega)]; exact c_79)) (by omega)
          exact lp_62 8 _ _ _ (by omega) (by show (0 : Int) = 0 + crT F t k 0; unfold crT; rw [if_neg (by have := (hV.par 0 (by omega) (by omega)).1 rfl; omega)]; rfl) (ChI.z (by omega) (by omega)) (by omega)
  exact lp_41 8 _ (by omega) (by omega)
