set_option maxRecDepth 100000 in
set_option maxHeartbeats 4000000 in
theorem c_findLender {V : VX} {T : Shp} {F : Hp} {u b : Int} (hu : isSu u) (hN : 0 ≤ F u 0 ∧ F u 0 ≤ 12) (hb : isSt b) (hT : Tr (F u 0) (F (u + 2))) (hA : ∀ n : Int, 0 ≤ n → n < F u 0 → (0 ≤ F (b + 5) n ∧ F (b + 5) n ≤ 999) ∧ (0 ≤ F (b + 6) n ∧ F (b + 6) n ≤ 999) ∧ (0 ≤ F (b + 7) n ∧ F (b + 7) n ≤ 999)) (hAl : ∀ n : Int, 0 ≤ n → n < F u 0 → 0 ≤ F (u + 11) n ∧ F (u + 11) n ≤ 1) {leaf cost : Int} (hl : 0 ≤ leaf ∧ leaf < F u 0) (hc : 1 ≤ cost ∧ cost ≤ 99) : Ct V yX0_findLender cX0_findLender 8 (some .int) 1 21 0 0 (SH T) [vr V (b + 4), vr V u, vi leaf, vi cost] F (SH T) 1 (fun r F' => r = lendS (F (b + 7)) (fun n => F (b + 5) n + F (b + 6) n) (F (u + 2)) (F (u + 11)) cost leaf ∧ F' = F) := by
  refine Ct.of [some (vr V (b + 4)), some (vr V u), some (vi leaf), some (vi cost), none, none, none, none] (by decide) (by simp [lg_sl, vi_cat, vl_cat, vr_cat]) rfl (by simp [asc, lv_args, vi_cat, vl_cat, vr_cat]) (fun X hV hX => ?_)
  subst hV
  refine R_bipush hX dX0_findLender_0 (by decide) ?_
  refine R_istore_4 hX c1_i dX0_findLender_2 ?_
  refine R_iconst hX dX0_findLender_4 ?_
  refine R_istore_5 hX c1_i dX0_findLender_5 ?_
  refine R_iload_2 hX dX0_findLender_7 ?_
  refine R_istore_6 hX c1_i dX0_findLender_8 ?_
  refine R_iconst hX dX0_findLender_10 ?_
  refine R_istore_7 hX c1_i dX0_findLender_11 ?_
  have lp_13 : ∀ (n : Nat) (k : Nat) (lender : Int) (may : Int) (node : Int) (step : Int), (-2 ≤ node ∧ node < F u 0 ∧ node < k ∧ 0 ≤ step ∧ step + node < 12 ∧ step ≤ 13 ∧ I32 lender ∧ 0 ≤ may ∧ may ≤ 1) → (blkS (F (b + 7)) (F (u + 2)) cost k node = blkS (F (b + 7)) (F (u + 2)) cost 13 leaf) → ((may = 1 ∧ lender = -2 ∧ askS (fun n => F (b + 5) n + F (b + 6) n) (F (u + 2)) (F (u + 11)) cost k node = askS (fun n => F (b + 5) n + F (b + 6) n) (F (u + 2)) (F (u + 11)) cost 13 leaf) ∨ (may = 0 ∧ lender = askS (fun n => F (b + 5) n + F (b + 6) n) (F (u + 2)) (F (u + 11)) cost 13 leaf)) → (13 - step).toNat < n → R X (SH T) 0 0 13 [some (vr (xV X) (b + 4)), some (vr (xV X) u), some (vi leaf), some (vi cost), some (vi lender), some (vi may), some (vi node), some (vi step)] [] F (Zq X (SH T) 1 (fun r F' => r = lendS (F (b + 7)) (fun n => F (b + 5) n + F (b + 6) n) (F (u + 2)) (F (u + 11)) cost leaf ∧ F' = F) 0 0) := by
    intro n
    induction n with
    | zero => intro k lender may node step iv13_0 iv13_1 iv13_2 hm; exact absurd hm (Nat.not_lt_zero _)
    | succ n ih_13 =>
      intro k lender may node step iv13_0 iv13_1 iv13_2 hm_13
      refine R_iload_7 hX dX0_findLender_13 ?_
      refine R_bipush hX dX0_findLender_15 (by decide) ?_
      refine R_icmpge (tgt := 115) hX dX0_findLender_17 (by decide) ⟨by omega, by omega⟩ ⟨by omega, by omega⟩ (fun c_17 => ?_) (fun c_17 => ?_)
      · skip
        have hb0 : blkS (F (b + 7)) (F (u + 2)) cost 13 leaf = -2 := by rw [← iv13_1, blkS_neg (by omega)]
        have ha0 : askS (fun n => F (b + 5) n + F (b + 6) n) (F (u + 2)) (F (u + 11)) cost k node = -2 := askS_neg (by omega)
        refine R_iload_4 hX dX0_findLender_115 ?_
        exact R_iret hX dX0_findLender_117 ⟨by show _ = lendS _ _ _ _ _ _; unfold lendS; rw [if_pos hb0]; omega, rfl⟩
      · skip
        refine R_aload_1 hX dX0_findLender_20 ?_
        refine R_iload_6 hX dX0_findLender_21 ?_
        refine R_v1i hX dX0_findLender_23 li_X0_46 mk_X7_hasNode mi_X7_hasNode rfl (to_0 hu) (c_hasNode hu hN ⟨by omega, by omega⟩) ⟨⟨by decide, by decide⟩, by decide, by decide, rfl, Nat.le_of_ble_eq_true rfl, rfl⟩ (fun x_23 F_23 h_23 => ?_)
        obtain ⟨h_23, e_23⟩ := h_23; replace e_23 := e_23.symm; subst e_23
        refine R_ifeq (tgt := 115) hX dX0_findLender_26 (by decide) ⟨by omega, by omega⟩ (fun c_26 => ?_) (fun c_26 => ?_)
        · skip
          have hb0 : blkS (F (b + 7)) (F (u + 2)) cost 13 leaf = -2 := by rw [← iv13_1, blkS_neg (by omega)]
          have ha0 : askS (fun n => F (b + 5) n + F (b + 6) n) (F (u + 2)) (F (u + 11)) cost k node = -2 := askS_neg (by omega)
          refine R_iload_4 hX dX0_findLender_115 ?_
          exact R_iret hX dX0_findLender_117 ⟨by show _ = lendS _ _ _ _ _ _; unfold lendS; rw [if_pos hb0]; omega, rfl⟩
        · skip
          have ha := hA node (by omega) (by omega)
          have hal := hAl node (by omega) (by omega)
          have ht := hT node (by omega) (by omega)
          have a1 : cost ≤ F (b + 5) node + F (b + 6) node → askS (fun n => F (b + 5) n + F (b + 6) n) (F (u + 2)) (F (u + 11)) cost k node = node := fun h => askS_hit (by omega) (by omega) h
          have a2 : ¬ cost ≤ F (b + 5) node + F (b + 6) node → F (u + 11) node = 0 → askS (fun n => F (b + 5) n + F (b + 6) n) (F (u + 2)) (F (u + 11)) cost k node = askS (fun n => F (b + 5) n + F (b + 6) n) (F (u + 2)) (F (u + 11)) cost (k - 1) (F (u + 2) node) := fun h1 h2 => askS_up (by omega) (by omega) h1 h2
          have a3 : ¬ cost ≤ F (b + 5) node + F (b + 6) node → ¬ F (u + 11) node = 0 → askS (fun n => F (b + 5) n + F (b + 6) n) (F (u + 2)) (F (u + 11)) cost k node = -2 := fun h1 h2 => askS_stop (by omega) (by omega) h1 h2
          refine R_aload_0 hX dX0_findLender_29 ?_
          refine R_getq (v := b + 7) hX dX0_findLender_30 fl_X0_18 (so_4 hb) rfl (by omega) ?_
          refine R_iload_6 hX dX0_findLender_33 ?_
          refine R_iald hX dX0_findLender_35 (sa_7 hb) ⟨by omega, by omega⟩ ?_
          refine R_iload_3 hX dX0_findLender_36 ?_
          refine R_icmpge (tgt := 43) hX dX0_findLender_37 (by decide) ⟨by omega, by omega⟩ ⟨by omega, by omega⟩ (fun c_37 => ?_) (fun c_37 => ?_)
          · skip
            refine R_iload_5 hX dX0_findLender_43 ?_
            refine R_ifeq (tgt := 71) hX dX0_findLender_45 (by decide) ⟨by omega, by omega⟩ (fun c_45 => ?_) (fun c_45 => ?_)
            · skip
              refine R_iload_5 hX dX0_findLender_71 ?_
              refine R_ifeq (tgt := 97) hX dX0_findLender_73 (by decide) ⟨by omega, by omega⟩ (fun c_73 => ?_) (fun c_73 => ?_)
              · skip
                refine R_iconst hX dX0_findLender_97 ?_
                refine R_istore_5 hX c1_i dX0_findLender_98 ?_
                refine R_aload_1 hX dX0_findLender_100 ?_
                refine R_getq (v := u + 2) hX dX0_findLender_101 fl_X0_50 (to_0 hu) rfl (by omega) ?_
                refine R_iload_6 hX dX0_findLender_104 ?_
                refine R_iald hX dX0_findLender_106 (ta_2 hu) ⟨by omega, by omega⟩ ?_
                refine R_istore_6 hX c1_i dX0_findLender_107 ?_
                refine R_iinc_7 hX c1_i dX0_findLender_109 ?_
                refine R_goto (tgt := 13) hX dX0_findLender_112 (by decide) ?_
                exact ih_13 (k - 1) _ _ _ _ (by omega) (by rw [← iv13_1, blkS_up (k := k) (by omega) (by omega) (by omega)]) (by omega) (by omega)
              · skip
                refine R_iload_4 hX dX0_findLender_76 ?_
                refine R_bipush hX dX0_findLender_78 (by decide) ?_
                refine R_icmpne (tgt := 97) hX dX0_findLender_80 (by decide) ⟨by omega, by omega⟩ ⟨by omega, by omega⟩ (fun c_80 => ?_) (fun c_80 => ?_)
                · skip
                  refine R_iconst hX dX0_findLender_97 ?_
                  refine R_istore_5 hX c1_i dX0_findLender_98 ?_
                  refine R_aload_1 hX dX0_findLender_100 ?_
                  refine R_getq (v := u + 2) hX dX0_findLender_101 fl_X0_50 (to_0 hu) rfl (by omega) ?_
                  refine R_iload_6 hX dX0_findLender_104 ?_
                  refine R_iald hX dX0_findLender_106 (ta_2 hu) ⟨by omega, by omega⟩ ?_
                  refine R_istore_6 hX c1_i dX0_findLender_107 ?_
                  refine R_iinc_7 hX c1_i dX0_findLender_109 ?_
                  refine R_goto (tgt := 13) hX dX0_findLender_112 (by decide) ?_
                  exact ih_13 (k - 1) _ _ _ _ (by omega) (by rw [← iv13_1, blkS_up (k := k) (by omega) (by omega) (by omega)]) (by omega) (by omega)
                · skip
                  refine R_aload_1 hX dX0_findLender_83 ?_
                  refine R_getq (v := u + 11) hX dX0_findLender_84 fl_X0_53 (to_0 hu) rfl (by omega) ?_
                  refine R_iload_6 hX dX0_findLender_87 ?_
                  refine R_zald hX dX0_findLender_89 (ta_11 hu) ⟨by omega, by omega⟩ ?_
                  refine R_ifne (tgt := 97) hX dX0_findLender_90 (by decide) ⟨by omega, by omega⟩ (fun c_90 => ?_) (fun c_90 => ?_)
                  · skip
                    refine R_iconst hX dX0_findLender_97 ?_
                    refine R_istore_5 hX c1_i dX0_findLender_98 ?_
                    refine R_aload_1 hX dX0_findLender_100 ?_
                    refine R_getq (v := u + 2) hX dX0_findLender_101 fl_X0_50 (to_0 hu) rfl (by omega) ?_
                    refine R_iload_6 hX dX0_findLender_104 ?_
                    refine R_iald hX dX0_findLender_106 (ta_2 hu) ⟨by omega, by omega⟩ ?_
                    refine R_istore_6 hX c1_i dX0_findLender_107 ?_
                    refine R_iinc_7 hX c1_i dX0_findLender_109 ?_
                    refine R_goto (tgt := 13) hX dX0_findLender_112 (by decide) ?_
                    exact ih_13 (k - 1) _ _ _ _ (by omega) (by rw [← iv13_1, blkS_up (k := k) (by omega) (by omega) (by omega)]) (by omega) (by omega)
                  · skip
                    refine R_iconst hX dX0_findLender_93 ?_
                    refine R_goto (tgt := 98) hX dX0_findLender_94 (by decide) ?_
                    refine R_istore_5 hX c1_i dX0_findLender_98 ?_
                    refine R_aload_1 hX dX0_findLender_100 ?_
                    refine R_getq (v := u + 2) hX dX0_findLender_101 fl_X0_50 (to_0 hu) rfl (by omega) ?_
                    refine R_iload_6 hX dX0_findLender_104 ?_
                    refine R_iald hX dX0_findLender_106 (ta_2 hu) ⟨by omega, by omega⟩ ?_
                    refine R_istore_6 hX c1_i dX0_findLender_107 ?_
                    refine R_iinc_7 hX c1_i dX0_findLender_109 ?_
                    refine R_goto (tgt := 13) hX dX0_findLender_112 (by decide) ?_
                    exact ih_13 (k - 1) _ _ _ _ (by omega) (by rw [← iv13_1, blkS_up (k := k) (by omega) (by omega) (by omega)]) (by omega) (by omega)
            · skip
              refine R_aload_0 hX dX0_findLender_48 ?_
              refine R_getq (v := b + 5) hX dX0_findLender_49 fl_X0_9 (so_4 hb) rfl (by omega) ?_
              refine R_iload_6 hX dX0_findLender_52 ?_
              refine R_iald hX dX0_findLender_54 (sa_5 hb) ⟨by omega, by omega⟩ ?_
              refine R_aload_0 hX dX0_findLender_55 ?_
              refine R_getq (v := b + 6) hX dX0_findLender_56 fl_X0_15 (so_4 hb) rfl (by omega) ?_
              refine R_iload_6 hX dX0_findLender_59 ?_
              refine R_iald hX dX0_findLender_61 (sa_6 hb) ⟨by omega, by omega⟩ ?_
              refine R_iadd hX dX0_findLender_62 ?_
              refine R_iload_3 hX dX0_findLender_63 ?_
              refine R_icmplt (tgt := 71) hX dX0_findLender_64 (by decide) ⟨by omega, by omega⟩ ⟨by omega, by omega⟩ (fun c_64 => ?_) (fun c_64 => ?_)
              · skip
                refine R_iload_5 hX dX0_findLender_71 ?_
                refine R_ifeq (tgt := 97) hX dX0_findLender_73 (by decide) ⟨by omega, by omega⟩ (fun c_73 => ?_) (fun c_73 => ?_)
                · skip
                  refine R_iconst hX dX0_findLender_97 ?_
                  refine R_istore_5 hX c1_i dX0_findLender_98 ?_
                  refine R_aload_1 hX dX0_findLender_100 ?_
                  refine R_getq (v := u + 2) hX dX0_findLender_101 fl_X0_50 (to_0 hu) rfl (by omega) ?_
                  refine R_iload_6 hX dX0_findLender_104 ?_
                  refine R_iald hX dX0_findLender_106 (ta_2 hu) ⟨by omega, by omega⟩ ?_
                  refine R_istore_6 hX c1_i dX0_findLender_107 ?_
                  refine R_iinc_7 hX c1_i dX0_findLender_109 ?_
                  refine R_goto (tgt := 13) hX dX0_findLender_112 (by decide) ?_
                  exact ih_13 (k - 1) _ _ _ _ (by omega) (by rw [← iv13_1, blkS_up (k := k) (by omega) (by omega) (by omega)]) (by omega) (by omega)
                · skip
                  refine R_iload_4 hX dX0_findLender_76 ?_
                  refine R_bipush hX dX0_findLender_78 (by decide) ?_
                  refine R_icmpne (tgt := 97) hX dX0_findLender_80 (by decide) ⟨by omega, by omega⟩ ⟨by omega, by omega⟩ (fun c_80 => ?_) (fun c_80 => ?_)
                  · skip
                    refine R_iconst hX dX0_findLender_97 ?_
                    refine R_istore_5 hX c1_i dX0_findLender_98 ?_
                    refine R_aload_1 hX dX0_findLender_100 ?_
                    refine R_getq (v := u + 2) hX dX0_findLender_101 fl_X0_50 (to_0 hu) rfl (by omega) ?_
                    refine R_iload_6 hX dX0_findLender_104 ?_
                    refine R_iald hX dX0_findLender_106 (ta_2 hu) ⟨by omega, by omega⟩ ?_
                    refine R_istore_6 hX c1_i dX0_findLender_107 ?_
                    refine R_iinc_7 hX c1_i dX0_findLender_109 ?_
                    refine R_goto (tgt := 13) hX dX0_findLender_112 (by decide) ?_
                    exact ih_13 (k - 1) _ _ _ _ (by omega) (by rw [← iv13_1, blkS_up (k := k) (by omega) (by omega) (by omega)]) (by omega) (by omega)
                  · skip
                    refine R_aload_1 hX dX0_findLender_83 ?_
                    refine R_getq (v := u + 11) hX dX0_findLender_84 fl_X0_53 (to_0 hu) rfl (by omega) ?_
                    refine R_iload_6 hX dX0_findLender_87 ?_
                    refine R_zald hX dX0_findLender_89 (ta_11 hu) ⟨by omega, by omega⟩ ?_
                    refine R_ifne (tgt := 97) hX dX0_findLender_90 (by decide) ⟨by omega, by omega⟩ (fun c_90 => ?_) (fun c_90 => ?_)
                    · skip
                      refine R_iconst hX dX0_findLender_97 ?_
                      refine R_istore_5 hX c1_i dX0_findLender_98 ?_
                      refine R_aload_1 hX dX0_findLender_100 ?_
                      refine R_getq (v := u + 2) hX dX0_findLender_101 fl_X0_50 (to_0 hu) rfl (by omega) ?_
                      refine R_iload_6 hX dX0_findLender_104 ?_
                      refine R_iald hX dX0_findLender_106 (ta_2 hu) ⟨by omega, by omega⟩ ?_
                      refine R_istore_6 hX c1_i dX0_findLender_107 ?_
                      refine R_iinc_7 hX c1_i dX0_findLender_109 ?_
                      refine R_goto (tgt := 13) hX dX0_findLender_112 (by decide) ?_
                      exact ih_13 (k - 1) _ _ _ _ (by omega) (by rw [← iv13_1, blkS_up (k := k) (by omega) (by omega) (by omega)]) (by omega) (by omega)
                    · skip
                      refine R_iconst hX dX0_findLender_93 ?_
                      refine R_goto (tgt := 98) hX dX0_findLender_94 (by decide) ?_
                      refine R_istore_5 hX c1_i dX0_findLender_98 ?_
                      refine R_aload_1 hX dX0_findLender_100 ?_
                      refine R_getq (v := u + 2) hX dX0_findLender_101 fl_X0_50 (to_0 hu) rfl (by omega) ?_
                      refine R_iload_6 hX dX0_findLender_104 ?_
                      refine R_iald hX dX0_findLender_106 (ta_2 hu) ⟨by omega, by omega⟩ ?_
                      refine R_istore_6 hX c1_i dX0_findLender_107 ?_
                      refine R_iinc_7 hX c1_i dX0_findLender_109 ?_
                      refine R_goto (tgt := 13) hX dX0_findLender_112 (by decide) ?_
                      exact ih_13 (k - 1) _ _ _ _ (by omega) (by rw [← iv13_1, blkS_up (k := k) (by omega) (by omega) (by omega)]) (by omega) (by omega)
              · skip
                refine R_iload_6 hX dX0_findLender_67 ?_
                refine R_istore_4 hX c1_i dX0_findLender_69 ?_
                refine R_iload_5 hX dX0_findLender_71 ?_
                refine R_ifeq (tgt := 97) hX dX0_findLender_73 (by decide) ⟨by omega, by omega⟩ (fun c_73 => ?_) (fun c_73 => ?_)
                · skip
                  refine R_iconst hX dX0_findLender_97 ?_
                  refine R_istore_5 hX c1_i dX0_findLender_98 ?_
                  refine R_aload_1 hX dX0_findLender_100 ?_
                  refine R_getq (v := u + 2) hX dX0_findLender_101 fl_X0_50 (to_0 hu) rfl (by omega) ?_
                  refine R_iload_6 hX dX0_findLender_104 ?_
                  refine R_iald hX dX0_findLender_106 (ta_2 hu) ⟨by omega, by omega⟩ ?_
                  refine R_istore_6 hX c1_i dX0_findLender_107 ?_
                  refine R_iinc_7 hX c1_i dX0_findLender_109 ?_
                  refine R_goto (tgt := 13) hX dX0_findLender_112 (by decide) ?_
                  exact ih_13 (k - 1) _ _ _ _ (by omega) (by rw [← iv13_1, blkS_up (k := k) (by omega) (by omega) (by omega)]) (by omega) (by omega)
                · skip
                  refine R_iload_4 hX dX0_findLender_76 ?_
                  refine R_bipush hX dX0_findLender_78 (by decide) ?_
                  refine R_icmpne (tgt := 97) hX dX0_findLender_80 (by decide) ⟨by omega, by omega⟩ ⟨by omega, by omega⟩ (fun c_80 => ?_) (fun c_80 => ?_)
                  · skip
                    refine R_iconst hX dX0_findLender_97 ?_
                    refine R_istore_5 hX c1_i dX0_findLender_98 ?_
                    refine R_aload_1 hX dX0_findLender_100 ?_
                    refine R_getq (v := u + 2) hX dX0_findLender_101 fl_X0_50 (to_0 hu) rfl (by omega) ?_
                    refine R_iload_6 hX dX0_findLender_104 ?_
                    refine R_iald hX dX0_findLender_106 (ta_2 hu) ⟨by omega, by omega⟩ ?_
                    refine R_istore_6 hX c1_i dX0_findLender_107 ?_
                    refine R_iinc_7 hX c1_i dX0_findLender_109 ?_
                    refine R_goto (tgt := 13) hX dX0_findLender_112 (by decide) ?_
                    exact ih_13 (k - 1) _ _ _ _ (by omega) (by rw [← iv13_1, blkS_up (k := k) (by omega) (by omega) (by omega)]) (by omega) (by omega)
                  · skip
                    refine R_aload_1 hX dX0_findLender_83 ?_
                    refine R_getq (v := u + 11) hX dX0_findLender_84 fl_X0_53 (to_0 hu) rfl (by omega) ?_
                    refine R_iload_6 hX dX0_findLender_87 ?_
                    refine R_zald hX dX0_findLender_89 (ta_11 hu) ⟨by omega, by omega⟩ ?_
                    refine R_ifne (tgt := 97) hX dX0_findLender_90 (by decide) ⟨by omega, by omega⟩ (fun c_90 => ?_) (fun c_90 => ?_)
                    · skip
                      refine R_iconst hX dX0_findLender_97 ?_
                      refine R_istore_5 hX c1_i dX0_findLender_98 ?_
                      refine R_aload_1 hX dX0_findLender_100 ?_
                      refine R_getq (v := u + 2) hX dX0_findLender_101 fl_X0_50 (to_0 hu) rfl (by omega) ?_
                      refine R_iload_6 hX dX0_findLender_104 ?_
                      refine R_iald hX dX0_findLender_106 (ta_2 hu) ⟨by omega, by omega⟩ ?_
                      refine R_istore_6 hX c1_i dX0_findLender_107 ?_
                      refine R_iinc_7 hX c1_i dX0_findLender_109 ?_
                      refine R_goto (tgt := 13) hX dX0_findLender_112 (by decide) ?_
                      exact ih_13 (k - 1) _ _ _ _ (by omega) (by rw [← iv13_1, blkS_up (k := k) (by omega) (by omega) (by omega)]) (by omega) (by omega)
                    · skip
                      refine R_iconst hX dX0_findLender_93 ?_
                      refine R_goto (tgt := 98) hX dX0_findLender_94 (by decide) ?_
                      refine R_istore_5 hX c1_i dX0_findLender_98 ?_
                      refine R_aload_1 hX dX0_findLender_100 ?_
                      refine R_getq (v := u + 2) hX dX0_findLender_101 fl_X0_50 (to_0 hu) rfl (by omega) ?_
                      refine R_iload_6 hX dX0_findLender_104 ?_
                      refine R_iald hX dX0_findLender_106 (ta_2 hu) ⟨by omega, by omega⟩ ?_
                      refine R_istore_6 hX c1_i dX0_findLender_107 ?_
                      refine R_iinc_7 hX c1_i dX0_findLender_109 ?_
                      refine R_goto (tgt := 13) hX dX0_findLender_112 (by decide) ?_
                      exact ih_13 (k - 1) _ _ _ _ (by omega) (by rw [← iv13_1, blkS_up (k := k) (by omega) (by omega) (by omega)]) (by omega) (by omega)
          · skip
            have hne : blkS (F (b + 7)) (F (u + 2)) cost 13 leaf = node := by rw [← iv13_1, blkS_hit (by omega) (by omega) (by omega)]
            refine R_bipush hX dX0_findLender_40 (by decide) ?_
            exact R_iret hX dX0_findLender_42 ⟨by show _ = lendS _ _ _ _ _ _; unfold lendS; rw [if_neg (by omega)], rfl⟩
  exact lp_13 14 13 _ _ _ _ (by omega) rfl (Or.inl ⟨rfl, rfl, rfl⟩) (by omega)
set_option maxRecDepth 100000 in
set_option maxHeartbeats 4000000 in
theorem c_refill {V : VX} {T : Shp} {F : Hp} {u b : Int} (hu : isSu u) (hN : 0 ≤ F u 0 ∧ F u 0 ≤ 12) (hb : isSt b) {node rate ceil : Int} (hn : 0 ≤ node ∧ node < F u 0) (hr : 0 ≤ rate ∧ rate ≤ 99) (hc : 0 ≤ ceil ∧ ceil ≤ 999) (hv : (0 ≤ F (b + 5) node ∧ F (b + 5) node ≤ 999) ∧ (0 ≤ F (b + 6) node ∧ F (b + 6) node ≤ 999) ∧ (0 ≤ F (b + 7) node ∧ F (b + 7) node ≤ 999) ∧ (1 ≤ F (u + 7) node ∧ F (u + 7) node ≤ 999) ∧ (0 ≤ F (u + 8) node ∧ F (u + 8) node ≤ 999)) : Ct V yX0_refill cX0_refill 7 none 1 21 0 0 (SH T) [vr V (b + 4), vr V u, vi node, vi rate, vi ceil] F (SH T) 0 (fun r F' => F' = up (up (up F (b + 5) node (F (b + 5) node + rate - max 0 (F (b + 5) node + rate - F (u + 7) node))) (b + 6) node (min (F (u + 8) node) (F (b + 6) node + (max 0 (F (b + 5) node + rate - F (u + 7) node))))) (b + 7) node (min (F (u + 7) node) (F (b + 7) node + ceil))) := by
  refine Ct.of [some (vr V (b + 4)), some (vr V u), some (vi node), some (vi rate), some (vi ceil), none, none] (by decide) (by simp [lg_sl, vi_cat, vl_cat, vr_cat]) rfl (by simp [asc, lv_args, vi_cat, vl_cat, vr_cat]) (fun X hV hX => ?_)
  subst hV
  refine R_aload_0 hX dX0_refill_0 ?_
  refine R_getq (v := b + 5) hX dX0_refill_1 fl_X0_9 (so_4 hb) rfl (by omega) ?_
  refine R_iload_2 hX dX0_refill_4 ?_
  refine R_iald hX dX0_refill_5 (sa_5 hb) ⟨by omega, by omega⟩ ?_
  refine R_iload_3 hX dX0_refill_6 ?_
  refine R_iadd hX dX0_refill_7 ?_
  refine R_istore_5 hX c1_i dX0_refill_8 ?_
  refine R_iconst hX dX0_refill_10 ?_
  refine R_iload_5 hX dX0_refill_11 ?_
  refine R_aload_1 hX dX0_refill_13 ?_
  refine R_getq (v := u + 7) hX dX0_refill_14 fl_X0_21 (to_0 hu) rfl (by omega) ?_
  refine R_iload_2 hX dX0_refill_17 ?_
  refine R_iald hX dX0_refill_18 (ta_7 hu) ⟨by omega, by omega⟩ ?_
  refine R_isub hX dX0_refill_19 ?_
  refine R_mmax hX dX0_refill_20 mm_X0_34 mm_s_max in_java_lang_Math mm_c_max (by constructor <;> first | omega | (simp (disch := omega) only [up_k, up_i, up_s]; omega)) (by constructor <;> first | omega | (simp (disch := omega) only [up_k, up_i, up_s]; omega)) ⟨by decide, by decide, by decide, by decide⟩ rfl (Nat.le_of_ble_eq_true rfl) ?_
  refine R_istore_6 hX c1_i dX0_refill_23 ?_
  refine R_aload_0 hX dX0_refill_25 ?_
  refine R_getq (v := b + 5) hX dX0_refill_26 fl_X0_9 (so_4 hb) rfl (by omega) ?_
  refine R_iload_2 hX dX0_refill_29 ?_
  refine R_iload_5 hX dX0_refill_30 ?_
  refine R_iload_6 hX dX0_refill_32 ?_
  refine R_isub hX dX0_refill_34 ?_
  refine R_iast hX dX0_refill_35 (sa_5 hb) ⟨by omega, by omega⟩ ?_
  refine R_aload_0 hX dX0_refill_36 ?_
  refine R_getq (v := b + 6) hX dX0_refill_37 fl_X0_15 (so_4 hb) rfl (by omega) ?_
  refine R_iload_2 hX dX0_refill_40 ?_
  refine R_aload_1 hX dX0_refill_41 ?_
  refine R_getq (v := u + 8) hX dX0_refill_42 fl_X0_40 (to_0 hu) rfl (by omega) ?_
  refine R_iload_2 hX dX0_refill_45 ?_
  refine R_iald hX dX0_refill_46 (ta_8 hu) ⟨by omega, by omega⟩ ?_
  refine R_aload_0 hX dX0_refill_47 ?_
  refine R_getq (v := b + 6) hX dX0_refill_48 fl_X0_15 (so_4 hb) rfl (by omega) ?_
  refine R_iload_2 hX dX0_refill_51 ?_
  refine R_iald hX dX0_refill_52 (sa_6 hb) ⟨by omega, by omega⟩ ?_
  refine R_iload_6 hX dX0_refill_53 ?_
  refine R_iadd hX dX0_refill_55 ?_
  refine R_mmin hX dX0_refill_56 mm_X0_43 mm_s_min in_java_lang_Math mm_c_min (by constructor <;> first | omega | (simp (disch := omega) only [up_k, up_i, up_s]; omega)) (by constructor <;> first | omega | (simp (disch := omega) only [up_k, up_i, up_s]; omega)) ⟨by decide, by decide, by decide, by decide⟩ rfl (Nat.le_of_ble_eq_true rfl) ?_
  refine R_iast hX dX0_refill_59 (sa_6 hb) ⟨by omega, by omega⟩ ?_
  refine R_aload_0 hX dX0_refill_60 ?_
  refine R_getq (v := b + 7) hX dX0_refill_61 fl_X0_18 (so_4 hb) rfl (by omega) ?_
  refine R_iload_2 hX dX0_refill_64 ?_
  refine R_aload_1 hX dX0_refill_65 ?_
  refine R_getq (v := u + 7) hX dX0_refill_66 fl_X0_21 (to_0 hu) rfl (by omega) ?_
  refine R_iload_2 hX dX0_refill_69 ?_
  refine R_iald hX dX0_refill_70 (ta_7 hu) ⟨by omega, by omega⟩ ?_
  refine R_aload_0 hX dX0_refill_71 ?_
  refine R_getq (v := b + 7) hX dX0_refill_72 fl_X0_18 (so_4 hb) rfl (by omega) ?_
  refine R_iload_2 hX dX0_refill_75 ?_
  refine R_iald hX dX0_refill_76 (sa_7 hb) ⟨by omega, by omega⟩ ?_
  refine R_iload_4 hX dX0_refill_77 ?_
  refine R_iadd hX dX0_refill_79 ?_
  refine R_mmin hX dX0_refill_80 mm_X0_43 mm_s_min in_java_lang_Math mm_c_min (by constructor <;> first | omega | (simp (disch := omega) only [up_k, up_i, up_s]; omega)) (by constructor <;> first | omega | (simp (disch := omega) only [up_k, up_i, up_s]; omega)) ⟨by decide, by decide, by decide, by decide⟩ rfl (Nat.le_of_ble_eq_true rfl) ?_
  refine R_iast hX dX0_refill_83 (sa_7 hb) ⟨by omega, by omega⟩ ?_
  exact R_vret hX dX0_refill_84 (by simp (disch := omega) only [up_k, up_i, up_s])
set_option maxRecDepth 100000 in
set_option maxHeartbeats 4000000 in
theorem c_acBegin {V : VX} {T : Shp} {F : Hp} {u b : Int} (hu : isSu u) (hb : isSt b) : Ct V yX0_begin cX0_begin 2 none 2 81 0 0 (SH T) [vr V (b + 4), vr V u] F (SH T) 0 (fun r F' => F' = fillz (cpy (cpy F (u + 7) 0 (b + 5) 0 12) (u + 7) 0 (b + 7) 0 12) (b + 6) 12) := by
  refine Ct.of [some (vr V (b + 4)), some (vr V u)] (by decide) (by simp [lg_sl, vi_cat, vl_cat, vr_cat]) rfl (by simp [asc, lv_args, vi_cat, vl_cat, vr_cat]) (fun X hV hX => ?_)
  subst hV
  refine R_aload_1 hX dX0_begin_0 ?_
  refine R_getq (v := u + 7) hX dX0_begin_1 fl_X0_21 (to_0 hu) rfl (by omega) ?_
  refine R_aload_0 hX dX0_begin_4 ?_
  refine R_getq (v := b + 5) hX dX0_begin_5 fl_X0_9 (so_4 hb) rfl (by omega) ?_
  refine R_sN2v hX dX0_begin_8 li_X0_26 mk_X11_copyRow ms_X11_copyRow (c_copyRow (nn := 12) (ta_7 hu) (sa_5 hb) rfl) ⟨⟨by decide, by decide⟩, by decide, by decide, rfl, Nat.le_of_ble_eq_true rfl, rfl⟩ (fun x_8 F_8 h_8 => ?_)
  subst h_8
  refine R_aload_1 hX dX0_begin_11 ?_
  refine R_getq (v := u + 7) hX dX0_begin_12 fl_X0_21 (to_0 hu) rfl (by omega) ?_
  refine R_aload_0 hX dX0_begin_15 ?_
  refine R_getq (v := b + 7) hX dX0_begin_16 fl_X0_18 (so_4 hb) rfl (by omega) ?_
  refine R_sN2v hX dX0_begin_19 li_X0_26 mk_X11_copyRow ms_X11_copyRow (c_copyRow (nn := 12) (ta_7 hu) (sa_7 hb) rfl) ⟨⟨by decide, by decide⟩, by decide, by decide, rfl, Nat.le_of_ble_eq_true rfl, rfl⟩ (fun x_19 F_19 h_19 => ?_)
  subst h_19
  refine R_aload_0 hX dX0_begin_22 ?_
  refine R_getq (v := b + 6) hX dX0_begin_23 fl_X0_15 (so_4 hb) rfl (by omega) ?_
  refine R_sN1v hX dX0_begin_26 li_X0_30 mk_X11_clearRow ms_X11_clearRow (c_clearRow (nn := 12) (sa_6 hb) rfl) ⟨⟨by decide, by decide⟩, by decide, by decide, rfl, Nat.le_of_ble_eq_true rfl, rfl⟩ (fun x_26 F_26 h_26 => ?_)
  subst h_26
  exact R_vret hX dX0_begin_29 rfl
set_option maxRecDepth 100000 in
set_option maxHeartbeats 4000000 in
theorem c_acCopy {V : VX} {T : Shp} {F : Hp} {b e : Int} (hb : isSt b) (he : isSt e) : Ct V yX0_copyFrom cX0_copyFrom 2 none 2 81 0 0 (SH T) [vr V (b + 4), vr V (e + 4)] F (SH T) 0 (fun r F' => F' = cpy (cpy (cpy (F) (e + 5) 0 (b + 5) 0 12) (e + 6) 0 (b + 6) 0 12) (e + 7) 0 (b + 7) 0 12) := by
  refine Ct.of [some (vr V (b + 4)), some (vr V (e + 4))] (by decide) (by simp [lg_sl, vi_cat, vl_cat, vr_cat]) rfl (by simp [asc, lv_args, vi_cat, vl_cat, vr_cat]) (fun X hV hX => ?_)
  subst hV
  refine R_aload_1 hX dX0_copyFrom_0 ?_
  refine R_getq (v := e + 5) hX dX0_copyFrom_1 fl_X0_9 (so_4 he) rfl (by omega) ?_
  refine R_aload_0 hX dX0_copyFrom_4 ?_
  refine R_getq (v := b + 5) hX dX0_copyFrom_5 fl_X0_9 (so_4 hb) rfl (by omega) ?_
  refine R_sN2v hX dX0_copyFrom_8 li_X0_26 mk_X11_copyRow ms_X11_copyRow (c_copyRow (nn := 12) (sa_5 he) (sa_5 hb) rfl) ⟨⟨by decide, by decide⟩, by decide, by decide, rfl, Nat.le_of_ble_eq_true rfl, rfl⟩ (fun x_8 F_8 h_8 => ?_)
  subst h_8
  refine R_aload_1 hX dX0_copyFrom_11 ?_
  refine R_getq (v := e + 6) hX dX0_copyFrom_12 fl_X0_15 (so_4 he) rfl (by omega) ?_
  refine R_aload_0 hX dX0_copyFrom_15 ?_
  refine R_getq (v := b + 6) hX dX0_copyFrom_16 fl_X0_15 (so_4 hb) rfl (by omega) ?_
  refine R_sN2v hX dX0_copyFrom_19 li_X0_26 mk_X11_copyRow ms_X11_copyRow (c_copyRow (nn := 12) (sa_6 he) (sa_6 hb) rfl) ⟨⟨by decide, by decide⟩, by decide, by decide, rfl, Nat.le_of_ble_eq_true rfl, rfl⟩ (fun x_19 F_19 h_19 => ?_)
  subst h_19
  refine R_aload_1 hX dX0_copyFrom_22 ?_
  refine R_getq (v := e + 7) hX dX0_copyFrom_23 fl_X0_18 (so_4 he) rfl (by omega) ?_
  refine R_aload_0 hX dX0_copyFrom_26 ?_
  refine R_getq (v := b + 7) hX dX0_copyFrom_27 fl_X0_18 (so_4 hb) rfl (by omega) ?_
  refine R_sN2v hX dX0_copyFrom_30 li_X0_26 mk_X11_copyRow ms_X11_copyRow (c_copyRow (nn := 12) (sa_7 he) (sa_7 hb) rfl) ⟨⟨by decide, by decide⟩, by decide, by decide, rfl, Nat.le_of_ble_eq_true rfl, rfl⟩ (fun x_30 F_30 h_30 => ?_)
  subst h_30
  exact R_vret hX dX0_copyFrom_33 rfl
set_option maxRecDepth 100000 in
set_option maxHeartbeats 4000000 in
theorem c_quBegin {V : VX} {T : Shp} {F : Hp} {b : Int} (hb : isSt b) : Ct V yX4_begin cX4_begin 1 none 1 21 0 0 (SH T) [vr V (b + 8)] F (SH T) 0 (fun r F' => F' = up (fillz F (b + 9) 12) (b + 8) 4 0) := by
  refine Ct.of [some (vr V (b + 8))] (by decide) (by simp [lg_sl, vi_cat, vl_cat, vr_cat]) rfl (by simp [asc, lv_args, vi_cat, vl_cat, vr_cat]) (fun X hV hX => ?_)
  subst hV
  refine R_aload_0 hX dX4_begin_0 ?_
  refine R_getq (v := b + 9) hX dX4_begin_1 fl_X4_9 (so_8 hb) rfl (by omega) ?_
  refine R_sN1v hX dX4_begin_4 li_X4_24 mk_X11_clearRow ms_X11_clearRow (c_clearRow (nn := 12) (sa_9 hb) rfl) ⟨⟨by decide, by decide⟩, by decide, by decide, rfl, Nat.le_of_ble_eq_true rfl, rfl⟩ (fun x_4 F_4 h_4 => ?_)
  subst h_4
  refine R_aload_0 hX dX4_begin_7 ?_
  refine R_iconst hX dX4_begin_8 ?_
  refine R_puti hX dX4_begin_9 fl_X4_28 (so_8 hb) rfl ?_
  exact R_vret hX dX4_begin_12 rfl
set_option maxRecDepth 100000 in
set_option maxHeartbeats 4000000 in
theorem c_moveUp {V : VX} {T : Shp} {F : Hp} {b t : Int} (hb : isSt b) {leaf : Int} (hl : 0 ≤ leaf ∧ leaf < 12) (ht : isA (SH T) t .int 192) : Ct V yX4_moveUp cX4_moveUp 4 none 1 60 0 0 (SH T) [vr V (b + 8), vr V t, vi leaf] F (SH T) 0 (fun r F' => F' = cpy F t (leaf * 16 + 1) t (leaf * 16) 15) := by
  refine Ct.of [some (vr V (b + 8)), some (vr V t), some (vi leaf), none] (by decide) (by simp [lg_sl, vi_cat, vl_cat, vr_cat]) rfl (by simp [asc, lv_args, vi_cat, vl_cat, vr_cat]) (fun X hV hX => ?_)
  subst hV
  refine R_iload_2 hX dX4_moveUp_0 ?_
  refine R_bipush hX dX4_moveUp_1 (by decide) ?_
  refine R_imul hX dX4_moveUp_3 ?_
  refine R_istore_3 hX c1_i dX4_moveUp_4 ?_
  refine R_aload_1 hX dX4_moveUp_5 ?_
  refine R_iload_3 hX dX4_moveUp_6 ?_
  refine R_iconst hX dX4_moveUp_7 ?_
  refine R_iadd hX dX4_moveUp_8 ?_
  refine R_aload_1 hX dX4_moveUp_9 ?_
  refine R_iload_3 hX dX4_moveUp_10 ?_
  refine R_bipush hX dX4_moveUp_11 (by decide) ?_
  refine R_acopy hX dX4_moveUp_13 ay_X4_40 ay_n ay_s in_java_lang_System ht ht (by omega) (by omega) (by omega) (by omega) (by omega) ⟨by decide, by decide⟩ rfl (Nat.le_of_ble_eq_true rfl) ?_
  exact R_vret hX dX4_moveUp_16 rfl
set_option maxRecDepth 100000 in
set_option maxHeartbeats 4000000 in
theorem c_removeFront {V : VX} {T : Shp} {F : Hp} {b : Int} (hb : isSt b) {leaf : Int} (hl : 0 ≤ leaf ∧ leaf < 12) (hv : 1 ≤ F (b + 9) leaf ∧ F (b + 9) leaf ≤ 16) : Ct V yX4_removeFront cX4_removeFront 2 none 2 83 0 0 (SH T) [vr V (b + 8), vi leaf] F (SH T) 0 (fun r F' => F' = cpy (cpy (cpy (up F (b + 9) leaf (F (b + 9) leaf - 1)) (b + 10) (leaf * 16 + 1) (b + 10) (leaf * 16) 15) (b + 11) (leaf * 16 + 1) (b + 11) (leaf * 16) 15) (b + 12) (leaf * 16 + 1) (b + 12) (leaf * 16) 15) := by
  refine Ct.of [some (vr V (b + 8)), some (vi leaf)] (by decide) (by simp [lg_sl, vi_cat, vl_cat, vr_cat]) rfl (by simp [asc, lv_args, vi_cat, vl_cat, vr_cat]) (fun X hV hX => ?_)
  subst hV
  refine R_aload_0 hX dX4_removeFront_0 ?_
  refine R_getq (v := b + 9) hX dX4_removeFront_1 fl_X4_9 (so_8 hb) rfl (by omega) ?_
  refine R_iload_1 hX dX4_removeFront_4 ?_
  refine R_iald hX dX4_removeFront_5 (sa_9 hb) ⟨by omega, by omega⟩ ?_
  refine R_iconst hX dX4_removeFront_6 ?_
  refine R_icmpge (tgt := 11) hX dX4_removeFront_7 (by decide) ⟨by omega, by omega⟩ ⟨by omega, by omega⟩ (fun c_7 => ?_) (fun c_7 => ?_)
  · skip
    refine R_aload_0 hX dX4_removeFront_11 ?_
    refine R_getq (v := b + 9) hX dX4_removeFront_12 fl_X4_9 (so_8 hb) rfl (by omega) ?_
    refine R_iload_1 hX dX4_removeFront_15 ?_
    refine R_dup2 hX c1_i c1_r dX4_removeFront_16 ?_
    refine R_iald hX dX4_removeFront_17 (sa_9 hb) ⟨by omega, by omega⟩ ?_
    refine R_iconst hX dX4_removeFront_18 ?_
    refine R_isub hX dX4_removeFront_19 ?_
    refine R_iast hX dX4_removeFront_20 (sa_9 hb) ⟨by omega, by omega⟩ ?_
    refine R_aload_0 hX dX4_removeFront_21 ?_
    refine R_aload_0 hX dX4_removeFront_22 ?_
    refine R_getq (v := b + 10) hX dX4_removeFront_23 fl_X4_15 (so_8 hb) rfl (by omega) ?_
    refine R_iload_1 hX dX4_removeFront_26 ?_
    refine R_v2v hX dX4_removeFront_27 li_X4_36 mk_X4_moveUp mi_X4_moveUp rfl (so_8 hb) (c_moveUp hb hl (sa_10 hb)) ⟨⟨by decide, by decide⟩, by decide, by decide, rfl, Nat.le_of_ble_eq_true rfl, rfl⟩ (fun x_27 F_27 h_27 => ?_)
    subst h_27
    refine R_aload_0 hX dX4_removeFront_30 ?_
    refine R_aload_0 hX dX4_removeFront_31 ?_
    refine R_getq (v := b + 11) hX dX4_removeFront_32 fl_X4_18 (so_8 hb) rfl (by omega) ?_
    refine R_iload_1 hX dX4_removeFront_35 ?_
    refine R_v2v hX dX4_removeFront_36 li_X4_36 mk_X4_moveUp mi_X4_moveUp rfl (so_8 hb) (c_moveUp hb hl (sa_11 hb)) ⟨⟨by decide, by decide⟩, by decide, by decide, rfl, Nat.le_of_ble_eq_true rfl, rfl⟩ (fun x_36 F_36 h_36 => ?_)
    subst h_36
    refine R_aload_0 hX dX4_removeFront_39 ?_
    refine R_aload_0 hX dX4_removeFront_40 ?_
    refine R_getq (v := b + 12) hX dX4_removeFront_41 fl_X4_21 (so_8 hb) rfl (by omega) ?_
    refine R_iload_1 hX dX4_removeFront_44 ?_
    refine R_v2v hX dX4_removeFront_45 li_X4_36 mk_X4_moveUp mi_X4_moveUp rfl (so_8 hb) (c_moveUp hb hl (sa_12 hb)) ⟨⟨by decide, by decide⟩, by decide, by decide, rfl, Nat.le_of_ble_eq_true rfl, rfl⟩ (fun x_45 F_45 h_45 => ?_)
    subst h_45
    exact R_vret hX dX4_removeFront_48 rfl
  · exact absurd c_7 (by omega)
