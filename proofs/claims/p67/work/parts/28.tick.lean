set_option maxRecDepth 100000 in
set_option maxHeartbeats 4000000 in
theorem c_makeChanges {V : VX} {T : Shp} {F : Hp} {u b : Int} (hu : isSu u) (hb : isSt b) (hU : SuI u F) (ht0 : I32 (F b 1)) : Ct V yX8_makeChanges cX8_makeChanges 4 none 1 21 0 0 (SH T) [vr V b, vr V u] F (SH T) 0 (fun r F' => F' = chgS b u (F (u + 12) 0).toNat F) := by
  refine Ct.of [some (vr V b), some (vr V u), none, none] (by decide) (by simp [lg_sl, vi_cat, vl_cat, vr_cat]) rfl (by simp [asc, lv_args, vi_cat, vl_cat, vr_cat]) (fun X hV hX => ?_)
  subst hV
  have hd := dj_of hu hb
  have hN := hU.1
  have hcc := hU.2.2.2.2.2.2.2.2.2.2.1
  refine R_aload_1 hX dX8_makeChanges_0 ?_
  refine R_getq (v := u + 12) hX dX8_makeChanges_1 fl_X8_165 (to_0 hu) rfl (by omega) ?_
  refine R_astore_2 hX c1_r dX8_makeChanges_4 ?_
  refine R_iconst hX dX8_makeChanges_5 ?_
  refine R_istore_3 hX c1_r dX8_makeChanges_6 ?_
  have lp_7 : ∀ (n : Nat) (i : Int), (0 ≤ i ∧ i ≤ F (u + 12) 0) → (13 - i).toNat < n → R X (SH T) 0 0 7 [some (vr (xV X) b), some (vr (xV X) u), some (vr (xV X) (u + 12)), some (vi i)] [] (chgS b u i.toNat F) (Zq X (SH T) 0 (fun r F' => F' = chgS b u (F (u + 12) 0).toNat F) 0 0) := by
    intro n
    induction n with
    | zero => intro i iv7_0 hm; exact absurd hm (Nat.not_lt_zero _)
    | succ n ih_7 =>
      intro i iv7_0 hm_7
      have e0 : ∀ a : Int, u ≤ a → a < u + 17 → (chgS b u i.toNat F) a = F a := fun a z0 z1 => chgS_r (by omega) _ _
      have e1 : (chgS b u i.toNat F) b = F b := chgS_r (by omega) _ _
      have e12 := e0 (u + 12) (by omega) (by omega)
      have e13 := e0 (u + 13) (by omega) (by omega)
      have e14 := e0 (u + 14) (by omega) (by omega)
      have e15 := e0 (u + 15) (by omega) (by omega)
      have e16 := e0 (u + 16) (by omega) (by omega)
      have eu := e0 u (by omega) (by omega)
      refine R_iload_3 hX dX8_makeChanges_7 ?_
      refine R_aload_2 hX dX8_makeChanges_8 ?_
      refine R_geti hX dX8_makeChanges_9 fl_X8_169 (to_12 hu) rfl ?_
      refine R_icmpge (tgt := 70) hX dX8_makeChanges_12 (by decide) ⟨by omega, by omega⟩ (by rw [e12]; constructor <;> omega) (fun c_12 => ?_) (fun c_12 => ?_)
      · skip
        rw [e12] at c_12
        exact R_vret hX dX8_makeChanges_70 (by rw [show F (u + 12) 0 = i by omega])
      · skip
        rw [e12] at c_12
        have hcg := hU.2.2.2.2.2.2.2.2.2.2.2 i (by omega) (by omega)
        refine R_aload_2 hX dX8_makeChanges_15 ?_
        refine R_getq (v := u + 13) hX dX8_makeChanges_16 fl_X8_172 (to_12 hu) rfl (by omega) ?_
        refine R_iload_3 hX dX8_makeChanges_19 ?_
        refine R_iald hX dX8_makeChanges_20 (ta_13 hu) ⟨by omega, by omega⟩ ?_
        refine R_aload_0 hX dX8_makeChanges_21 ?_
        refine R_geti hX dX8_makeChanges_22 fl_X8_49 (so_0 hb) rfl ?_
        refine R_icmpne (tgt := 64) hX dX8_makeChanges_25 (by decide) (by rw [e13]; constructor <;> omega) (by rw [e1]; exact ht0) (fun c_25 => ?_) (fun c_25 => ?_)
        · skip
          refine R.eq rfl rfl (show _ = chgS b u (i + 1).toNat F by rw [chgS_s (by omega)]; unfold chS1; first | (rw [e13, e1, if_neg (by rw [e13, e1] at c_25; exact c_25)]; done) | (rw [e13, e1, if_pos c_25, h_48])) ?_
          refine R_iinc_3 hX c1_r dX8_makeChanges_64 ?_
          refine R_goto (tgt := 7) hX dX8_makeChanges_67 (by decide) ?_
          exact ih_7 _ (by omega) (by omega)
        · skip
          rw [e13, e1] at c_25
          refine R_aload_1 hX dX8_makeChanges_28 ?_
          refine R_aload_2 hX dX8_makeChanges_29 ?_
          refine R_getq (v := u + 14) hX dX8_makeChanges_30 fl_X8_174 (to_12 hu) rfl (by omega) ?_
          refine R_iload_3 hX dX8_makeChanges_33 ?_
          refine R_iald hX dX8_makeChanges_34 (ta_14 hu) ⟨by omega, by omega⟩ ?_
          refine R_v1i hX dX8_makeChanges_35 li_X8_91 mk_X7_hasNode mi_X7_hasNode rfl (to_0 hu) (c_hasNode hu (by rw [eu]; exact hN) (by rw [e14]; constructor <;> omega)) ⟨⟨by decide, by decide⟩, by decide, by decide, rfl, Nat.le_of_ble_eq_true rfl, rfl⟩ (fun x_35 F_35 h_35 => ?_)
          obtain ⟨h_35, e_35⟩ := h_35; replace e_35 := e_35.symm; subst e_35
          refine R_ifeq (tgt := 64) hX dX8_makeChanges_38 (by decide) ⟨by omega, by omega⟩ (fun c_38 => ?_) (fun c_38 => ?_)
          · (rw [e14, eu] at h_35; exact absurd c_38 (by omega))
          · skip
            rw [e14, eu] at h_35
            refine R_aload_0 hX dX8_makeChanges_41 ?_
            refine R_aload_2 hX dX8_makeChanges_42 ?_
            refine R_getq (v := u + 15) hX dX8_makeChanges_43 fl_X8_177 (to_12 hu) rfl (by omega) ?_
            refine R_iload_3 hX dX8_makeChanges_46 ?_
            refine R_iald hX dX8_makeChanges_47 (ta_15 hu) ⟨by omega, by omega⟩ ?_
            refine R_v1r hX dX8_makeChanges_48 li_X8_180 mk_X8_row mi_X8_row rfl (so_0 hb) (c_stRow hb (by rw [e15]; constructor <;> omega)) ⟨⟨by decide, by decide⟩, by decide, by decide, rfl, Nat.le_of_ble_eq_true rfl, rfl⟩ (fun x_48 F_48 h_48 => ?_)
            obtain ⟨h_48, e_48⟩ := h_48; replace e_48 := e_48.symm; subst e_48
            have hrow : isA (SH T) x_48 .int 12 := by rw [h_48]; exact sa_plc hb
            refine R_aload_2 hX dX8_makeChanges_51 ?_
            refine R_getq (v := u + 14) hX dX8_makeChanges_52 fl_X8_174 (to_12 hu) rfl (by omega) ?_
            refine R_iload_3 hX dX8_makeChanges_55 ?_
            refine R_iald hX dX8_makeChanges_56 (ta_14 hu) ⟨by omega, by omega⟩ ?_
            refine R_aload_2 hX dX8_makeChanges_57 ?_
            refine R_getq (v := u + 16) hX dX8_makeChanges_58 fl_X8_184 (to_12 hu) rfl (by omega) ?_
            refine R_iload_3 hX dX8_makeChanges_61 ?_
            refine R_iald hX dX8_makeChanges_62 (ta_16 hu) ⟨by omega, by omega⟩ ?_
            refine R_iast hX dX8_makeChanges_63 hrow (by rw [e14]; constructor <;> omega) ?_
            refine R.eq rfl rfl (show _ = chgS b u (i + 1).toNat F by rw [chgS_s (by omega)]; unfold chS1; first | (rw [e13, e1, if_neg (by rw [e13, e1] at c_25; exact c_25)]; done) | (rw [e13, e1, if_pos c_25, h_48])) ?_
            refine R_iinc_3 hX c1_r dX8_makeChanges_64 ?_
            refine R_goto (tgt := 7) hX dX8_makeChanges_67 (by decide) ?_
            exact ih_7 _ (by omega) (by omega)
  exact lp_7 14 _ (by omega) (by omega)
set_option maxRecDepth 100000 in
set_option maxHeartbeats 4000000 in
theorem c_dropOld {V : VX} {T : Shp} {F : Hp} {u b : Int} (hu : isSu u) (hb : isSt b) {K : Int} (hS : StA b u K F) : Ct V yX8_dropOld cX8_dropOld 4 none 3 104 0 0 (SH T) [vr V b, vr V u] F (SH T) 0 (fun r F' => F' = drpA b u F) := by
  refine Ct.of [some (vr V b), some (vr V u), none, none] (by decide) (by simp [lg_sl, vi_cat, vl_cat, vr_cat]) rfl (by simp [asc, lv_args, vi_cat, vl_cat, vr_cat]) (fun X hV hX => ?_)
  subst hV
  have hd := dj_of hu hb
  have hN := hS.1.1
  have hag := hS.1.2.2.2.2.2.2.2.2.2.1
  refine R_aload_1 hX dX8_dropOld_0 ?_
  refine R_geti hX dX8_dropOld_1 fl_X8_187 (to_0 hu) rfl ?_
  refine R_iconst hX dX8_dropOld_4 ?_
  refine R_icmpne (tgt := 9) hX dX8_dropOld_5 (by decide) ⟨by omega, by omega⟩ ⟨by omega, by omega⟩ (fun c_5 => ?_) (fun c_5 => ?_)
  · skip
    refine R_iconst hX dX8_dropOld_9 ?_
    refine R_istore_2 hX c1_r dX8_dropOld_10 ?_
    have lp_11 : ∀ (n : Nat) (i : Int), (0 ≤ i ∧ i ≤ F u 0) → (13 - i).toNat < n → R X (SH T) 0 0 11 [some (vr (xV X) b), some (vr (xV X) u), some (vi i), none] [] (drpS b u i.toNat F) (Zq X (SH T) 0 (fun r F' => F' = drpA b u F) 0 0) := by
      intro n
      induction n with
      | zero => intro i iv11_0 hm; exact absurd hm (Nat.not_lt_zero _)
      | succ n ih_11 =>
        intro i iv11_0 hm_11
        have eu : (drpS b u i.toNat F) u = F u := drpS_r (by omega) _ _
        have hS2 : StA b u K (drpS b u i.toNat F) := hS.pdrpS hd _ (by omega)
        refine R_iload_2 hX dX8_dropOld_11 ?_
        refine R_aload_1 hX dX8_dropOld_12 ?_
        refine R_geti hX dX8_dropOld_13 fl_X8_85 (to_0 hu) rfl ?_
        refine R_icmpge (tgt := 72) hX dX8_dropOld_16 (by decide) ⟨by omega, by omega⟩ (by rw [eu]; constructor <;> omega) (fun c_16 => ?_) (fun c_16 => ?_)
        · skip
          rw [eu] at c_16
          exact R_vret hX dX8_dropOld_72 (by unfold drpA; rw [if_neg c_5, show F u 0 = i by omega])
        · skip
          rw [eu] at c_16
          refine R_iconst hX dX8_dropOld_19 ?_
          refine R_istore_3 hX c1_i dX8_dropOld_20 ?_
          have lp_21 : ∀ (n : Nat) (j : Int) (G : Hp), (0 ≤ j ∧ j ≤ 16) → (StA b u K G ∧ G u = F u) → (drp1 b u i (16 - j).toNat G = drp1 b u i 16 (drpS b u i.toNat F)) → (17 - j).toNat < n → R X (SH T) 0 0 21 [some (vr (xV X) b), some (vr (xV X) u), some (vi i), some (vi j)] [] G (Zq X (SH T) 0 (fun r F' => F' = drpA b u F) 0 0) := by
            intro n
            induction n with
            | zero => intro j G iv21_0 iv21_1 iv21_2 hm; exact absurd hm (Nat.not_lt_zero _)
            | succ n ih_21 =>
              intro j G iv21_0 iv21_1 iv21_2 hm_21
              refine R_iload_3 hX dX8_dropOld_21 ?_
              refine R_bipush hX dX8_dropOld_22 (by decide) ?_
              refine R_icmpge (tgt := 66) hX dX8_dropOld_24 (by decide) ⟨by omega, by omega⟩ ⟨by omega, by omega⟩ (fun c_24 => ?_) (fun c_24 => ?_)
              · skip
                refine R.eq rfl rfl (show _ = drpS b u (i + 1).toNat F by rw [drpS_s (by omega), ← iv21_2]; first | (rw [show (16 - j).toNat = 0 by omega]; rfl) | (rw [drp1_stop]; rw [iv21_1.2]; rcases h_33 with z | z <;> first | exact absurd z.1 (by omega) | (rw [iv21_1.2] at z; exact z.2))) ?_
                refine R_iinc_2 hX c1_r dX8_dropOld_66 ?_
                refine R_goto (tgt := 11) hX dX8_dropOld_69 (by decide) ?_
                refine R_drop_3 ?_
                exact ih_11 _ (by omega) (by omega)
              · skip
                refine R_aload_0 hX dX8_dropOld_27 ?_
                refine R_iload_2 hX dX8_dropOld_28 ?_
                refine R_aload_1 hX dX8_dropOld_29 ?_
                refine R_geti hX dX8_dropOld_30 fl_X8_187 (to_0 hu) rfl ?_
                refine R_v2i hX dX8_dropOld_33 li_X8_190 mk_X8_isFrontOld mi_X8_isFrontOld rfl (so_0 hb) (c_isFrontOld hu (by rw [iv21_1.2]; exact hN) hb iv21_1.1.2.2.1 (by rw [iv21_1.2]; omega) (by rw [iv21_1.2]; constructor <;> omega)) ⟨⟨by decide, by decide⟩, by decide, by decide, rfl, Nat.le_of_ble_eq_true rfl, rfl⟩ (fun x_33 F_33 h_33 => ?_)
                obtain ⟨h_33, e_33⟩ := h_33; replace e_33 := e_33.symm; subst e_33
                refine R_ifeq (tgt := 66) hX dX8_dropOld_36 (by decide) ⟨by omega, by omega⟩ (fun c_36 => ?_) (fun c_36 => ?_)
                · skip
                  refine R.eq rfl rfl (show _ = drpS b u (i + 1).toNat F by rw [drpS_s (by omega), ← iv21_2]; first | (rw [show (16 - j).toNat = 0 by omega]; rfl) | (rw [drp1_stop]; rw [iv21_1.2]; rcases h_33 with z | z <;> first | exact absurd z.1 (by omega) | (rw [iv21_1.2] at z; exact z.2))) ?_
                  refine R_iinc_2 hX c1_r dX8_dropOld_66 ?_
                  refine R_goto (tgt := 11) hX dX8_dropOld_69 (by decide) ?_
                  refine R_drop_3 ?_
                  exact ih_11 _ (by omega) (by omega)
                · skip
                  have hold : oldF b i (F u 14) G = true := by
                    rcases h_33 with z | z
                    · rw [iv21_1.2] at z; exact z.2
                    · exact absurd z.1 c_36
                  have hold2 := oldF_t hold
                  have hq9 := iv21_1.1.2.2.1.2.1 i (by omega) (by rw [iv21_1.2]; omega)
                  refine R_aload_0 hX dX8_dropOld_39 ?_
                  refine R_getq (v := b + 8) hX dX8_dropOld_40 fl_X8_31 (so_0 hb) rfl (by omega) ?_
                  refine R_iload_2 hX dX8_dropOld_43 ?_
                  refine R_v1v hX dX8_dropOld_44 li_X8_194 mk_X4_removeFront mi_X4_removeFront rfl (so_8 hb) (c_removeFront hb (by omega) (by omega)) ⟨⟨by decide, by decide⟩, by decide, by decide, rfl, Nat.le_of_ble_eq_true rfl, rfl⟩ (fun x_44 F_44 h_44 => ?_)
                  subst h_44
                  refine R_aload_0 hX dX8_dropOld_47 ?_
                  refine R_getq (v := b + 13) hX dX8_dropOld_48 fl_X8_38 (so_0 hb) rfl (by omega) ?_
                  refine R_getq (v := b + 18) hX dX8_dropOld_51 fl_X8_116 (so_13 hb) rfl (by omega) ?_
                  refine R_iload_2 hX dX8_dropOld_54 ?_
                  refine R_dup2 hX c1_i c1_r dX8_dropOld_55 ?_
                  refine R_iald hX dX8_dropOld_56 (sa_18 hb) ⟨by omega, by omega⟩ ?_
                  refine R_iconst hX dX8_dropOld_57 ?_
                  refine R_iadd hX dX8_dropOld_58 ?_
                  refine R_iast hX dX8_dropOld_59 (sa_18 hb) ⟨by omega, by omega⟩ ?_
                  refine R.eq rfl rfl (show up (rmS b i G) (b + 18) i (rmS b i G (b + 18) i + 1) = up (rmS b i G) (b + 18) i (G (b + 18) i + 1) by rw [rmS_r (by omega)]) ?_
                  refine R_iinc_3 hX c1_i dX8_dropOld_60 ?_
                  refine R_goto (tgt := 21) hX dX8_dropOld_63 (by decide) ?_
                  exact ih_21 _ _ (by omega) ⟨iv21_1.1.dr1 hd (by rw [iv21_1.2]; omega) (by omega), by rw [up_r (by omega), rmS_r (by omega)]; exact iv21_1.2⟩ (by rw [← iv21_2, drp1_go (k := (16 - j).toNat) (F := G) (by omega) (by rw [iv21_1.2]; exact hold), show (16 - j).toNat - 1 = (16 - (j + 1)).toNat by omega]) (by omega)
          exact lp_21 18 _ _ (by omega) ⟨hS2, eu⟩ rfl (by omega)
    exact lp_11 14 _ (by omega) (by omega)
  · skip
    exact R_vret hX dX8_dropOld_8 (by unfold drpA; rw [if_pos c_5])
set_option maxRecDepth 100000 in
set_option maxHeartbeats 4000000 in
theorem c_dispatch {V : VX} {T : Shp} {F : Hp} {u b : Int} (hu : isSu u) (hb : isSt b) {K : Int} (hS : StA b u K F) (hK : K ≤ 1000000)  : Ct V yX8_dispatch cX8_dispatch 5 (some .int) 4 129 0 0 (SH T) [vr V b, vr V u] F (SH T) 1 (fun r F' => r = (dspS b u (F u 13).toNat F).1 ∧ F' = (dspS b u (F u 13).toNat F).2) := by
  refine Ct.of [some (vr V b), some (vr V u), none, none, none] (by decide) (by simp [lg_sl, vi_cat, vl_cat, vr_cat]) rfl (by simp [asc, lv_args, vi_cat, vl_cat, vr_cat]) (fun X hV hX => ?_)
  subst hV
  have hd := dj_of hu hb
  have hN := hS.1.1
  have hlm := hS.1.2.2.2.2.2.2.2.2.1
  refine R_iconst hX dX8_dispatch_0 ?_
  refine R_istore_2 hX c1_r dX8_dispatch_1 ?_
  have lp_2 : ∀ (n : Nat) (t : Int) (G : Hp), (0 ≤ t ∧ t ≤ F u 13) → (StA b u K G ∧ G u = F u) → (dspS b u (F u 13).toNat F = ((dspS b u (F u 13 - t).toNat G).1 + t, (dspS b u (F u 13 - t).toNat G).2)) → (100 - t).toNat < n → R X (SH T) 0 0 2 [some (vr (xV X) b), some (vr (xV X) u), some (vi t), none, none] [] G (Zq X (SH T) 1 (fun r F' => r = (dspS b u (F u 13).toNat F).1 ∧ F' = (dspS b u (F u 13).toNat F).2) 0 0) := by
    intro n
    induction n with
    | zero => intro t G iv2_0 iv2_1 iv2_2 hm; exact absurd hm (Nat.not_lt_zero _)
    | succ n ih_2 =>
      intro t G iv2_0 iv2_1 iv2_2 hm_2
      refine R_iload_2 hX dX8_dispatch_2 ?_
      refine R_aload_1 hX dX8_dispatch_3 ?_
      refine R_geti hX dX8_dispatch_4 fl_X8_204 (to_0 hu) rfl ?_
      refine R_icmpge (tgt := 71) hX dX8_dispatch_7 (by decide) ⟨by omega, by omega⟩ (by rw [iv2_1.2]; constructor <;> omega) (fun c_7 => ?_) (fun c_7 => ?_)
      · skip
        rw [iv2_1.2] at c_7
        refine R_aload_1 hX dX8_dispatch_71 ?_
        refine R_geti hX dX8_dispatch_72 fl_X8_204 (to_0 hu) rfl ?_
        exact R_iret hX dX8_dispatch_75 (by rw [iv2_2, show F u 13 - t = 0 by omega]; refine ⟨?_, rfl⟩; rw [iv2_1.2, show t = F u 13 by omega]; exact (Int.zero_add _).symm)
      · skip
        rw [iv2_1.2] at c_7
        refine R_aload_0 hX dX8_dispatch_10 ?_
        refine R_aload_1 hX dX8_dispatch_11 ?_
        refine R_v1i hX dX8_dispatch_12 li_X8_207 mk_X8_chooseLeaf mi_X8_chooseLeaf rfl (so_0 hb) (c_chooseLeaf hu hb iv2_1.1.1 iv2_1.1.2.1 iv2_1.1.2.2.1 iv2_1.1.2.2.2.2 (by omega)) ⟨⟨by decide, by decide⟩, by decide, by decide, rfl, Nat.le_of_ble_eq_true rfl, rfl⟩ (fun x_12 F_12 h_12 => ?_)
        obtain ⟨h_12, e_12⟩ := h_12; replace e_12 := e_12.symm; subst e_12
        subst h_12
        have hcr := chlS_rng b u G iv2_1.1.1.1.1
        have hNG := iv2_1.1.1.1
        refine R_istore_3 hX c1_i dX8_dispatch_15 ?_
        refine R_iload_3 hX dX8_dispatch_16 ?_
        refine R_bipush hX dX8_dispatch_17 (by decide) ?_
        refine R_icmpne (tgt := 24) hX dX8_dispatch_19 (by decide) ⟨by omega, by omega⟩ ⟨by omega, by omega⟩ (fun c_19 => ?_) (fun c_19 => ?_)
        · skip
          have hrg : 0 ≤ chlS b u G ∧ chlS b u G < G u 0 ∧ dstS b u G (chlS b u G) ≠ -2 := by have := chlS_rng b u G iv2_1.1.1.1.1; omega
          have hk := dstS_ok iv2_1.1.2.2.1 hrg.1 hrg.2.1 hrg.2.2
          have hok := lndS_ok (b := b) iv2_1.1.1.2.1 hrg.2.1 hk.2.1
          have hNG := iv2_1.1.1.1
          refine R_aload_0 hX dX8_dispatch_24 ?_
          refine R_getq (v := b + 8) hX dX8_dispatch_25 fl_X8_31 (so_0 hb) rfl (by omega) ?_
          refine R_getq (v := b + 11) hX dX8_dispatch_28 fl_X8_210 (so_8 hb) rfl (by omega) ?_
          refine R_iload_3 hX dX8_dispatch_31 ?_
          refine R_bipush hX dX8_dispatch_32 (by decide) ?_
          refine R_imul hX dX8_dispatch_34 ?_
          refine R_iald hX dX8_dispatch_35 (sa_11 hb) ⟨by omega, by omega⟩ ?_
          refine R_istore_4 hX c1_i dX8_dispatch_36 ?_
          refine R_aload_0 hX dX8_dispatch_38 ?_
          refine R_aload_1 hX dX8_dispatch_39 ?_
          refine R_iload_3 hX dX8_dispatch_40 ?_
          refine R_aload_0 hX dX8_dispatch_41 ?_
          refine R_getq (v := b + 4) hX dX8_dispatch_42 fl_X8_24 (so_0 hb) rfl (by omega) ?_
          refine R_aload_1 hX dX8_dispatch_45 ?_
          refine R_iload_3 hX dX8_dispatch_46 ?_
          refine R_iload_4 hX dX8_dispatch_47 ?_
          refine R_v3i hX dX8_dispatch_49 li_X8_213 mk_X0_findLender mi_X0_findLender rfl (so_4 hb) (c_findLender hu iv2_1.1.1.1 hb iv2_1.1.1.2.1 (fun n z0 z1 => by have k1 := iv2_1.1.2.1 n z0 z1; have k2 := iv2_1.1.1.2.2.2.2.2.2.1 n z0 z1; omega) iv2_1.1.1.2.2.2.2.2.2.2.1 ⟨hrg.1, hrg.2.1⟩ hk.2.2) ⟨⟨by decide, by decide⟩, by decide, by decide, rfl, Nat.le_of_ble_eq_true rfl, rfl⟩ (fun x_49 F_49 h_49 => ?_)
          obtain ⟨h_49, e_49⟩ := h_49; replace e_49 := e_49.symm; subst e_49
          replace h_49 : x_49 = lndS b u G (chlS b u G) (G (b + 11) (chlS b u G * 16)) := h_49
          subst h_49
          refine R_iload_4 hX dX8_dispatch_52 ?_
          refine R_v4v hX dX8_dispatch_54 li_X8_217 mk_X8_send mi_X8_send rfl (so_0 hb) (c_send hu hb iv2_1.1 hK ⟨hrg.1, hrg.2.1⟩ hok hk.2.2) ⟨⟨by decide, by decide⟩, by decide, by decide, rfl, Nat.le_of_ble_eq_true rfl, rfl⟩ (fun x_54 F_54 h_54 => ?_)
          subst h_54
          refine R_aload_0 hX dX8_dispatch_57 ?_
          refine R_getq (v := b + 8) hX dX8_dispatch_58 fl_X8_31 (so_0 hb) rfl (by omega) ?_
          refine R_iload_3 hX dX8_dispatch_61 ?_
          refine R_v1v hX dX8_dispatch_62 li_X8_194 mk_X4_removeFront mi_X4_removeFront rfl (so_8 hb) (c_removeFront hb (by omega) (by rw [sndS_r (by omega)]; have := iv2_1.1.2.2.1.2.1 (chlS b u G) hrg.1 hrg.2.1; have := hk.1; omega)) ⟨⟨by decide, by decide⟩, by decide, by decide, rfl, Nat.le_of_ble_eq_true rfl, rfl⟩ (fun x_62 F_62 h_62 => ?_)
          subst h_62
          refine R.eq rfl rfl (show _ = rmS b (chlS b u G) (sndS b u (chlS b u G) (lndS b u G (chlS b u G) (G (b + 11) (chlS b u G * 16))) (G (b + 11) (chlS b u G * 16)) G) from rfl) ?_
          refine R_iinc_2 hX c1_r dX8_dispatch_65 ?_
          refine R_goto (tgt := 2) hX dX8_dispatch_68 (by decide) ?_
          refine R_drop_3 ?_
          refine R_drop_4 ?_
          exact ih_2 _ _ (by omega) ⟨iv2_1.1.dis hd (by omega) hok ⟨hrg.1, hrg.2.1⟩ hk.2.2 hk.1, by rw [rmS_r (by omega), sndS_r (by omega)]; exact iv2_1.2⟩ (by rw [iv2_2, dspS_go (by omega) c_19, show (F u 13 - t).toNat - 1 = (F u 13 - (t + 1)).toNat by omega]; exact Prod.ext (by dsimp only; omega) rfl) (by omega)
        · skip
          refine R_iload_2 hX dX8_dispatch_22 ?_
          exact R_iret hX dX8_dispatch_23 (by rw [iv2_2, dspS_stop c_19]; exact ⟨(Int.zero_add _).symm, rfl⟩)
  exact lp_2 101 _ _ (by omega) ⟨hS, rfl⟩ (by rw [Int.add_zero, Int.sub_zero]) (by omega)
