set_option maxRecDepth 100000 in
set_option maxHeartbeats 4000000 in
theorem c_makeTick {V : VX} {T : Shp} {F : Hp} {u b : Int} (hu : isSu u) (hb : isSt b) {K : Int} (hS : StA b u K F) (hK : K ≤ 1000000) (ht : F b 1 < 5000)  : Ct V yX8_makeTick cX8_makeTick 3 (some .int) 5 153 0 0 (SH T) [vr V b, vr V u] F (SH T) 1 (fun r F' => r = (tikS b u F).1 ∧ F' = (tikS b u F).2) := by
  refine Ct.of [some (vr V b), some (vr V u), none] (by decide) (by simp [lg_sl, vi_cat, vl_cat, vr_cat]) rfl (by simp [asc, lv_args, vi_cat, vl_cat, vr_cat]) (fun X hV hX => ?_)
  subst hV
  have hd := dj_of hu hb
  have ht0 := hS.2.2.1.1
  have h1 := hS.tm hd ht
  have h2 := h1.chg hd
  have hN := hS.1.1
  have e12 : up F b 1 (F b 1 + 1) (u + 12) = F (u + 12) := up_r (by omega)
  have eu1 : up F b 1 (F b 1 + 1) u = F u := up_r (by omega)
  refine R_aload_0 hX dX8_makeTick_0 ?_
  refine R_dup hX c1_r dX8_makeTick_1 ?_
  refine R_geti hX dX8_makeTick_2 fl_X8_49 (so_0 hb) rfl ?_
  refine R_iconst hX dX8_makeTick_5 ?_
  refine R_iadd hX dX8_makeTick_6 ?_
  refine R_puti hX dX8_makeTick_7 fl_X8_49 (so_0 hb) rfl ?_
  refine R_aload_0 hX dX8_makeTick_10 ?_
  refine R_aload_1 hX dX8_makeTick_11 ?_
  refine R_v1v hX dX8_makeTick_12 li_X8_153 mk_X8_makeChanges mi_X8_makeChanges rfl (so_0 hb) (c_makeChanges hu hb h1.1 (by rw [up_s]; constructor <;> omega)) ⟨⟨by decide, by decide⟩, by decide, by decide, rfl, Nat.le_of_ble_eq_true rfl, rfl⟩ (fun x_12 F_12 h_12 => ?_)
  subst h_12
  rw [e12]
  rw [e12] at h2
  refine R_iconst hX dX8_makeTick_15 ?_
  refine R_istore_2 hX c1_r dX8_makeTick_16 ?_
  have lp_17 : ∀ (n : Nat) (i : Int), (0 ≤ i ∧ i ≤ F u 0) → (13 - i).toNat < n → R X (SH T) 0 0 17 [some (vr (xV X) b), some (vr (xV X) u), some (vi i)] [] (refS b u i.toNat (chgS b u (F (u + 12) 0).toNat (up F b 1 (F b 1 + 1)))) (Zq X (SH T) 1 (fun r F' => r = (tikS b u F).1 ∧ F' = (tikS b u F).2) 0 0) := by
    intro n
    induction n with
    | zero => intro i iv17_0 hm; exact absurd hm (Nat.not_lt_zero _)
    | succ n ih_17 =>
      intro i iv17_0 hm_17
      have eu : (refS b u i.toNat (chgS b u (F (u + 12) 0).toNat (up F b 1 (F b 1 + 1)))) u = F u := by rw [refS_r (by omega), chgS_r (by omega), up_r (by omega)]
      have hS3 : SuI u (refS b u i.toNat (chgS b u (F (u + 12) 0).toNat (up F b 1 (F b 1 + 1)))) := (h2.1.ref hd)
      have hA3 : AcI b u (refS b u i.toNat (chgS b u (F (u + 12) 0).toNat (up F b 1 (F b 1 + 1)))) := h2.2.1.ref hd h2.1 _ (by rw [chgS_r (by omega), up_r (by omega)]; omega)
      refine R_iload_2 hX dX8_makeTick_17 ?_
      refine R_aload_1 hX dX8_makeTick_18 ?_
      refine R_geti hX dX8_makeTick_19 fl_X8_85 (to_0 hu) rfl ?_
      refine R_icmpge (tgt := 52) hX dX8_makeTick_22 (by decide) ⟨by omega, by omega⟩ (by rw [eu]; constructor <;> omega) (fun c_22 => ?_) (fun c_22 => ?_)
      · skip
        rw [eu] at c_22
        have hi : i = F u 0 := by omega
        subst hi
        have hR : StA b u K (refS b u (F u 0).toNat (chgS b u (F (u + 12) 0).toNat (up F b 1 (F b 1 + 1)))) := by
          have := h2.ref hd
          rw [chgS_r (a := u) (by omega), up_r (a := u) (by omega)] at this
          exact this
        refine R_aload_0 hX dX8_makeTick_52 ?_
        refine R_aload_1 hX dX8_makeTick_53 ?_
        refine R_v1v hX dX8_makeTick_54 li_X8_159 mk_X8_dropOld mi_X8_dropOld rfl (so_0 hb) (c_dropOld hu hb hR) ⟨⟨by decide, by decide⟩, by decide, by decide, rfl, Nat.le_of_ble_eq_true rfl, rfl⟩ (fun x_54 F_54 h_54 => ?_)
        subst h_54
        refine R_aload_0 hX dX8_makeTick_57 ?_
        refine R_aload_1 hX dX8_makeTick_58 ?_
        refine R_v1i hX dX8_makeTick_59 li_X8_162 mk_X8_dispatch mi_X8_dispatch rfl (so_0 hb) (c_dispatch hu hb (hR.pdrpA hd) hK) ⟨⟨by decide, by decide⟩, by decide, by decide, rfl, Nat.le_of_ble_eq_true rfl, rfl⟩ (fun x_59 F_59 h_59 => ?_)
        exact R_iret hX dX8_makeTick_62 (by rw [show tikS b u F = dspS b u (F u 13).toNat (drpA b u (refS b u (F u 0).toNat (chgS b u (F (u + 12) 0).toNat (up F b 1 (F b 1 + 1))))) from rfl]; rw [drpA_r (a := u) (by omega), refS_r (a := u) (by omega), chgS_r (a := u) (by omega), up_r (a := u) (by omega)] at h_59; exact h_59)
      · skip
        rw [eu] at c_22
        refine R_aload_0 hX dX8_makeTick_25 ?_
        refine R_getq (v := b + 4) hX dX8_makeTick_26 fl_X8_24 (so_0 hb) rfl (by omega) ?_
        refine R_aload_1 hX dX8_makeTick_29 ?_
        refine R_iload_2 hX dX8_makeTick_30 ?_
        refine R_aload_0 hX dX8_makeTick_31 ?_
        refine R_getq (v := b + 1) hX dX8_makeTick_32 fl_X8_9 (so_0 hb) rfl (by omega) ?_
        refine R_iload_2 hX dX8_makeTick_35 ?_
        refine R_iald hX dX8_makeTick_36 (sa_1 hb) ⟨by omega, by omega⟩ ?_
        refine R_aload_0 hX dX8_makeTick_37 ?_
        refine R_getq (v := b + 2) hX dX8_makeTick_38 fl_X8_15 (so_0 hb) rfl (by omega) ?_
        refine R_iload_2 hX dX8_makeTick_41 ?_
        refine R_iald hX dX8_makeTick_42 (sa_2 hb) ⟨by omega, by omega⟩ ?_
        refine R_v4v hX dX8_makeTick_43 li_X8_156 mk_X0_refill mi_X0_refill rfl (so_4 hb) (c_refill hu (by rw [eu]; exact hN) hb (by rw [eu]; omega) (by have := hA3 i (by omega) (by rw [eu]; omega); omega) (by have := hA3 i (by omega) (by rw [eu]; omega); omega) (by have := hA3 i (by omega) (by rw [eu]; omega); have := hS3.2.2.2.2.2.2.1 i (by omega) (by rw [eu]; omega); omega)) ⟨⟨by decide, by decide⟩, by decide, by decide, rfl, Nat.le_of_ble_eq_true rfl, rfl⟩ (fun x_43 F_43 h_43 => ?_)
        subst h_43
        refine R.eq rfl rfl (show rfS1 b u i (refS b u i.toNat (chgS b u (F (u + 12) 0).toNat (up F b 1 (F b 1 + 1)))) = _ by rw [← refS_s (by omega)]) ?_
        refine R_iinc_2 hX c1_r dX8_makeTick_46 ?_
        refine R_goto (tgt := 17) hX dX8_makeTick_49 (by decide) ?_
        exact ih_17 _ (by omega) (by omega)
  exact lp_17 14 _ (by omega) (by omega)
set_option maxRecDepth 100000 in
set_option maxHeartbeats 4000000 in
theorem c_makeTicks {V : VX} {T : Shp} {F : Hp} {u b : Int} (hu : isSu u) (hb : isSt b) {K : Int} (hS : StA b u K F) (hK : K ≤ 1000000) {m : Int} (hn : 0 ≤ m) (ht : F b 1 + m ≤ 5000)  : Ct V yX8_makeTicks cX8_makeTicks 5 (some .int) 6 175 0 0 (SH T) [vr V b, vr V u, vi m] F (SH T) 1 (fun r F' => r = (tksS b u m.toNat F).1 ∧ F' = (tksS b u m.toNat F).2) := by
  refine Ct.of [some (vr V b), some (vr V u), some (vi m), none, none] (by decide) (by simp [lg_sl, vi_cat, vl_cat, vr_cat]) rfl (by simp [asc, lv_args, vi_cat, vl_cat, vr_cat]) (fun X hV hX => ?_)
  subst hV
  have hd := dj_of hu hb
  have ht0 := hS.2.2.1.1
  refine R_iconst hX dX8_makeTicks_0 ?_
  refine R_istore_3 hX c1_i dX8_makeTicks_1 ?_
  refine R_iconst hX dX8_makeTicks_2 ?_
  refine R_istore_4 hX c1_i dX8_makeTicks_3 ?_
  have lp_5 : ∀ (n : Nat) (i : Int), (0 ≤ i ∧ i ≤ m) → (m + 1 - i).toNat < n → R X (SH T) 0 0 5 [some (vr (xV X) b), some (vr (xV X) u), some (vi m), some (vi (tksS b u i.toNat F).1), some (vi i)] [] (tksS b u i.toNat F).2 (Zq X (SH T) 1 (fun r F' => r = (tksS b u m.toNat F).1 ∧ F' = (tksS b u m.toNat F).2) 0 0) := by
    intro n
    induction n with
    | zero => intro i iv5_0 hm; exact absurd hm (Nat.not_lt_zero _)
    | succ n ih_5 =>
      intro i iv5_0 hm_5
      have hk := hS.tks hd (by omega) i.toNat (by omega)
      refine R_iload_4 hX dX8_makeTicks_5 ?_
      refine R_iload_2 hX dX8_makeTicks_7 ?_
      refine R_icmpge (tgt := 25) hX dX8_makeTicks_8 (by decide) ⟨by omega, by omega⟩ ⟨by omega, by omega⟩ (fun c_8 => ?_) (fun c_8 => ?_)
      · skip
        refine R_iload_3 hX dX8_makeTicks_25 ?_
        exact R_iret hX dX8_makeTicks_26 (by rw [show m = i by omega]; exact ⟨rfl, rfl⟩)
      · skip
        refine R_iload_3 hX dX8_makeTicks_11 ?_
        refine R_aload_0 hX dX8_makeTicks_12 ?_
        refine R_aload_1 hX dX8_makeTicks_13 ?_
        refine R_v1i hX dX8_makeTicks_14 li_X8_149 mk_X8_makeTick mi_X8_makeTick rfl (so_0 hb) (c_makeTick hu hb hk.1 hK (by omega)) ⟨⟨by decide, by decide⟩, by decide, by decide, rfl, Nat.le_of_ble_eq_true rfl, rfl⟩ (fun x_14 F_14 h_14 => ?_)
        refine R_iadd hX dX8_makeTicks_17 ?_
        refine R_istore_3 hX c1_i dX8_makeTicks_18 ?_
        refine R.eq (show _ = [some (vr (xV X) b), some (vr (xV X) u), some (vi m), some (vi (tksS b u (i + 1).toNat F).1), some (vi i)] by rw [tksS_s (by omega), h_14.1]) rfl (show _ = (tksS b u (i + 1).toNat F).2 by rw [tksS_s (by omega), h_14.2]) ?_
        refine R_iinc_4 hX c1_i dX8_makeTicks_19 ?_
        refine R_goto (tgt := 5) hX dX8_makeTicks_22 (by decide) ?_
        exact ih_5 _ (by omega) (by omega)
  exact lp_5 (m + 2).toNat 0 (by omega) (by omega)
