theorem Tv.tk {K : Int} {F D G H : Hp} (h : Tv F D G) (hD : StA 1000 1100 K D) (ht : D 1000 1 < 5000) (h2 : Tv G (tikS 1000 1100 (vw 0 G)).2 H) : (tikS 1000 1100 D).1 = (tikS 1000 1100 (vw 0 G)).1 ∧ Tv F (tikS 1000 1100 D).2 H := by
  obtain ⟨j1, j2, j3⟩ := Ag.tik dj1 dj1 (by decide) h.U h.1 hD ht
  exact ⟨j1, j3.tr (by rw [tikS_r (by omega), tikS_r (by omega), h.2.1 1100 (by decide), h.2.2.su (by decide)]) h2.1, fun a z => by funext i; rw [tikS_r (by omega), h.2.1 a z], h.2.2.tr h2.2.2⟩
/-- nothing but the row of trials differs -/
def Sm (F G : Hp) : Prop := (∀ a : Int, a ≠ 137 → G a = F a) ∧ (∀ i : Int, 0 ≤ i → i < 2457 → G 137 i = F 137 i)
set_option maxRecDepth 100000 in
set_option maxHeartbeats 4000000 in
theorem r_mostServed {V : VX} {F : Hp} {K : Int} (h : RI K F) (hK : K ≤ 1000000)  : Ct V yX12_mostServed cX12_mostServed 3 (some .int) 3 68 0 0 SH [vr V 136] F SH 1 (fun r F' => F' = up F 136 0 0 ∧ r = msS 1000 1100 (vw 0 F') (F' 136 3).toNat) := by
  refine Ct.of [some (vr V 136), none, none] (by decide) (by simp [lg_sl, vi_cat, vl_cat, vr_cat]) rfl (by simp [asc, lv_args, vi_cat, vl_cat, vr_cat]) (fun X hV hX => ?_)
  subst hV
  refine R_aload_0 hX dX12_mostServed_0 ?_
  refine R_iconst hX dX12_mostServed_1 ?_
  refine R_puti hX dX12_mostServed_2 fl_X12_88 o_136 rfl ?_
  refine R.gen (fun H hH => ?_)
  have hR : RI K H := by rw [hH]; exact h.z
  have hN := ri_N hR
  have hT := ri_T hR
  have hA := ri_A hR
  have hSS := ri_S hR
  have hB := ri_B hR
  have hQ := (ri_Q hR).2.1
  refine R_bipush hX dX12_mostServed_5 (by decide) ?_
  refine R_istore_1 hX c1_r dX12_mostServed_7 ?_
  refine R_iconst hX dX12_mostServed_8 ?_
  refine R_istore_2 hX c1_i dX12_mostServed_9 ?_
  have lp_10 : ∀ (n : Nat) (best : Int) (x : Int), (0 ≤ x ∧ x ≤ H 136 3) → (best = msS 1000 1100 (vw 0 H) x.toNat) → (13 - x).toNat < n → R X SH 0 0 10 [some (vr (xV X) 136), some (vi best), some (vi x)] [] H (Zq X SH 1 (fun r F' => F' = up F 136 0 0 ∧ r = msS 1000 1100 (vw 0 F') (F' 136 3).toNat) 0 0) := by
    intro n
    induction n with
    | zero => intro best x iv10_0 iv10_1 hm; exact absurd hm (Nat.not_lt_zero _)
    | succ n ih_10 =>
      intro best x iv10_0 iv10_1 hm_10
      have hmr := msS_rng (b := 1000) (u := 1100) (F := vw 0 H) x.toNat
      rw [← iv10_1] at hmr
      have hms := msS_s (b := 1000) (u := 1100) (F := vw 0 H) iv10_0.1
      rw [← iv10_1, show (1100 : Int) + 4 = 1104 from rfl, show (1000 : Int) + 14 = 1014 from rfl, show (1000 : Int) + 3 = 1003 from rfl, vw_1104] at hms
      have hv : ∀ i : Int, 0 ≤ i → i < 12 → vw 0 H 1014 i = H 137 (39 + i) ∧ vw 0 H 1003 i = H 137 (123 + i) := fun i z0 z1 => ⟨vw_14 ⟨z0, z1⟩, vw_3 ⟨z0, z1⟩⟩
      refine R_iload_2 hX dX12_mostServed_10 ?_
      refine R_aload_0 hX dX12_mostServed_11 ?_
      refine R_geti hX dX12_mostServed_12 fl_X12_91 o_136 rfl ?_
      refine R_icmpge (tgt := 86) hX dX12_mostServed_15 (by decide) (by constructor <;> first | omega | (simp (disch := omega) only [up_k, up_i, up_s]; omega)) (by constructor <;> first | omega | (simp (disch := omega) only [up_k, up_i, up_s]; omega)) (fun c_15 => ?_) (fun c_15 => ?_)
      · skip
        refine R_iload_1 hX dX12_mostServed_86 ?_
        exact R_iret hX dX12_mostServed_87 ⟨hH, by rw [iv10_1, show x = H 136 3 by omega]⟩
      · skip
        have hvx := hv x (by omega) (by omega)
        have hq3 : chlC (H 141) (H 136 3) x ≠ 0 → best = msS 1000 1100 (vw 0 H) (x + 1).toNat := fun q => by rw [hms, if_neg (fun z => q z.1)]
        have hq1 : chlC (H 141) (H 136 3) x = 0 → best = -2 → x = msS 1000 1100 (vw 0 H) (x + 1).toNat := fun q p => by rw [hms, if_pos ⟨q, Or.inl p⟩]
        have hq2 : chlC (H 141) (H 136 3) x = 0 → best ≠ -2 → H 137 (39 + best) * H 137 (123 + x) < H 137 (39 + x) * H 137 (123 + best) → x = msS 1000 1100 (vw 0 H) (x + 1).toNat := fun q p w => by
          have hvb := hv best (by omega) (by omega)
          rw [hms, hvx.1, hvx.2, hvb.1, hvb.2, if_pos ⟨q, Or.inr w⟩]
        have hq4 : best ≠ -2 → ¬ (H 137 (39 + best) * H 137 (123 + x) < H 137 (39 + x) * H 137 (123 + best)) → best = msS 1000 1100 (vw 0 H) (x + 1).toNat := fun p w => by
          have hvb := hv best (by omega) (by omega)
          rw [hms, hvx.1, hvx.2, hvb.1, hvb.2, if_neg (fun z => z.2.elim p w)]
        refine R_aload_0 hX dX12_mostServed_18 ?_
        refine R_iload_2 hX dX12_mostServed_19 ?_
        refine R_v1i hX dX12_mostServed_20 li_X12_247 mk_X12_isBare mi_X12_isBare rfl o_136 (r_isBare hR (by constructor <;> omega)) ⟨⟨by decide, by decide⟩, by decide, by decide, rfl, Nat.le_of_ble_eq_true rfl, rfl⟩ (fun x_20 F_20 h_20 => ?_)
        obtain ⟨h_20, e_20⟩ := h_20; replace e_20 := e_20.symm; subst e_20
        refine R_ifeq (tgt := 80) hX dX12_mostServed_23 (by decide) (by constructor <;> first | omega | (simp (disch := omega) only [up_k, up_i, up_s]; omega)) (fun c_23 => ?_) (fun c_23 => ?_)
        · skip
          first | (have hge : ¬ (H 137 (39 + best) * H 137 (123 + x) < H 137 (39 + x) * H 137 (123 + best)) := by unfold lc at c_75; split at c_75 <;> (try split at c_75) <;> omega) | skip
          refine R_iinc_2 hX c1_i dX12_mostServed_80 ?_
          refine R_goto (tgt := 10) hX dX12_mostServed_83 (by decide) ?_
          exact ih_10 _ (x + 1) (by omega) (by first | exact hq3 (by omega) | exact hq1 (by omega) (by omega) | exact hq2 (by omega) (by omega) hlt | exact hq4 (by omega) hge) (by omega)
        · skip
          refine R_iload_1 hX dX12_mostServed_26 ?_
          refine R_bipush hX dX12_mostServed_27 (by decide) ?_
          refine R_icmpeq (tgt := 78) hX dX12_mostServed_29 (by decide) (by constructor <;> first | omega | (simp (disch := omega) only [up_k, up_i, up_s]; omega)) (by constructor <;> first | omega | (simp (disch := omega) only [up_k, up_i, up_s]; omega)) (fun c_29 => ?_) (fun c_29 => ?_)
          · skip
            first | (have hlt : H 137 (39 + best) * H 137 (123 + x) < H 137 (39 + x) * H 137 (123 + best) := by unfold lc at c_75; split at c_75 <;> (try split at c_75) <;> omega) | skip
            refine R_iload_2 hX dX12_mostServed_78 ?_
            refine R_istore_1 hX c1_r dX12_mostServed_79 ?_
            first | (have hge : ¬ (H 137 (39 + best) * H 137 (123 + x) < H 137 (39 + x) * H 137 (123 + best)) := by unfold lc at c_75; split at c_75 <;> (try split at c_75) <;> omega) | skip
            refine R_iinc_2 hX c1_i dX12_mostServed_80 ?_
            refine R_goto (tgt := 10) hX dX12_mostServed_83 (by decide) ?_
            exact ih_10 _ (x + 1) (by omega) (by first | exact hq3 (by omega) | exact hq1 (by omega) (by omega) | exact hq2 (by omega) (by omega) hlt | exact hq4 (by omega) hge) (by omega)
          · skip
            have ax := hA x (by omega) (by omega)
            have ab := hA best (by omega) (by omega)
            have bx := hB x (by omega) (by omega)
            have bb := hB best (by omega) (by omega)
            have qx := hQ x (by omega) (by omega)
            have qb := hQ best (by omega) (by omega)
            have m1 := mul_rng (x := H 137 (39 + x)) (y := H 137 (123 + best)) (A := 1000000) (B := 9) (by omega) (by omega)
            have m2 := mul_rng (x := H 137 (39 + best)) (y := H 137 (123 + x)) (A := 1000000) (B := 9) (by omega) (by omega)
            refine R_aload_0 hX dX12_mostServed_32 ?_
            refine R_getq (v := 137) hX dX12_mostServed_33 fl_X12_7 o_136 rfl (by omega) ?_
            refine R_bipush hX dX12_mostServed_36 (by decide) ?_
            refine R_iload_2 hX dX12_mostServed_38 ?_
            refine R_iadd hX dX12_mostServed_39 ?_
            refine R_iald hX dX12_mostServed_40 a_137 ⟨by omega, by omega⟩ ?_
            refine R_i2l hX (by constructor <;> first | omega | (simp (disch := omega) only [up_k, up_i, up_s]; omega)) dX12_mostServed_41 ?_
            refine R_aload_0 hX dX12_mostServed_42 ?_
            refine R_getq (v := 137) hX dX12_mostServed_43 fl_X12_7 o_136 rfl (by omega) ?_
            refine R_bipush hX dX12_mostServed_46 (by decide) ?_
            refine R_iload_1 hX dX12_mostServed_48 ?_
            refine R_iadd hX dX12_mostServed_49 ?_
            refine R_iald hX dX12_mostServed_50 a_137 ⟨by omega, by omega⟩ ?_
            refine R_i2l hX (by constructor <;> first | omega | (simp (disch := omega) only [up_k, up_i, up_s]; omega)) dX12_mostServed_51 ?_
            refine R_lmul hX dX12_mostServed_52 ?_
            refine R_aload_0 hX dX12_mostServed_53 ?_
            refine R_getq (v := 137) hX dX12_mostServed_54 fl_X12_7 o_136 rfl (by omega) ?_
            refine R_bipush hX dX12_mostServed_57 (by decide) ?_
            refine R_iload_1 hX dX12_mostServed_59 ?_
            refine R_iadd hX dX12_mostServed_60 ?_
            refine R_iald hX dX12_mostServed_61 a_137 ⟨by omega, by omega⟩ ?_
            refine R_i2l hX (by constructor <;> first | omega | (simp (disch := omega) only [up_k, up_i, up_s]; omega)) dX12_mostServed_62 ?_
            refine R_aload_0 hX dX12_mostServed_63 ?_
            refine R_getq (v := 137) hX dX12_mostServed_64 fl_X12_7 o_136 rfl (by omega) ?_
            refine R_bipush hX dX12_mostServed_67 (by decide) ?_
            refine R_iload_2 hX dX12_mostServed_69 ?_
            refine R_iadd hX dX12_mostServed_70 ?_
            refine R_iald hX dX12_mostServed_71 a_137 ⟨by omega, by omega⟩ ?_
            refine R_i2l hX (by constructor <;> first | omega | (simp (disch := omega) only [up_k, up_i, up_s]; omega)) dX12_mostServed_72 ?_
            refine R_lmul hX dX12_mostServed_73 ?_
            refine R_lcmp hX (by constructor <;> first | omega | (simp (disch := omega) only [up_k, up_i, up_s]; omega)) (by constructor <;> first | omega | (simp (disch := omega) only [up_k, up_i, up_s]; omega)) dX12_mostServed_74 ?_
            refine R_ifle (tgt := 80) hX dX12_mostServed_75 (by decide) (by unfold lc; split <;> (try split) <;> constructor <;> omega) (fun c_75 => ?_) (fun c_75 => ?_)
            · skip
              first | (have hge : ¬ (H 137 (39 + best) * H 137 (123 + x) < H 137 (39 + x) * H 137 (123 + best)) := by unfold lc at c_75; split at c_75 <;> (try split at c_75) <;> omega) | skip
              refine R_iinc_2 hX c1_i dX12_mostServed_80 ?_
              refine R_goto (tgt := 10) hX dX12_mostServed_83 (by decide) ?_
              exact ih_10 _ (x + 1) (by omega) (by first | exact hq3 (by omega) | exact hq1 (by omega) (by omega) | exact hq2 (by omega) (by omega) hlt | exact hq4 (by omega) hge) (by omega)
            · skip
              first | (have hlt : H 137 (39 + best) * H 137 (123 + x) < H 137 (39 + x) * H 137 (123 + best) := by unfold lc at c_75; split at c_75 <;> (try split at c_75) <;> omega) | skip
              refine R_iload_2 hX dX12_mostServed_78 ?_
              refine R_istore_1 hX c1_r dX12_mostServed_79 ?_
              first | (have hge : ¬ (H 137 (39 + best) * H 137 (123 + x) < H 137 (39 + x) * H 137 (123 + best)) := by unfold lc at c_75; split at c_75 <;> (try split at c_75) <;> omega) | skip
              refine R_iinc_2 hX c1_i dX12_mostServed_80 ?_
              refine R_goto (tgt := 10) hX dX12_mostServed_83 (by decide) ?_
              exact ih_10 _ (x + 1) (by omega) (by first | exact hq3 (by omega) | exact hq1 (by omega) (by omega) | exact hq2 (by omega) (by omega) hlt | exact hq4 (by omega) hge) (by omega)
  exact lp_10 14 _ 0 (by omega) rfl (by omega)
set_option maxRecDepth 100000 in
set_option maxHeartbeats 4000000 in
theorem r_acquire {V : VX} {F : Hp} {K : Int} (h : RI K F) {l c : Int} (h1 : I32 l) (h2 : I32 c)  : Ct V yX12_acquire cX12_acquire 4 (some .int) 4 90 0 0 SH [vr V 136, vi l, vi c] F SH 1 (fun r F' => ∃ H : Hp, H = up F 136 0 0 ∧ ((¬ (0 ≤ l ∧ l < H 136 3 ∧ chlC (H 141) (H 136 3) l = 0 ∧ 1 ≤ c ∧ c ≤ 99) ∧ r = -1 ∧ F' = H) ∨ (((0 ≤ l ∧ l < H 136 3 ∧ chlC (H 141) (H 136 3) l = 0 ∧ 1 ≤ c ∧ c ≤ 99) ∧ lndS 1000 1100 (vw 0 H) l c = -2) ∧ r = -2 ∧ F' = H) ∨ (((0 ≤ l ∧ l < H 136 3 ∧ chlC (H 141) (H 136 3) l = 0 ∧ 1 ≤ c ∧ c ≤ 99) ∧ lndS 1000 1100 (vw 0 H) l c ≠ -2) ∧ r = dptF (H 141) 13 l - dptF (H 141) 13 (lndS 1000 1100 (vw 0 H) l c) ∧ vw 0 F' = sndS 1000 1100 l (lndS 1000 1100 (vw 0 H) l c) c (vw 0 H) ∧ Fr H F'))) := by
  refine Ct.of [some (vr V 136), some (vi l), some (vi c), none] (by decide) (by simp [lg_sl, vi_cat, vl_cat, vr_cat]) rfl (by simp [asc, lv_args, vi_cat, vl_cat, vr_cat]) (fun X hV hX => ?_)
  subst hV
  refine R_aload_0 hX dX12_acquire_0 ?_
  refine R_iconst hX dX12_acquire_1 ?_
  refine R_puti hX dX12_acquire_2 fl_X12_88 o_136 rfl ?_
  refine R.gen (fun H hH => ?_)
  have hR : RI K H := by rw [hH]; exact h.z
  have hN := ri_N hR
  have hT := ri_T hR
  refine R_aload_0 hX dX12_acquire_5 ?_
  refine R_iload_1 hX dX12_acquire_6 ?_
  refine R_iload_2 hX dX12_acquire_7 ?_
  refine R_v2i hX dX12_acquire_8 li_X12_262 mk_X12_isAsked mi_X12_isAsked rfl o_136 (r_isAsked hR h1 h2) ⟨⟨by decide, by decide⟩, by decide, by decide, rfl, Nat.le_of_ble_eq_true rfl, rfl⟩ (fun x_8 F_8 h_8 => ?_)
  obtain ⟨h_8, e_8⟩ := h_8; replace e_8 := e_8.symm; subst e_8
  refine R_ifne (tgt := 16) hX dX12_acquire_11 (by decide) (by constructor <;> first | omega | (simp (disch := omega) only [up_k, up_i, up_s]; omega)) (fun c_11 => ?_) (fun c_11 => ?_)
  · skip
    refine R_aload_0 hX dX12_acquire_16 ?_
    refine R_iload_1 hX dX12_acquire_17 ?_
    refine R_iload_2 hX dX12_acquire_18 ?_
    refine R_v2i hX dX12_acquire_19 li_X12_266 mk_X12_lends mi_X12_lends rfl o_136 (r_lends hR (by omega) h2) ⟨⟨by decide, by decide⟩, by decide, by decide, rfl, Nat.le_of_ble_eq_true rfl, rfl⟩ (fun x_19 F_19 h_19 => ?_)
    obtain ⟨h_19, e_19⟩ := h_19; replace e_19 := e_19.symm; subst e_19
    subst h_19
    have hlr := lndS_rng (b := 1000) (c := c) hR.1.2.1 (show l < vw 0 H 1100 0 by rw [vw_1100_0]; omega)
    refine R_istore_3 hX c1_i dX12_acquire_22 ?_
    refine R_iload_3 hX dX12_acquire_23 ?_
    refine R_bipush hX dX12_acquire_24 (by decide) ?_
    refine R_icmpne (tgt := 32) hX dX12_acquire_26 (by decide) (by constructor <;> first | omega | (simp (disch := omega) only [up_k, up_i, up_s]; omega)) (by constructor <;> first | omega | (simp (disch := omega) only [up_k, up_i, up_s]; omega)) (fun c_26 => ?_) (fun c_26 => ?_)
    · skip
      have hok := lndS_ok (b := 1000) (c := c) hR.1.2.1 (show l < vw 0 H 1100 0 by rw [vw_1100_0]; omega) c_26
      refine R_aload_0 hX dX12_acquire_32 ?_
      refine R_iload_1 hX dX12_acquire_33 ?_
      refine R_iload_2 hX dX12_acquire_34 ?_
      refine R_iload_3 hX dX12_acquire_35 ?_
      refine R_v3v hX dX12_acquire_36 li_X12_269 mk_X12_sends mi_X12_sends rfl o_136 (r_sends hR (by omega) hok (by omega)) ⟨⟨by decide, by decide⟩, by decide, by decide, rfl, Nat.le_of_ble_eq_true rfl, rfl⟩ (fun x_36 F_36 h_36 => ?_)
      obtain ⟨v5, f5⟩ := h_36
      have hG : RI (K + 99) F_36 := RI.of (by rw [v5]; exact StA.snd dj1 (by decide) hR hok (by rw [vw_1100_0]; omega) (by omega))
      have g1 : F_36 141 = H 141 := f5.1 141 (by decide)
      have g3 : F_36 136 3 = H 136 3 := by rw [f5.1 136 (by decide)]
      have hon : onP (F_36 141) 13 l (lndS 1000 1100 (vw 0 H) l c) = true := by rw [g1]; have := hok.2.1; rw [vw_par] at this; exact this
      refine R_aload_0 hX dX12_acquire_39 ?_
      refine R_iload_1 hX dX12_acquire_40 ?_
      refine R_iload_3 hX dX12_acquire_41 ?_
      refine R_v2i hX dX12_acquire_42 li_X12_250 mk_X12_steps mi_X12_steps rfl o_136 (r_steps hG (by rw [g3]; omega) hon) ⟨⟨by decide, by decide⟩, by decide, by decide, rfl, Nat.le_of_ble_eq_true rfl, rfl⟩ (fun x_42 F_42 h_42 => ?_)
      obtain ⟨h_42, e_42⟩ := h_42; replace e_42 := e_42.symm; subst e_42
      exact R_iret hX dX12_acquire_45 ⟨H, hH, Or.inr (Or.inr ⟨⟨by omega, c_26⟩, by rw [h_42, g1], v5, f5⟩)⟩
    · skip
      refine R_bipush hX dX12_acquire_29 (by decide) ?_
      exact R_iret hX dX12_acquire_31 ⟨H, hH, Or.inr (Or.inl ⟨⟨by omega, c_26⟩, rfl, rfl⟩)⟩
  · skip
    refine R_iconst hX dX12_acquire_14 ?_
    exact R_iret hX dX12_acquire_15 ⟨H, hH, Or.inl ⟨by omega, rfl, rfl⟩⟩
set_option maxRecDepth 100000 in
set_option maxHeartbeats 4000000 in
theorem r_enqueue {V : VX} {F : Hp} {K : Int} (h : RI K F) {l c : Int} (h1 : I32 l) (h2 : I32 c)  : Ct V yX12_enqueue cX12_enqueue 4 (some .int) 4 90 0 0 SH [vr V 136, vi l, vi c] F SH 1 (fun r F' => ∃ H : Hp, H = up F 136 0 0 ∧ ((¬ (0 ≤ l ∧ l < H 136 3 ∧ chlC (H 141) (H 136 3) l = 0 ∧ 1 ≤ c ∧ c ≤ 99) ∧ r = -1 ∧ F' = H) ∨ (((0 ≤ l ∧ l < H 136 3 ∧ chlC (H 141) (H 136 3) l = 0 ∧ 1 ≤ c ∧ c ≤ 99) ∧ 16 ≤ H 137 (135 + l)) ∧ r = -2 ∧ F' = up H 137 (87 + l) (H 137 (87 + l) + 1)) ∨ (((0 ≤ l ∧ l < H 136 3 ∧ chlC (H 141) (H 136 3) l = 0 ∧ 1 ≤ c ∧ c ≤ 99) ∧ H 137 (135 + l) < 16) ∧ r = H 137 1 ∧ vw 0 F' = putS 1000 l c (H 137 0) (vw 0 H) ∧ Fr H F'))) := by
  refine Ct.of [some (vr V 136), some (vi l), some (vi c), none] (by decide) (by simp [lg_sl, vi_cat, vl_cat, vr_cat]) rfl (by simp [asc, lv_args, vi_cat, vl_cat, vr_cat]) (fun X hV hX => ?_)
  subst hV
  refine R_aload_0 hX dX12_enqueue_0 ?_
  refine R_iconst hX dX12_enqueue_1 ?_
  refine R_puti hX dX12_enqueue_2 fl_X12_88 o_136 rfl ?_
  refine R.gen (fun H hH => ?_)
  have hR : RI K H := by rw [hH]; exact h.z
  have hN := ri_N hR
  have hT := ri_T hR
  have hQ := ri_Q hR
  refine R_aload_0 hX dX12_enqueue_5 ?_
  refine R_iload_1 hX dX12_enqueue_6 ?_
  refine R_iload_2 hX dX12_enqueue_7 ?_
  refine R_v2i hX dX12_enqueue_8 li_X12_262 mk_X12_isAsked mi_X12_isAsked rfl o_136 (r_isAsked hR h1 h2) ⟨⟨by decide, by decide⟩, by decide, by decide, rfl, Nat.le_of_ble_eq_true rfl, rfl⟩ (fun x_8 F_8 h_8 => ?_)
  obtain ⟨h_8, e_8⟩ := h_8; replace e_8 := e_8.symm; subst e_8
  refine R_ifne (tgt := 16) hX dX12_enqueue_11 (by decide) (by constructor <;> first | omega | (simp (disch := omega) only [up_k, up_i, up_s]; omega)) (fun c_11 => ?_) (fun c_11 => ?_)
  · skip
    have hq := hQ.2.1 l (by omega) (by omega)
    refine R_aload_0 hX dX12_enqueue_16 ?_
    refine R_getq (v := 137) hX dX12_enqueue_17 fl_X12_7 o_136 rfl (by omega) ?_
    refine R_sipush hX dX12_enqueue_20 (by decide) ?_
    refine R_iload_1 hX dX12_enqueue_23 ?_
    refine R_iadd hX dX12_enqueue_24 ?_
    refine R_iald hX dX12_enqueue_25 a_137 ⟨by omega, by omega⟩ ?_
    try simp (disch := omega) only [up_i, up_s]
    refine R_istore_3 hX c1_i dX12_enqueue_26 ?_
    refine R_iload_3 hX dX12_enqueue_27 ?_
    refine R_bipush hX dX12_enqueue_28 (by decide) ?_
    refine R_icmpne (tgt := 49) hX dX12_enqueue_30 (by decide) (by constructor <;> first | omega | (simp (disch := omega) only [up_k, up_i, up_s]; omega)) (by constructor <;> first | omega | (simp (disch := omega) only [up_k, up_i, up_s]; omega)) (fun c_30 => ?_) (fun c_30 => ?_)
    · skip
      refine R_aload_0 hX dX12_enqueue_49 ?_
      refine R_getq (v := 137) hX dX12_enqueue_50 fl_X12_7 o_136 rfl (by omega) ?_
      refine R_iload_1 hX dX12_enqueue_53 ?_
      refine R_iload_3 hX dX12_enqueue_54 ?_
      refine R_s2i hX dX12_enqueue_55 li_X12_272 mk_X12_place ms_X12_place (r_place) ⟨⟨by decide, by decide⟩, by decide, by decide, rfl, Nat.le_of_ble_eq_true rfl, rfl⟩ (fun x_55 F_55 h_55 => ?_)
      obtain ⟨h_55, e_55⟩ := h_55; replace e_55 := e_55.symm; subst e_55
      rw [h_55]
      refine R_aload_0 hX dX12_enqueue_58 ?_
      refine R_getq (v := 137) hX dX12_enqueue_59 fl_X12_7 o_136 rfl (by omega) ?_
      refine R_iconst hX dX12_enqueue_62 ?_
      refine R_iald hX dX12_enqueue_63 a_137 ⟨by omega, by omega⟩ ?_
      try simp (disch := omega) only [up_i, up_s]
      refine R_iast hX dX12_enqueue_64 a_137 ⟨by omega, by omega⟩ ?_
      refine R_aload_0 hX dX12_enqueue_65 ?_
      refine R_getq (v := 137) hX dX12_enqueue_66 fl_X12_7 o_136 rfl (by omega) ?_
      refine R_iload_1 hX dX12_enqueue_69 ?_
      refine R_iload_3 hX dX12_enqueue_70 ?_
      refine R_s2i hX dX12_enqueue_71 li_X12_272 mk_X12_place ms_X12_place (r_place) ⟨⟨by decide, by decide⟩, by decide, by decide, rfl, Nat.le_of_ble_eq_true rfl, rfl⟩ (fun x_71 F_71 h_71 => ?_)
      obtain ⟨h_71, e_71⟩ := h_71; replace e_71 := e_71.symm; subst e_71
      rw [h_71]
      refine R_iconst hX dX12_enqueue_74 ?_
      refine R_iadd hX dX12_enqueue_75 ?_
      refine R_iload_2 hX dX12_enqueue_76 ?_
      refine R_iast hX dX12_enqueue_77 a_137 ⟨by omega, by omega⟩ ?_
      refine R_aload_0 hX dX12_enqueue_78 ?_
      refine R_getq (v := 137) hX dX12_enqueue_79 fl_X12_7 o_136 rfl (by omega) ?_
      refine R_iload_1 hX dX12_enqueue_82 ?_
      refine R_iload_3 hX dX12_enqueue_83 ?_
      refine R_s2i hX dX12_enqueue_84 li_X12_272 mk_X12_place ms_X12_place (r_place) ⟨⟨by decide, by decide⟩, by decide, by decide, rfl, Nat.le_of_ble_eq_true rfl, rfl⟩ (fun x_84 F_84 h_84 => ?_)
      obtain ⟨h_84, e_84⟩ := h_84; replace e_84 := e_84.symm; subst e_84
      rw [h_84]
      refine R_iconst hX dX12_enqueue_87 ?_
      refine R_iadd hX dX12_enqueue_88 ?_
      refine R_aload_0 hX dX12_enqueue_89 ?_
      refine R_getq (v := 137) hX dX12_enqueue_90 fl_X12_7 o_136 rfl (by omega) ?_
      refine R_iconst hX dX12_enqueue_93 ?_
      refine R_iald hX dX12_enqueue_94 a_137 ⟨by omega, by omega⟩ ?_
      try simp (disch := omega) only [up_i, up_s]
      refine R_iast hX dX12_enqueue_95 a_137 ⟨by omega, by omega⟩ ?_
      refine R_aload_0 hX dX12_enqueue_96 ?_
      refine R_getq (v := 137) hX dX12_enqueue_97 fl_X12_7 o_136 rfl (by omega) ?_
      refine R_sipush hX dX12_enqueue_100 (by decide) ?_
      refine R_iload_1 hX dX12_enqueue_103 ?_
      refine R_iadd hX dX12_enqueue_104 ?_
      refine R_dup2 hX c1_i c1_r dX12_enqueue_105 ?_
      refine R_iald hX dX12_enqueue_106 a_137 ⟨by omega, by omega⟩ ?_
      try simp (disch := omega) only [up_i, up_s]
      refine R_iconst hX dX12_enqueue_107 ?_
      refine R_iadd hX dX12_enqueue_108 ?_
      refine R_iast hX dX12_enqueue_109 a_137 ⟨by omega, by omega⟩ ?_
      refine R_aload_0 hX dX12_enqueue_110 ?_
      refine R_getq (v := 137) hX dX12_enqueue_111 fl_X12_7 o_136 rfl (by omega) ?_
      refine R_iconst hX dX12_enqueue_114 ?_
      refine R_dup2 hX c1_i c1_r dX12_enqueue_115 ?_
      refine R_iald hX dX12_enqueue_116 a_137 ⟨by omega, by omega⟩ ?_
      try simp (disch := omega) only [up_i, up_s]
      refine R_iconst hX dX12_enqueue_117 ?_
      refine R_iadd hX dX12_enqueue_118 ?_
      refine R_iast hX dX12_enqueue_119 a_137 ⟨by omega, by omega⟩ ?_
      have hfr : Fr H (up (up (up (up (up H 137 (147 + 3 * (l * 16 + H 137 (135 + l)) + 0) (H 137 1)) 137 (147 + 3 * (l * 16 + H 137 (135 + l)) + 1) c) 137 (147 + 3 * (l * 16 + H 137 (135 + l)) + 2) (H 137 0)) 137 (135 + l) (H 137 (135 + l) + 1)) 137 1 (H 137 1 + 1)) := ((((Fr.rf.up (by omega)).up (by omega)).up (by omega)).up (by omega)).up (by omega)
      have hvv : vw 0 (up (up (up (up (up H 137 (147 + 3 * (l * 16 + H 137 (135 + l)) + 0) (H 137 1)) 137 (147 + 3 * (l * 16 + H 137 (135 + l)) + 1) c) 137 (147 + 3 * (l * 16 + H 137 (135 + l)) + 2) (H 137 0)) 137 (135 + l) (H 137 (135 + l) + 1)) 137 1 (H 137 1 + 1)) = putS 1000 l c (H 137 0) (vw 0 H) := by
        rw [vu_x, vu_9 (by omega), vu_q2 (by omega), vu_q1 (by omega), vu_q0 (by omega)]
        unfold putS
        rw [show (1000 : Int) + 9 = 1009 from rfl, vw_9 (by omega)]
        rfl
      refine R.eq rfl rfl (show _ = up (up (up (up (up H 137 (147 + 3 * (l * 16 + H 137 (135 + l)) + 0) (H 137 1)) 137 (147 + 3 * (l * 16 + H 137 (135 + l)) + 1) c) 137 (147 + 3 * (l * 16 + H 137 (135 + l)) + 2) (H 137 0)) 137 (135 + l) (H 137 (135 + l) + 1)) 137 1 (H 137 1 + 1) by rw [Int.add_zero]) ?_
      refine R_aload_0 hX dX12_enqueue_120 ?_
      refine R_getq (v := 137) hX dX12_enqueue_121 fl_X12_7 o_136 rfl (by omega) ?_
      refine R_iconst hX dX12_enqueue_124 ?_
      refine R_iald hX dX12_enqueue_125 a_137 ⟨by omega, by omega⟩ ?_
      try simp (disch := omega) only [up_i, up_s]
      refine R_iconst hX dX12_enqueue_126 ?_
      refine R_isub hX dX12_enqueue_127 ?_
      exact R_iret hX dX12_enqueue_128 ⟨H, hH, Or.inr (Or.inr ⟨by omega, by omega, hvv, hfr⟩)⟩
    · skip
      refine R_aload_0 hX dX12_enqueue_33 ?_
      refine R_getq (v := 137) hX dX12_enqueue_34 fl_X12_7 o_136 rfl (by omega) ?_
      refine R_bipush hX dX12_enqueue_37 (by decide) ?_
      refine R_iload_1 hX dX12_enqueue_39 ?_
      refine R_iadd hX dX12_enqueue_40 ?_
      refine R_dup2 hX c1_i c1_r dX12_enqueue_41 ?_
      refine R_iald hX dX12_enqueue_42 a_137 ⟨by omega, by omega⟩ ?_
      try simp (disch := omega) only [up_i, up_s]
      refine R_iconst hX dX12_enqueue_43 ?_
      refine R_iadd hX dX12_enqueue_44 ?_
      refine R_iast hX dX12_enqueue_45 a_137 ⟨by omega, by omega⟩ ?_
      refine R_bipush hX dX12_enqueue_46 (by decide) ?_
      exact R_iret hX dX12_enqueue_48 ⟨H, hH, Or.inr (Or.inl ⟨by omega, rfl, rfl⟩)⟩
  · skip
    refine R_iconst hX dX12_enqueue_14 ?_
    exact R_iret hX dX12_enqueue_15 ⟨H, hH, Or.inl ⟨by omega, rfl, rfl⟩⟩
