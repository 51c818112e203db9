/-- the accounts alone agree -/
def AcE (A V : Hp) : Prop := A 1005 = V 1005 ∧ A 1006 = V 1006 ∧ A 1007 = V 1007 ∧ ∀ a : Int, 1100 ≤ a → A a = V a
theorem AcE.lnd {A V : Hp} {l c : Int} (h : AcE A V) : lndS 1000 1100 A l c = lndS 1000 1100 V l c := by
  unfold lndS
  rw [show (1000 : Int) + 5 = 1005 from rfl, show (1000 : Int) + 6 = 1006 from rfl, show (1000 : Int) + 7 = 1007 from rfl, h.1, h.2.1, h.2.2.1, h.2.2.2 (1100 + 2) (by decide), h.2.2.2 (1100 + 11) (by decide)]
theorem AcE.pay {A V : Hp} {l f c : Int} (h : AcE A V) : AcE (payS 1000 1100 l f c A) (sndS 1000 1100 l f c V) := by
  have e : ∀ a : Int, a = 1005 ∨ a = 1006 ∨ a = 1007 → sndS 1000 1100 l f c V a = payS 1000 1100 l f c V a := fun a z => by
    unfold sndS
    rw [lgS_r (by omega), cntS_r (by omega)]
  refine ⟨?_, ?_, ?_, fun a z => by rw [payS_r (by omega), sndS_r (by omega)]; exact h.2.2.2 a z⟩
  · rw [e _ (by omega)]
    funext n
    have p1 := payS_5 (b := 1000) (u := 1100) (leaf := l) (l := f) (c := c) (n := n) (F := A)
    have p2 := payS_5 (b := 1000) (u := 1100) (leaf := l) (l := f) (c := c) (n := n) (F := V)
    refine p1.trans (Eq.trans ?_ p2.symm)
    rw [h.2.2.2 (1100 + 2) (by decide), show (1000 : Int) + 5 = 1005 from rfl, h.1]
  · rw [e _ (by omega)]
    funext n
    have p1 := payS_6 (b := 1000) (u := 1100) (leaf := l) (l := f) (c := c) (n := n) (F := A)
    have p2 := payS_6 (b := 1000) (u := 1100) (leaf := l) (l := f) (c := c) (n := n) (F := V)
    refine p1.trans (Eq.trans ?_ p2.symm)
    rw [show (1000 : Int) + 5 = 1005 from rfl, show (1000 : Int) + 6 = 1006 from rfl, h.1, h.2.1]
  · rw [e _ (by omega)]
    funext n
    have p1 := payS_7 (b := 1000) (u := 1100) (leaf := l) (l := f) (c := c) (n := n) (F := A)
    have p2 := payS_7 (b := 1000) (u := 1100) (leaf := l) (l := f) (c := c) (n := n) (F := V)
    refine p1.trans (Eq.trans ?_ p2.symm)
    rw [h.2.2.2 (1100 + 2) (by decide), show (1000 : Int) + 7 = 1007 from rfl, h.2.2.1]
/-- refills until there is a lender: from t on -/
def wtR (b u l c : Int) : Nat → Int → Hp → Int
  | 0, _, _ => -2
  | k + 1, t, F => if lndS b u F l c = -2 then wtR b u l c k (t + 1) (refS b u (F u 0).toNat F) else t
theorem wtR_hit {b u l c t : Int} {k : Nat} {F : Hp} (hk : 0 < k) (h : ¬ lndS b u F l c = -2) : wtR b u l c k t F = t := by
  cases k with
  | zero => omega
  | succ k => exact if_neg h
theorem wtR_go {b u l c t : Int} {k : Nat} {F : Hp} (hk : 0 < k) (h : lndS b u F l c = -2) : wtR b u l c k t F = wtR b u l c (k - 1) (t + 1) (refS b u (F u 0).toNat F) := by
  cases k with
  | zero => omega
  | succ k => exact if_pos h
set_option maxRecDepth 100000 in
set_option maxHeartbeats 4000000 in
theorem r_repeats {V : VX} {F : Hp} {K : Int} (h : RI K F) {l c : Int} (h1 : I32 l) (h2 : I32 c)  : Ct V yX12_repeats cX12_repeats 5 (some .int) 4 90 0 0 SH [vr V 136, vi l, vi c] F SH 1 (fun r F' => ∃ H : Hp, H = up F 136 0 0 ∧ ((¬ (0 ≤ l ∧ l < H 136 3 ∧ chlC (H 141) (H 136 3) l = 0 ∧ 1 ≤ c ∧ c ≤ 99) ∧ r = -1 ∧ F' = H) ∨ ((0 ≤ l ∧ l < H 136 3 ∧ chlC (H 141) (H 136 3) l = 0 ∧ 1 ≤ c ∧ c ≤ 99) ∧ r = (pofS 1000 1100 l c 999 (vw 0 H)).1 ∧ Sm H F'))) := by
  refine Ct.of [some (vr V 136), some (vi l), some (vi c), none, none] (by decide) (by simp [lg_sl, vi_cat, vl_cat, vr_cat]) rfl (by simp [asc, lv_args, vi_cat, vl_cat, vr_cat]) (fun X hV hX => ?_)
  subst hV
  refine R_aload_0 hX dX12_repeats_0 ?_
  refine R_iconst hX dX12_repeats_1 ?_
  refine R_puti hX dX12_repeats_2 fl_X12_88 o_136 rfl ?_
  refine R.gen (fun H hH => ?_)
  have hR : RI K H := by rw [hH]; exact h.z
  have hN := ri_N hR
  have hT := ri_T hR
  have hA := ri_A hR
  have hSS := ri_S hR
  refine R_aload_0 hX dX12_repeats_5 ?_
  refine R_iload_1 hX dX12_repeats_6 ?_
  refine R_iload_2 hX dX12_repeats_7 ?_
  refine R_v2i hX dX12_repeats_8 li_X12_262 mk_X12_isAsked mi_X12_isAsked rfl o_136 (r_isAsked hR h1 h2) ⟨⟨by decide, by decide⟩, by decide, by decide, rfl, Nat.le_of_ble_eq_true rfl, rfl⟩ (fun x_8 F_8 h_8 => ?_)
  obtain ⟨h_8, e_8⟩ := h_8; replace e_8 := e_8.symm; subst e_8
  refine R_ifne (tgt := 16) hX dX12_repeats_11 (by decide) (by constructor <;> first | omega | (simp (disch := omega) only [up_k, up_i, up_s]; omega)) (fun c_11 => ?_) (fun c_11 => ?_)
  · skip
    refine R_aload_0 hX dX12_repeats_16 ?_
    refine R_iconst hX dX12_repeats_17 ?_
    refine R_iconst hX dX12_repeats_18 ?_
    refine R_v2v hX dX12_repeats_19 li_X12_275 mk_X12_copies mi_X12_copies rfl o_136 (r_copies (by omega) (by omega) (by omega)) ⟨⟨by decide, by decide⟩, by decide, by decide, rfl, Nat.le_of_ble_eq_true rfl, rfl⟩ (fun x_19 F_19 h_19 => ?_)
    subst h_19
    have hv3 : vw 0 (cpR 0 3 819 H) = vw 0 H := vw_cpo (by omega)
    have hR3 : RI K (cpR 0 3 819 H) := RI.of (by rw [hv3]; exact hR)
    have q3 : ∀ i : Int, i < 2457 → cpR 0 3 819 H 137 i = H 137 i := fun i z => cpR_o (by omega)
    refine R_iconst hX dX12_repeats_22 ?_
    refine R_istore_3 hX c1_i dX12_repeats_23 ?_
    refine R_aload_0 hX dX12_repeats_24 ?_
    refine R_iload_1 hX dX12_repeats_25 ?_
    refine R_iload_2 hX dX12_repeats_26 ?_
    refine R_v2i hX dX12_repeats_27 li_X12_266 mk_X12_lends mi_X12_lends rfl o_136 (r_lends hR3 (by rw [cpR_r (by decide)]; omega) h2) ⟨⟨by decide, by decide⟩, by decide, by decide, rfl, Nat.le_of_ble_eq_true rfl, rfl⟩ (fun x_27 F_27 h_27 => ?_)
    obtain ⟨h_27, e_27⟩ := h_27; replace e_27 := e_27.symm; subst e_27
    replace h_27 : x_27 = lndS 1000 1100 (vw 0 (cpR 0 3 819 H)) l c := h_27
    have haL := (hA l (by omega) (by omega)).2.2.2.2.2
    have hsL := (hSS l (by omega) (by omega)).1
    refine R_istore_4 hX c1_i dX12_repeats_30 ?_
    have lp_32 : ∀ (n : Nat) (t : Int) (from_ : Int) (A : Hp) (G : Hp), (Fr (cpR 0 3 819 H) G) → (RI (K + 99 * t) G) → (AcE A (vw 0 G)) → (from_ = lndS 1000 1100 (vw 0 G) l c) → (0 ≤ t ∧ A 1007 l + t ≤ 999 ∧ 0 ≤ A 1007 l) → ((pofS 1000 1100 l c (999 - t).toNat A).1 + t = (pofS 1000 1100 l c 999 (vw 0 H)).1) → (1000 - t).toNat < n → R X SH 0 0 32 [some (vr (xV X) 136), some (vi l), some (vi c), some (vi t), some (vi from_)] [] G (Zq X SH 1 (fun r F' => ∃ H : Hp, H = up F 136 0 0 ∧ ((¬ (0 ≤ l ∧ l < H 136 3 ∧ chlC (H 141) (H 136 3) l = 0 ∧ 1 ≤ c ∧ c ≤ 99) ∧ r = -1 ∧ F' = H) ∨ ((0 ≤ l ∧ l < H 136 3 ∧ chlC (H 141) (H 136 3) l = 0 ∧ 1 ≤ c ∧ c ≤ 99) ∧ r = (pofS 1000 1100 l c 999 (vw 0 H)).1 ∧ Sm H F'))) 0 0) := by
      intro n
      induction n with
      | zero => intro t from_ A G iv32_0 iv32_1 iv32_2 iv32_3 iv32_4 iv32_5 hm; exact absurd hm (Nat.not_lt_zero _)
      | succ n ih_32 =>
        intro t from_ A G iv32_0 iv32_1 iv32_2 iv32_3 iv32_4 iv32_5 hm_32
        have hfr := lndS_rng (b := 1000) (c := c) iv32_1.1.2.1 (show l < vw 0 G 1100 0 by rw [vw_1100_0, iv32_0.1 136 (by decide), cpR_r (by decide)]; omega)
        rw [← iv32_3] at hfr
        refine R_iload_4 hX dX12_repeats_32 ?_
        refine R_bipush hX dX12_repeats_34 (by decide) ?_
        refine R_icmpeq (tgt := 61) hX dX12_repeats_36 (by decide) (by constructor <;> first | omega | (simp (disch := omega) only [up_k, up_i, up_s]; omega)) (by constructor <;> first | omega | (simp (disch := omega) only [up_k, up_i, up_s]; omega)) (fun c_36 => ?_) (fun c_36 => ?_)
        · skip
          refine R_aload_0 hX dX12_repeats_61 ?_
          refine R_iconst hX dX12_repeats_62 ?_
          refine R_iconst hX dX12_repeats_63 ?_
          refine R_v2v hX dX12_repeats_64 li_X12_275 mk_X12_copies mi_X12_copies rfl o_136 (r_copies (by omega) (by omega) (by omega)) ⟨⟨by decide, by decide⟩, by decide, by decide, rfl, Nat.le_of_ble_eq_true rfl, rfl⟩ (fun x_64 F_64 h_64 => ?_)
          subst h_64
          refine R_iload_3 hX dX12_repeats_67 ?_
          exact R_iret hX dX12_repeats_68 ⟨H, hH, Or.inr ⟨by omega, by rw [← iv32_5, pofS_stop (by rw [iv32_2.lnd, ← iv32_3]; exact c_36)]; exact (Int.zero_add _).symm, cp_back iv32_0⟩⟩
        · skip
          have hgl : G 136 3 = H 136 3 := by rw [iv32_0.1 136 (by decide), cpR_r (by decide)]
          have hok : lOk 1000 1100 (vw 0 G) l from_ c := by have hz := lndS_ok (b := 1000) (c := c) iv32_1.1.2.1 (show l < vw 0 G 1100 0 by rw [vw_1100_0]; omega) (by rw [← iv32_3]; exact c_36); rw [← iv32_3] at hz; exact hz
          have hhd := hok.2.2.2 l (onP_self (by omega) (by omega))
          rw [show (1000 : Int) + 7 = 1007 from rfl, ← iv32_2.2.2.1] at hhd
          refine R_aload_0 hX dX12_repeats_39 ?_
          refine R_iload_1 hX dX12_repeats_40 ?_
          refine R_iload_2 hX dX12_repeats_41 ?_
          refine R_iload_4 hX dX12_repeats_42 ?_
          refine R_v3v hX dX12_repeats_44 li_X12_269 mk_X12_sends mi_X12_sends rfl o_136 (r_sends iv32_1 (by omega) hok (by omega)) ⟨⟨by decide, by decide⟩, by decide, by decide, rfl, Nat.le_of_ble_eq_true rfl, rfl⟩ (fun x_44 F_44 h_44 => ?_)
          obtain ⟨v5, f5⟩ := h_44
          have hG2 : RI (K + 99 * (t + 1)) F_44 := RI.of (by rw [v5, show K + 99 * (t + 1) = K + 99 * t + 99 by omega]; exact StA.snd dj1 (by decide) iv32_1 hok (by rw [vw_1100_0]; omega) (by omega))
          have hpay : AcE (payS 1000 1100 l from_ c A) (vw 0 F_44) := by rw [v5]; exact iv32_2.pay
          have hp7 : payS 1000 1100 l from_ c A 1007 l = A 1007 l - c := by have e := payS_7 (b := 1000) (u := 1100) (leaf := l) (l := from_) (c := c) (n := l) (F := A); rw [if_pos (onP_self (by omega) (by omega)), show (1000 : Int) + 7 = 1007 from rfl] at e; exact e
          refine R_iinc_3 hX c1_i dX12_repeats_47 ?_
          refine R_aload_0 hX dX12_repeats_50 ?_
          refine R_iload_1 hX dX12_repeats_51 ?_
          refine R_iload_2 hX dX12_repeats_52 ?_
          refine R_v2i hX dX12_repeats_53 li_X12_266 mk_X12_lends mi_X12_lends rfl o_136 (r_lends hG2 (by rw [f5.1 136 (by decide)]; omega) h2) ⟨⟨by decide, by decide⟩, by decide, by decide, rfl, Nat.le_of_ble_eq_true rfl, rfl⟩ (fun x_53 F_53 h_53 => ?_)
          obtain ⟨h_53, e_53⟩ := h_53; replace e_53 := e_53.symm; subst e_53
          refine R_istore_4 hX c1_i dX12_repeats_56 ?_
          refine R_goto (tgt := 32) hX dX12_repeats_58 (by decide) ?_
          exact ih_32 (t + 1) _ _ _ (iv32_0.tr f5) hG2 hpay h_53 (by rw [hp7]; omega) (by rw [← iv32_5, pofS_go (k := (999 - t).toNat) (F := A) (by omega) (by rw [iv32_2.lnd, ← iv32_3]; exact c_36), show (999 - t).toNat - 1 = (999 - (t + 1)).toNat by omega, iv32_2.lnd, ← iv32_3]; dsimp only; omega) (by omega)
    exact lp_32 1001 0 _ _ _ Fr.rf (by rw [Int.mul_zero, Int.add_zero]; exact hR3) (by rw [hv3]; exact ⟨rfl, rfl, rfl, fun _ _ => rfl⟩) h_27 (by rw [vw_7 (F := H) (n := l) (by omega)]; omega) (by rw [Int.add_zero]; rfl) (by omega)
  · skip
    refine R_iconst hX dX12_repeats_14 ?_
    exact R_iret hX dX12_repeats_15 ⟨H, hH, Or.inl ⟨by omega, rfl, rfl⟩⟩
set_option maxRecDepth 100000 in
set_option maxHeartbeats 4000000 in
theorem r_waitTime {V : VX} {F : Hp} {K : Int} (h : RI K F) {l c : Int} (h1 : I32 l) (h2 : I32 c)  : Ct V yX12_waitTime cX12_waitTime 4 (some .int) 4 90 0 0 SH [vr V 136, vi l, vi c] F SH 1 (fun r F' => ∃ H : Hp, H = up F 136 0 0 ∧ ((¬ (0 ≤ l ∧ l < H 136 3 ∧ chlC (H 141) (H 136 3) l = 0 ∧ 1 ≤ c ∧ c ≤ 99) ∧ r = -1 ∧ F' = H) ∨ ((0 ≤ l ∧ l < H 136 3 ∧ chlC (H 141) (H 136 3) l = 0 ∧ 1 ≤ c ∧ c ≤ 99) ∧ r = wtR 1000 1100 l c 1001 0 (vw 0 H) ∧ Sm H F'))) := by
  refine Ct.of [some (vr V 136), some (vi l), some (vi c), none] (by decide) (by simp [lg_sl, vi_cat, vl_cat, vr_cat]) rfl (by simp [asc, lv_args, vi_cat, vl_cat, vr_cat]) (fun X hV hX => ?_)
  subst hV
  refine R_aload_0 hX dX12_waitTime_0 ?_
  refine R_iconst hX dX12_waitTime_1 ?_
  refine R_puti hX dX12_waitTime_2 fl_X12_88 o_136 rfl ?_
  refine R.gen (fun H hH => ?_)
  have hR : RI K H := by rw [hH]; exact h.z
  have hN := ri_N hR
  have hT := ri_T hR
  refine R_aload_0 hX dX12_waitTime_5 ?_
  refine R_iload_1 hX dX12_waitTime_6 ?_
  refine R_iload_2 hX dX12_waitTime_7 ?_
  refine R_v2i hX dX12_waitTime_8 li_X12_262 mk_X12_isAsked mi_X12_isAsked rfl o_136 (r_isAsked hR h1 h2) ⟨⟨by decide, by decide⟩, by decide, by decide, rfl, Nat.le_of_ble_eq_true rfl, rfl⟩ (fun x_8 F_8 h_8 => ?_)
  obtain ⟨h_8, e_8⟩ := h_8; replace e_8 := e_8.symm; subst e_8
  refine R_ifne (tgt := 16) hX dX12_waitTime_11 (by decide) (by constructor <;> first | omega | (simp (disch := omega) only [up_k, up_i, up_s]; omega)) (fun c_11 => ?_) (fun c_11 => ?_)
  · skip
    refine R_aload_0 hX dX12_waitTime_16 ?_
    refine R_iconst hX dX12_waitTime_17 ?_
    refine R_iconst hX dX12_waitTime_18 ?_
    refine R_v2v hX dX12_waitTime_19 li_X12_275 mk_X12_copies mi_X12_copies rfl o_136 (r_copies (by omega) (by omega) (by omega)) ⟨⟨by decide, by decide⟩, by decide, by decide, rfl, Nat.le_of_ble_eq_true rfl, rfl⟩ (fun x_19 F_19 h_19 => ?_)
    subst h_19
    have hv3 : vw 0 (cpR 0 3 819 H) = vw 0 H := vw_cpo (by omega)
    have hR3 : RI K (cpR 0 3 819 H) := RI.of (by rw [hv3]; exact hR)
    have q3 : ∀ i : Int, i < 2457 → cpR 0 3 819 H 137 i = H 137 i := fun i z => cpR_o (by omega)
    refine R_iconst hX dX12_waitTime_22 ?_
    refine R_istore_3 hX c1_i dX12_waitTime_23 ?_
    have lp_24 : ∀ (n : Nat) (t : Int) (G : Hp), (0 ≤ t ∧ t ≤ 1001) → (Fr (cpR 0 3 819 H) G) → (RI K G) → (wtR 1000 1100 l c (1001 - t).toNat t (vw 0 G) = wtR 1000 1100 l c 1001 0 (vw 0 H)) → (1002 - t).toNat < n → R X SH 0 0 24 [some (vr (xV X) 136), some (vi l), some (vi c), some (vi t)] [] G (Zq X SH 1 (fun r F' => ∃ H : Hp, H = up F 136 0 0 ∧ ((¬ (0 ≤ l ∧ l < H 136 3 ∧ chlC (H 141) (H 136 3) l = 0 ∧ 1 ≤ c ∧ c ≤ 99) ∧ r = -1 ∧ F' = H) ∨ ((0 ≤ l ∧ l < H 136 3 ∧ chlC (H 141) (H 136 3) l = 0 ∧ 1 ≤ c ∧ c ≤ 99) ∧ r = wtR 1000 1100 l c 1001 0 (vw 0 H) ∧ Sm H F'))) 0 0) := by
      intro n
      induction n with
      | zero => intro t G iv24_0 iv24_1 iv24_2 iv24_3 hm; exact absurd hm (Nat.not_lt_zero _)
      | succ n ih_24 =>
        intro t G iv24_0 iv24_1 iv24_2 iv24_3 hm_24
        have g3 : G 136 3 = H 136 3 := by rw [iv24_1.1 136 (by decide), cpR_r (by decide)]
        refine R_iload_3 hX dX12_waitTime_24 ?_
        refine R_sipush hX dX12_waitTime_25 (by decide) ?_
        refine R_icmpgt (tgt := 52) hX dX12_waitTime_28 (by decide) (by constructor <;> first | omega | (simp (disch := omega) only [up_k, up_i, up_s]; omega)) (by constructor <;> first | omega | (simp (disch := omega) only [up_k, up_i, up_s]; omega)) (fun c_28 => ?_) (fun c_28 => ?_)
        · skip
          refine R_aload_0 hX dX12_waitTime_52 ?_
          refine R_iconst hX dX12_waitTime_53 ?_
          refine R_iconst hX dX12_waitTime_54 ?_
          refine R_v2v hX dX12_waitTime_55 li_X12_275 mk_X12_copies mi_X12_copies rfl o_136 (r_copies (by omega) (by omega) (by omega)) ⟨⟨by decide, by decide⟩, by decide, by decide, rfl, Nat.le_of_ble_eq_true rfl, rfl⟩ (fun x_55 F_55 h_55 => ?_)
          subst h_55
          refine R_iload_3 hX dX12_waitTime_58 ?_
          refine R_sipush hX dX12_waitTime_59 (by decide) ?_
          refine R_icmple (tgt := 70) hX dX12_waitTime_62 (by decide) (by constructor <;> first | omega | (simp (disch := omega) only [up_k, up_i, up_s]; omega)) (by constructor <;> first | omega | (simp (disch := omega) only [up_k, up_i, up_s]; omega)) (fun c_62 => ?_) (fun c_62 => ?_)
          · skip
            refine R_iload_3 hX dX12_waitTime_70 ?_
            exact R_iret hX dX12_waitTime_71 ⟨H, hH, Or.inr ⟨by omega, by rw [← iv24_3]; first | (rw [wtR_hit (by omega) (by rw [← h_34]; exact c_39)]; done) | (rw [show (1001 - t).toNat = 0 by omega]; rfl) | omega, cp_back iv24_1⟩⟩
          · skip
            refine R_bipush hX dX12_waitTime_65 (by decide) ?_
            refine R_goto (tgt := 71) hX dX12_waitTime_67 (by decide) ?_
            exact R_iret hX dX12_waitTime_71 ⟨H, hH, Or.inr ⟨by omega, by rw [← iv24_3]; first | (rw [wtR_hit (by omega) (by rw [← h_34]; exact c_39)]; done) | (rw [show (1001 - t).toNat = 0 by omega]; rfl) | omega, cp_back iv24_1⟩⟩
        · skip
          refine R_aload_0 hX dX12_waitTime_31 ?_
          refine R_iload_1 hX dX12_waitTime_32 ?_
          refine R_iload_2 hX dX12_waitTime_33 ?_
          refine R_v2i hX dX12_waitTime_34 li_X12_266 mk_X12_lends mi_X12_lends rfl o_136 (r_lends iv24_2 (by rw [g3]; omega) h2) ⟨⟨by decide, by decide⟩, by decide, by decide, rfl, Nat.le_of_ble_eq_true rfl, rfl⟩ (fun x_34 F_34 h_34 => ?_)
          obtain ⟨h_34, e_34⟩ := h_34; replace e_34 := e_34.symm; subst e_34
          have hlr := lndS_rng (b := 1000) (c := c) iv24_2.1.2.1 (show l < vw 0 G 1100 0 by rw [vw_1100_0]; omega)
          refine R_bipush hX dX12_waitTime_37 (by decide) ?_
          refine R_icmpne (tgt := 52) hX dX12_waitTime_39 (by decide) (by constructor <;> first | omega | (simp (disch := omega) only [up_k, up_i, up_s]; omega)) (by constructor <;> first | omega | (simp (disch := omega) only [up_k, up_i, up_s]; omega)) (fun c_39 => ?_) (fun c_39 => ?_)
          · skip
            refine R_aload_0 hX dX12_waitTime_52 ?_
            refine R_iconst hX dX12_waitTime_53 ?_
            refine R_iconst hX dX12_waitTime_54 ?_
            refine R_v2v hX dX12_waitTime_55 li_X12_275 mk_X12_copies mi_X12_copies rfl o_136 (r_copies (by omega) (by omega) (by omega)) ⟨⟨by decide, by decide⟩, by decide, by decide, rfl, Nat.le_of_ble_eq_true rfl, rfl⟩ (fun x_55 F_55 h_55 => ?_)
            subst h_55
            refine R_iload_3 hX dX12_waitTime_58 ?_
            refine R_sipush hX dX12_waitTime_59 (by decide) ?_
            refine R_icmple (tgt := 70) hX dX12_waitTime_62 (by decide) (by constructor <;> first | omega | (simp (disch := omega) only [up_k, up_i, up_s]; omega)) (by constructor <;> first | omega | (simp (disch := omega) only [up_k, up_i, up_s]; omega)) (fun c_62 => ?_) (fun c_62 => ?_)
            · skip
              refine R_iload_3 hX dX12_waitTime_70 ?_
              exact R_iret hX dX12_waitTime_71 ⟨H, hH, Or.inr ⟨by omega, by rw [← iv24_3]; first | (rw [wtR_hit (by omega) (by rw [← h_34]; exact c_39)]; done) | (rw [show (1001 - t).toNat = 0 by omega]; rfl) | omega, cp_back iv24_1⟩⟩
            · skip
              refine R_bipush hX dX12_waitTime_65 (by decide) ?_
              refine R_goto (tgt := 71) hX dX12_waitTime_67 (by decide) ?_
              exact R_iret hX dX12_waitTime_71 ⟨H, hH, Or.inr ⟨by omega, by rw [← iv24_3]; first | (rw [wtR_hit (by omega) (by rw [← h_34]; exact c_39)]; done) | (rw [show (1001 - t).toNat = 0 by omega]; rfl) | omega, cp_back iv24_1⟩⟩
          · skip
            refine R_aload_0 hX dX12_waitTime_42 ?_
            refine R_v0v hX dX12_waitTime_43 li_X12_279 mk_X12_refills mi_X12_refills rfl o_136 (r_refills iv24_2) ⟨⟨by decide, by decide⟩, by decide, by decide, rfl, Nat.le_of_ble_eq_true rfl, rfl⟩ (fun x_43 F_43 h_43 => ?_)
            obtain ⟨v5, f5⟩ := h_43
            have hG2 : RI K F_43 := RI.of (by have := StA.ref dj1 iv24_2; rw [vw_1100_0] at this; rw [v5]; exact this)
            refine R_iinc_3 hX c1_i dX12_waitTime_46 ?_
            refine R_goto (tgt := 24) hX dX12_waitTime_49 (by decide) ?_
            exact ih_24 (t + 1) _ (by omega) (iv24_1.tr f5) hG2 (by rw [← iv24_3, wtR_go (k := (1001 - t).toNat) (F := vw 0 G) (by omega) (by rw [← h_34]; exact c_39), show (1001 - t).toNat - 1 = (1001 - (t + 1)).toNat by omega, v5, vw_1100_0]) (by omega)
    exact lp_24 1003 0 _ (by omega) Fr.rf hR3 (by rw [hv3]; rfl) (by omega)
  · skip
    refine R_iconst hX dX12_waitTime_14 ?_
    exact R_iret hX dX12_waitTime_15 ⟨H, hH, Or.inl ⟨by omega, rfl, rfl⟩⟩
