theorem sumN_z {f : Int → Int} : ∀ (n : Nat), (∀ k : Int, 0 ≤ k → k < n → f k = 0) → sumN f n = 0
  | 0, _ => rfl
  | n + 1, h => by
    unfold sumN
    rw [sumN_z n (fun k h0 h1 => h k h0 (by omega)), h n (by omega) (by omega)]
    rfl
def lcS (ce par : Int → Int) : Nat → Int → Int → Int
  | 0, _, a => a
  | k + 1, n, a => if n < 0 then a else lcS ce par k (par n) (min a (ce n))
theorem lcS_neg {ce par : Int → Int} {k : Nat} {n a : Int} (h : n < 0) : lcS ce par k n a = a := by
  cases k with
  | zero => rfl
  | succ k => exact if_pos h
theorem lcS_go {ce par : Int → Int} {k : Nat} {n a : Int} (hk : n < k) (h : 0 ≤ n) : lcS ce par k n a = lcS ce par (k - 1) (par n) (min a (ce n)) := by
  cases k with
  | zero => omega
  | succ k => rw [lcS, if_neg (by omega)]; rfl
def tuS (g a s m : Int) : Int := if g ≤ a then 0 else if s < 1 ∨ m < g then 1001 else (g - a + s - 1).tdiv s
theorem tuS_rng {g a s m : Int} (hg : g - a ≤ 99) : 0 ≤ tuS g a s m ∧ tuS g a s m ≤ 1001 := by
  unfold tuS
  split
  · omega
  · split
    · omega
    · rename_i h1 h2
      have h3 : 0 < s := by omega
      rw [Int.tdiv_eq_ediv_of_nonneg (by omega)]
      have e1 : 0 ≤ (g - a + s - 1) / s := Int.ediv_nonneg (by omega) (by omega)
      have e2 : (g - a + s - 1) / s < g - a + 1 := by
        apply Int.ediv_lt_of_lt_mul h3
        have : (g - a + 1) * s = (g - a) * s + s := by rw [Int.add_mul, Int.one_mul]
        have h4 : g - a ≤ (g - a) * s := by
          have := Int.mul_le_mul_of_nonneg_left (show 1 ≤ s by omega) (show 0 ≤ g - a by omega)
          rw [Int.mul_one] at this
          exact this
        omega
      omega
def wtS (b u : Int) (F : Hp) (c : Int) : Nat → Int → Int → Int → Int → Int × Int
  | 0, _, _, uh, up => (uh, up)
  | k + 1, n, may, uh, up => if n < 0 then (uh, up) else wtS b u F c k (F (u + 2) n) (if may = 1 ∧ F (u + 11) n = 0 then 1 else 0) (max uh (tuS c (F (b + 7) n) (F (b + 2) n) (F (u + 7) n))) (if may = 1 then min up (tuS c (F (b + 5) n + F (b + 6) n) (F (b + 1) n) (F (u + 7) n + F (u + 8) n)) else up)
theorem wtS_neg {b u c n may uh up : Int} {F : Hp} {k : Nat} (h : n < 0) : wtS b u F c k n may uh up = (uh, up) := by
  cases k with
  | zero => rfl
  | succ k => exact if_pos h
theorem wtS_go {b u c n may uh up : Int} {F : Hp} {k : Nat} (hk : n < k) (h : 0 ≤ n) : wtS b u F c k n may uh up = wtS b u F c (k - 1) (F (u + 2) n) (if may = 1 ∧ F (u + 11) n = 0 then 1 else 0) (max uh (tuS c (F (b + 7) n) (F (b + 2) n) (F (u + 7) n))) (if may = 1 then min up (tuS c (F (b + 5) n + F (b + 6) n) (F (b + 1) n) (F (u + 7) n + F (u + 8) n)) else up) := by
  cases k with
  | zero => omega
  | succ k => rw [wtS, if_neg (by omega)]; rfl
def wtA (b u : Int) (F : Hp) (leaf c : Int) : Int := if max (wtS b u F c 13 leaf 1 0 1001).1 (wtS b u F c 13 leaf 1 0 1001).2 ≤ 1000 then max (wtS b u F c 13 leaf 1 0 1001).1 (wtS b u F c 13 leaf 1 0 1001).2 else -2
set_option maxRecDepth 100000 in
set_option maxHeartbeats 4000000 in
theorem c_payOften {V : VX} {T : Shp} {F : Hp} {u b : Int} (hu : isSu u) (hb : isSt b) (hU : SuI u F) (hA : AcI b u F) {leaf c : Int} (hl : 0 ≤ leaf ∧ leaf < F u 0) (hc : 1 ≤ c ∧ c ≤ 99) : Ct V yX0_payOften cX0_payOften 6 (some .int) 2 49 0 0 (SH T) [vr V (b + 4), vr V u, vi leaf, vi c] F (SH T) 1 (fun r F' => r = (pofS b u leaf c 999 F).1 ∧ F' = (pofS b u leaf c 999 F).2) := by
  refine Ct.of [some (vr V (b + 4)), some (vr V u), some (vi leaf), some (vi c), none, none] (by decide) (by simp [lg_sl, vi_cat, vl_cat, vr_cat]) rfl (by simp [asc, lv_args, vi_cat, vl_cat, vr_cat]) (fun X hV hX => ?_)
  subst hV
  have hd := dj_of hu hb
  refine R_iconst hX dX0_payOften_0 ?_
  refine R_istore_4 hX c1_i dX0_payOften_1 ?_
  have lp_3 : ∀ (n : Nat) (t : Int) (G : Hp), (0 ≤ t ∧ t ≤ 999) → (SuI u G ∧ AcI b u G ∧ leaf < G u 0) → (pofS b u leaf c 999 F = ((pofS b u leaf c (999 - t).toNat G).1 + t, (pofS b u leaf c (999 - t).toNat G).2)) → (1000 - t).toNat < n → R X (SH T) 0 0 3 [some (vr (xV X) (b + 4)), some (vr (xV X) u), some (vi leaf), some (vi c), some (vi t), none] [] G (Zq X (SH T) 1 (fun r F' => r = (pofS b u leaf c 999 F).1 ∧ F' = (pofS b u leaf c 999 F).2) 0 0) := by
    intro n
    induction n with
    | zero => intro t G iv3_0 iv3_1 iv3_2 hm; exact absurd hm (Nat.not_lt_zero _)
    | succ n ih_3 =>
      intro t G iv3_0 iv3_1 iv3_2 hm_3
      refine R_iload_4 hX dX0_payOften_3 ?_
      refine R_sipush hX dX0_payOften_5 (by decide) ?_
      refine R_icmpge (tgt := 45) hX dX0_payOften_8 (by decide) ⟨by omega, by omega⟩ ⟨by omega, by omega⟩ (fun c_8 => ?_) (fun c_8 => ?_)
      · skip
        refine R_sipush hX dX0_payOften_45 (by decide) ?_
        exact R_iret hX dX0_payOften_48 (by rw [iv3_2, show t = 999 by omega]; exact ⟨(Int.zero_add _).symm, rfl⟩)
      · skip
        refine R_aload_0 hX dX0_payOften_11 ?_
        refine R_aload_1 hX dX0_payOften_12 ?_
        refine R_iload_2 hX dX0_payOften_13 ?_
        refine R_iload_3 hX dX0_payOften_14 ?_
        refine R_v3i hX dX0_payOften_15 li_X0_57 mk_X0_findLender mi_X0_findLender rfl (so_4 hb) (c_findLender hu iv3_1.1.1 hb iv3_1.1.2.1 (fun n q0 q1 => by have k1 := iv3_1.2.1 n q0 q1; have k2 := iv3_1.1.2.2.2.2.2.2.1 n q0 q1; omega) iv3_1.1.2.2.2.2.2.2.2.1 ⟨hl.1, iv3_1.2.2⟩ hc) ⟨⟨by decide, by decide⟩, by decide, by decide, rfl, Nat.le_of_ble_eq_true rfl, rfl⟩ (fun x_15 F_15 h_15 => ?_)
        obtain ⟨h_15, e_15⟩ := h_15; replace e_15 := e_15.symm; subst e_15
        replace h_15 : x_15 = lndS b u G leaf c := h_15
        subst h_15
        have hr := lndS_rng (b := b) (c := c) iv3_1.1.2.1 iv3_1.2.2
        have hNG := iv3_1.1.1
        refine R_istore_5 hX c1_i dX0_payOften_18 ?_
        refine R_iload_5 hX dX0_payOften_20 ?_
        refine R_bipush hX dX0_payOften_22 (by decide) ?_
        refine R_icmpne (tgt := 30) hX dX0_payOften_24 (by decide) ⟨by omega, by omega⟩ ⟨by omega, by omega⟩ (fun c_24 => ?_) (fun c_24 => ?_)
        · skip
          have hok := lndS_ok iv3_1.1.2.1 iv3_1.2.2 c_24
          have hnext : SuI u (payS b u leaf (lndS b u G leaf c) c G) ∧ AcI b u (payS b u leaf (lndS b u G leaf c) c G) ∧ leaf < payS b u leaf (lndS b u G leaf c) c G u 0 := ⟨iv3_1.1.fr (fun a q1 q2 => payS_r (by omega)), iv3_1.2.1.pay hd (by omega) hok hc.1, by rw [payS_r (by omega)]; exact iv3_1.2.2⟩
          refine R_aload_0 hX dX0_payOften_30 ?_
          refine R_aload_1 hX dX0_payOften_31 ?_
          refine R_iload_2 hX dX0_payOften_32 ?_
          refine R_iload_5 hX dX0_payOften_33 ?_
          refine R_iload_3 hX dX0_payOften_35 ?_
          refine R_v4v hX dX0_payOften_36 li_X0_61 mk_X0_pay mi_X0_pay rfl (so_4 hb) (c_pay hu hb iv3_1.1.1 iv3_1.1.2.1 ⟨hl.1, iv3_1.2.2⟩ hok.1 hok.2.1 hc (fun n z0 z1 => by have k1 := iv3_1.2.1 n z0 z1; have k2 := iv3_1.1.2.2.2.2.2.2.1 n z0 z1; omega)) ⟨⟨by decide, by decide⟩, by decide, by decide, rfl, Nat.le_of_ble_eq_true rfl, rfl⟩ (fun x_36 F_36 h_36 => ?_)
          subst h_36
          refine R_iinc_4 hX c1_i dX0_payOften_39 ?_
          refine R_goto (tgt := 3) hX dX0_payOften_42 (by decide) ?_
          refine R_drop_5 ?_
          exact ih_3 _ _ (by omega) hnext (by rw [iv3_2, pofS_go (by omega) c_24, show (999 - t).toNat - 1 = (999 - (t + 1)).toNat by omega]; exact Prod.ext (by dsimp only; omega) rfl) (by omega)
        · skip
          refine R_iload_4 hX dX0_payOften_27 ?_
          exact R_iret hX dX0_payOften_29 (by rw [iv3_2, pofS_stop c_24]; exact ⟨(Int.zero_add _).symm, rfl⟩)
  exact lp_3 1001 _ _ (by omega) ⟨hU, hA, hl.2⟩ (by rw [Int.add_zero, show ((999 : Int) - 0).toNat = 999 from rfl]) (by omega)
set_option maxRecDepth 100000 in
set_option maxHeartbeats 4000000 in
theorem c_childrenRate {V : VX} {T : Shp} {F : Hp} {u b : Int} (hu : isSu u) (hb : isSt b) (hN : 0 ≤ F u 0 ∧ F u 0 ≤ 12) (hT : Tr (F u 0) (F (u + 2))) {node : Int} (hn : 0 ≤ node ∧ node < F u 0) : Ct V yX8_childrenRate cX8_childrenRate 5 (some .int) 0 0 0 0 (SH T) [vr V b, vr V u, vi node] F (SH T) 1 (fun r F' => r = sumN (fun c => if F (u + 2) c = node then F (b + 1) c else 0) (F u 0).toNat ∧ F' = F) := by
  refine Ct.of [some (vr V b), some (vr V u), some (vi node), none, none] (by decide) (by simp [lg_sl, vi_cat, vl_cat, vr_cat]) rfl (by simp [asc, lv_args, vi_cat, vl_cat, vr_cat]) (fun X hV hX => ?_)
  subst hV
  refine R_iconst hX dX8_childrenRate_0 ?_
  refine R_istore_3 hX c1_i dX8_childrenRate_1 ?_
  refine R_iload_2 hX dX8_childrenRate_2 ?_
  refine R_iconst hX dX8_childrenRate_3 ?_
  refine R_iadd hX dX8_childrenRate_4 ?_
  refine R_istore_4 hX c1_i dX8_childrenRate_5 ?_
  have lp_7 : ∀ (n : Nat) (sum : Int) (i : Int), (node < i ∧ i ≤ F u 0) → (sum = sumN (fun c => if F (u + 2) c = node then F (b + 1) c else 0) i.toNat) → (13 - i).toNat < n → R X (SH T) 0 0 7 [some (vr (xV X) b), some (vr (xV X) u), some (vi node), some (vi sum), some (vi i)] [] F (Zq X (SH T) 1 (fun r F' => r = sumN (fun c => if F (u + 2) c = node then F (b + 1) c else 0) (F u 0).toNat ∧ F' = F) 0 0) := by
    intro n
    induction n with
    | zero => intro sum i iv7_0 iv7_1 hm; exact absurd hm (Nat.not_lt_zero _)
    | succ n ih_7 =>
      intro sum i iv7_0 iv7_1 hm_7
      refine R_iload_4 hX dX8_childrenRate_7 ?_
      refine R_aload_1 hX dX8_childrenRate_9 ?_
      refine R_geti hX dX8_childrenRate_10 fl_X8_85 (to_0 hu) rfl ?_
      refine R_icmpge (tgt := 43) hX dX8_childrenRate_13 (by decide) ⟨by omega, by omega⟩ ⟨by omega, by omega⟩ (fun c_13 => ?_) (fun c_13 => ?_)
      · skip
        refine R_iload_3 hX dX8_childrenRate_43 ?_
        exact R_iret hX dX8_childrenRate_44 ⟨by rw [iv7_1, show i = F u 0 by omega], rfl⟩
      · skip
        refine R_aload_1 hX dX8_childrenRate_16 ?_
        refine R_getq (v := u + 2) hX dX8_childrenRate_17 fl_X8_88 (to_0 hu) rfl (by omega) ?_
        refine R_iload_4 hX dX8_childrenRate_20 ?_
        refine R_iald hX dX8_childrenRate_22 (ta_2 hu) ⟨by omega, by omega⟩ ?_
        have ht := hT i (by omega) (by omega)
        refine R_iload_2 hX dX8_childrenRate_23 ?_
        refine R_icmpne (tgt := 37) hX dX8_childrenRate_24 (by decide) ⟨by omega, by omega⟩ ⟨by omega, by omega⟩ (fun c_24 => ?_) (fun c_24 => ?_)
        · skip
          refine R_iinc_4 hX c1_i dX8_childrenRate_37 ?_
          refine R_goto (tgt := 7) hX dX8_childrenRate_40 (by decide) ?_
          exact ih_7 _ _ (by omega) (by rw [sumN_s (by omega), iv7_1]; first | rw [if_pos (by omega)] | rw [if_neg (by omega), Int.add_zero]) (by omega)
        · skip
          refine R_iload_3 hX dX8_childrenRate_27 ?_
          refine R_aload_0 hX dX8_childrenRate_28 ?_
          refine R_getq (v := b + 1) hX dX8_childrenRate_29 fl_X8_9 (so_0 hb) rfl (by omega) ?_
          refine R_iload_4 hX dX8_childrenRate_32 ?_
          refine R_iald hX dX8_childrenRate_34 (sa_1 hb) ⟨by omega, by omega⟩ ?_
          refine R_iadd hX dX8_childrenRate_35 ?_
          refine R_istore_3 hX c1_i dX8_childrenRate_36 ?_
          refine R_iinc_4 hX c1_i dX8_childrenRate_37 ?_
          refine R_goto (tgt := 7) hX dX8_childrenRate_40 (by decide) ?_
          exact ih_7 _ _ (by omega) (by rw [sumN_s (by omega), iv7_1]; first | rw [if_pos (by omega)] | rw [if_neg (by omega), Int.add_zero]) (by omega)
  exact lp_7 14 _ _ (by omega) (by rw [sumN_z]; intro k k0 k1; have ht := hT k k0 (by omega); exact if_neg (by omega)) (by omega)
set_option maxRecDepth 100000 in
set_option maxHeartbeats 4000000 in
theorem c_leastCeiling {V : VX} {T : Shp} {F : Hp} {u b : Int} (hu : isSu u) (hb : isSt b) (hN : 0 ≤ F u 0 ∧ F u 0 ≤ 12) (hT : Tr (F u 0) (F (u + 2))) (hc : ∀ n : Int, 0 ≤ n → n < F u 0 → 0 ≤ F (b + 2) n ∧ F (b + 2) n ≤ 999) {fr : Int} (hn : 0 ≤ fr ∧ fr < F u 0) : Ct V yX8_leastCeiling cX8_leastCeiling 6 (some .int) 1 21 0 0 (SH T) [vr V b, vr V u, vi fr] F (SH T) 1 (fun r F' => r = lcS (F (b + 2)) (F (u + 2)) 13 fr 999 ∧ F' = F) := by
  refine Ct.of [some (vr V b), some (vr V u), some (vi fr), none, none, none] (by decide) (by simp [lg_sl, vi_cat, vl_cat, vr_cat]) rfl (by simp [asc, lv_args, vi_cat, vl_cat, vr_cat]) (fun X hV hX => ?_)
  subst hV
  refine R_sipush hX dX8_leastCeiling_0 (by decide) ?_
  refine R_istore_3 hX c1_i dX8_leastCeiling_3 ?_
  refine R_iload_2 hX dX8_leastCeiling_4 ?_
  refine R_istore_4 hX c1_i dX8_leastCeiling_5 ?_
  refine R_iconst hX dX8_leastCeiling_7 ?_
  refine R_istore_5 hX c1_i dX8_leastCeiling_8 ?_
  have lp_10 : ∀ (n : Nat) (k : Nat) (least : Int) (node : Int) (step : Int), (-2 ≤ node ∧ node < F u 0 ∧ node < k ∧ 0 ≤ step ∧ step + node < 12 ∧ step ≤ 13 ∧ 0 ≤ least ∧ least ≤ 999) → (lcS (F (b + 2)) (F (u + 2)) k node least = lcS (F (b + 2)) (F (u + 2)) 13 fr 999) → (13 - step).toNat < n → R X (SH T) 0 0 10 [some (vr (xV X) b), some (vr (xV X) u), some (vi fr), some (vi least), some (vi node), some (vi step)] [] F (Zq X (SH T) 1 (fun r F' => r = lcS (F (b + 2)) (F (u + 2)) 13 fr 999 ∧ F' = F) 0 0) := by
    intro n
    induction n with
    | zero => intro k least node step iv10_0 iv10_1 hm; exact absurd hm (Nat.not_lt_zero _)
    | succ n ih_10 =>
      intro k least node step iv10_0 iv10_1 hm_10
      refine R_iload_5 hX dX8_leastCeiling_10 ?_
      refine R_bipush hX dX8_leastCeiling_12 (by decide) ?_
      refine R_icmpge (tgt := 53) hX dX8_leastCeiling_14 (by decide) ⟨by omega, by omega⟩ ⟨by omega, by omega⟩ (fun c_14 => ?_) (fun c_14 => ?_)
      · skip
        refine R_iload_3 hX dX8_leastCeiling_53 ?_
        exact R_iret hX dX8_leastCeiling_54 ⟨by rw [← iv10_1, lcS_neg (by omega)], rfl⟩
      · skip
        refine R_aload_1 hX dX8_leastCeiling_17 ?_
        refine R_iload_4 hX dX8_leastCeiling_18 ?_
        refine R_v1i hX dX8_leastCeiling_20 li_X8_91 mk_X7_hasNode mi_X7_hasNode rfl (to_0 hu) (c_hasNode hu hN ⟨by omega, by omega⟩) ⟨⟨by decide, by decide⟩, by decide, by decide, rfl, Nat.le_of_ble_eq_true rfl, rfl⟩ (fun x_20 F_20 h_20 => ?_)
        obtain ⟨h_20, e_20⟩ := h_20; replace e_20 := e_20.symm; subst e_20
        refine R_ifeq (tgt := 53) hX dX8_leastCeiling_23 (by decide) ⟨by omega, by omega⟩ (fun c_23 => ?_) (fun c_23 => ?_)
        · skip
          refine R_iload_3 hX dX8_leastCeiling_53 ?_
          exact R_iret hX dX8_leastCeiling_54 ⟨by rw [← iv10_1, lcS_neg (by omega)], rfl⟩
        · skip
          have hcn := hc node (by omega) (by omega)
          have ht := hT node (by omega) (by omega)
          refine R_iload_3 hX dX8_leastCeiling_26 ?_
          refine R_aload_0 hX dX8_leastCeiling_27 ?_
          refine R_getq (v := b + 2) hX dX8_leastCeiling_28 fl_X8_15 (so_0 hb) rfl (by omega) ?_
          refine R_iload_4 hX dX8_leastCeiling_31 ?_
          refine R_iald hX dX8_leastCeiling_33 (sa_2 hb) ⟨by omega, by omega⟩ ?_
          refine R_mmin hX dX8_leastCeiling_34 mm_X8_95 mm_s_min in_java_lang_Math mm_c_min ⟨by omega, by omega⟩ ⟨by omega, by omega⟩ ⟨by decide, by decide, by decide, by decide⟩ rfl (Nat.le_of_ble_eq_true rfl) ?_
          refine R_istore_3 hX c1_i dX8_leastCeiling_37 ?_
          refine R_aload_1 hX dX8_leastCeiling_38 ?_
          refine R_getq (v := u + 2) hX dX8_leastCeiling_39 fl_X8_88 (to_0 hu) rfl (by omega) ?_
          refine R_iload_4 hX dX8_leastCeiling_42 ?_
          refine R_iald hX dX8_leastCeiling_44 (ta_2 hu) ⟨by omega, by omega⟩ ?_
          refine R_istore_4 hX c1_i dX8_leastCeiling_45 ?_
          refine R_iinc_5 hX c1_i dX8_leastCeiling_47 ?_
          refine R_goto (tgt := 10) hX dX8_leastCeiling_50 (by decide) ?_
          exact ih_10 (k - 1) _ _ _ (by omega) (by rw [← iv10_1, lcS_go (k := k) (by omega) (by omega)]) (by omega)
  exact lp_10 14 13 _ _ _ (by omega) rfl (by omega)
set_option maxRecDepth 100000 in
set_option maxHeartbeats 4000000 in
theorem c_ticksUntil {V : VX} {T : Shp} {F : Hp} {g a s m : Int} (h : 0 ≤ g ∧ g ≤ 99 ∧ 0 ≤ a ∧ a ≤ 2000 ∧ 0 ≤ s ∧ s ≤ 999 ∧ 0 ≤ m ∧ m ≤ 2000) : Ct V yX8_ticksUntil cX8_ticksUntil 4 (some .int) 0 0 0 0 (SH T) [vi g, vi a, vi s, vi m] F (SH T) 1 (fun r F' => r = tuS g a s m ∧ F' = F) := by
  refine Ct.of [some (vi g), some (vi a), some (vi s), some (vi m)] (by decide) (by simp [lg_sl, vi_cat, vl_cat, vr_cat]) rfl (by simp [asc, lv_args, vi_cat, vl_cat, vr_cat]) (fun X hV hX => ?_)
  subst hV
  refine R_iload_1 hX dX8_ticksUntil_0 ?_
  refine R_iload_0 hX dX8_ticksUntil_1 ?_
  refine R_icmplt (tgt := 7) hX dX8_ticksUntil_2 (by decide) ⟨by omega, by omega⟩ ⟨by omega, by omega⟩ (fun c_2 => ?_) (fun c_2 => ?_)
  · skip
    refine R_iload_2 hX dX8_ticksUntil_7 ?_
    refine R_iconst hX dX8_ticksUntil_8 ?_
    refine R_icmplt (tgt := 17) hX dX8_ticksUntil_9 (by decide) ⟨by omega, by omega⟩ ⟨by omega, by omega⟩ (fun c_9 => ?_) (fun c_9 => ?_)
    · skip
      refine R_sipush hX dX8_ticksUntil_17 (by decide) ?_
      exact R_iret hX dX8_ticksUntil_20 ⟨by unfold tuS; rw [if_neg (by omega), if_pos (by omega)], rfl⟩
    · skip
      refine R_iload_3 hX dX8_ticksUntil_12 ?_
      refine R_iload_0 hX dX8_ticksUntil_13 ?_
      refine R_icmpge (tgt := 21) hX dX8_ticksUntil_14 (by decide) ⟨by omega, by omega⟩ ⟨by omega, by omega⟩ (fun c_14 => ?_) (fun c_14 => ?_)
      · skip
        refine R_iload_0 hX dX8_ticksUntil_21 ?_
        refine R_iload_1 hX dX8_ticksUntil_22 ?_
        refine R_isub hX dX8_ticksUntil_23 ?_
        refine R_iload_2 hX dX8_ticksUntil_24 ?_
        refine R_iadd hX dX8_ticksUntil_25 ?_
        refine R_iconst hX dX8_ticksUntil_26 ?_
        refine R_isub hX dX8_ticksUntil_27 ?_
        refine R_iload_2 hX dX8_ticksUntil_28 ?_
        refine R_idiv hX ⟨by omega, by omega⟩ ⟨by omega, by omega⟩ (by omega) dX8_ticksUntil_29 ?_
        exact R_iret hX dX8_ticksUntil_30 ⟨by unfold tuS; rw [if_neg (by omega), if_neg (by omega)], rfl⟩
      · skip
        refine R_sipush hX dX8_ticksUntil_17 (by decide) ?_
        exact R_iret hX dX8_ticksUntil_20 ⟨by unfold tuS; rw [if_neg (by omega), if_pos (by omega)], rfl⟩
  · skip
    refine R_iconst hX dX8_ticksUntil_5 ?_
    exact R_iret hX dX8_ticksUntil_6 ⟨(if_pos (by omega)).symm, rfl⟩
set_option maxRecDepth 100000 in
set_option maxHeartbeats 4000000 in
theorem c_ticksUntilLender {V : VX} {T : Shp} {F : Hp} {u b : Int} (hu : isSu u) (hb : isSt b) (hU : SuI u F) (hA : AcI b u F) {leaf c : Int} (hl : 0 ≤ leaf ∧ leaf < F u 0) (hc : 1 ≤ c ∧ c ≤ 99) : Ct V yX8_ticksUntilLender cX8_ticksUntilLender 13 (some .int) 1 23 0 0 (SH T) [vr V b, vr V u, vi leaf, vi c] F (SH T) 1 (fun r F' => r = wtA b u F leaf c ∧ F' = F) := by
  refine Ct.of [some (vr V b), some (vr V u), some (vi leaf), some (vi c), none, none, none, none, none, none, none, none, none] (by decide) (by simp [lg_sl, vi_cat, vl_cat, vr_cat]) rfl (by simp [asc, lv_args, vi_cat, vl_cat, vr_cat]) (fun X hV hX => ?_)
  subst hV
  have hN := hU.1
  refine R_iconst hX dX8_ticksUntilLender_0 ?_
  refine R_istore_4 hX c1_i dX8_ticksUntilLender_1 ?_
  refine R_sipush hX dX8_ticksUntilLender_3 (by decide) ?_
  refine R_istore_5 hX c1_i dX8_ticksUntilLender_6 ?_
  refine R_iconst hX dX8_ticksUntilLender_8 ?_
  refine R_istore_6 hX c1_i dX8_ticksUntilLender_9 ?_
  refine R_iload_2 hX dX8_ticksUntilLender_11 ?_
  refine R_istore_7 hX c1_i dX8_ticksUntilLender_12 ?_
  refine R_iconst hX dX8_ticksUntilLender_14 ?_
  refine R_istore_8 hX c1_i dX8_ticksUntilLender_15 ?_
  have lp_17 : ∀ (n : Nat) (k : Nat) (uh : Int) (up : Int) (may : Int) (node : Int) (step : Int), (-2 ≤ node ∧ node < F u 0 ∧ node < k ∧ 0 ≤ step ∧ step + node < 12 ∧ step ≤ 13 ∧ 0 ≤ uh ∧ uh ≤ 1001 ∧ 0 ≤ up ∧ up ≤ 1001 ∧ 0 ≤ may ∧ may ≤ 1) → (wtS b u F c k node may uh up = wtS b u F c 13 leaf 1 0 1001) → (13 - step).toNat < n → R X (SH T) 0 0 17 [some (vr (xV X) b), some (vr (xV X) u), some (vi leaf), some (vi c), some (vi uh), some (vi up), some (vi may), some (vi node), some (vi step), none, none, none, none] [] F (Zq X (SH T) 1 (fun r F' => r = wtA b u F leaf c ∧ F' = F) 0 0) := by
    intro n
    induction n with
    | zero => intro k uh up may node step iv17_0 iv17_1 hm; exact absurd hm (Nat.not_lt_zero _)
    | succ n ih_17 =>
      intro k uh up may node step iv17_0 iv17_1 hm_17
      refine R_iload_8 hX dX8_ticksUntilLender_17 ?_
      refine R_bipush hX dX8_ticksUntilLender_19 (by decide) ?_
      refine R_icmpge (tgt := 170) hX dX8_ticksUntilLender_21 (by decide) ⟨by omega, by omega⟩ ⟨by omega, by omega⟩ (fun c_21 => ?_) (fun c_21 => ?_)
      · skip
        refine R_iload_4 hX dX8_ticksUntilLender_170 ?_
        refine R_iload_5 hX dX8_ticksUntilLender_172 ?_
        refine R_mmax hX dX8_ticksUntilLender_174 mm_X8_133 mm_s_max in_java_lang_Math mm_c_max ⟨by omega, by omega⟩ ⟨by omega, by omega⟩ ⟨by decide, by decide, by decide, by decide⟩ rfl (Nat.le_of_ble_eq_true rfl) ?_
        refine R_istore_8 hX c1_i dX8_ticksUntilLender_177 ?_
        refine R_iload_8 hX dX8_ticksUntilLender_179 ?_
        refine R_sipush hX dX8_ticksUntilLender_181 (by decide) ?_
        refine R_icmpgt (tgt := 192) hX dX8_ticksUntilLender_184 (by decide) ⟨by omega, by omega⟩ ⟨by omega, by omega⟩ (fun c_184 => ?_) (fun c_184 => ?_)
        · skip
          refine R_bipush hX dX8_ticksUntilLender_192 (by decide) ?_
          exact R_iret hX dX8_ticksUntilLender_194 ⟨by unfold wtA; rw [← iv17_1, wtS_neg (by omega)]; first | rw [if_pos (by omega)] | rw [if_neg (by omega)], rfl⟩
        · skip
          refine R_iload_8 hX dX8_ticksUntilLender_187 ?_
          refine R_goto (tgt := 194) hX dX8_ticksUntilLender_189 (by decide) ?_
          exact R_iret hX dX8_ticksUntilLender_194 ⟨by unfold wtA; rw [← iv17_1, wtS_neg (by omega)]; first | rw [if_pos (by omega)] | rw [if_neg (by omega)], rfl⟩
      · skip
        refine R_aload_1 hX dX8_ticksUntilLender_24 ?_
        refine R_iload_7 hX dX8_ticksUntilLender_25 ?_
        refine R_v1i hX dX8_ticksUntilLender_27 li_X8_91 mk_X7_hasNode mi_X7_hasNode rfl (to_0 hu) (c_hasNode hu hN ⟨by omega, by omega⟩) ⟨⟨by decide, by decide⟩, by decide, by decide, rfl, Nat.le_of_ble_eq_true rfl, rfl⟩ (fun x_27 F_27 h_27 => ?_)
        obtain ⟨h_27, e_27⟩ := h_27; replace e_27 := e_27.symm; subst e_27
        refine R_ifeq (tgt := 170) hX dX8_ticksUntilLender_30 (by decide) ⟨by omega, by omega⟩ (fun c_30 => ?_) (fun c_30 => ?_)
        · skip
          refine R_iload_4 hX dX8_ticksUntilLender_170 ?_
          refine R_iload_5 hX dX8_ticksUntilLender_172 ?_
          refine R_mmax hX dX8_ticksUntilLender_174 mm_X8_133 mm_s_max in_java_lang_Math mm_c_max ⟨by omega, by omega⟩ ⟨by omega, by omega⟩ ⟨by decide, by decide, by decide, by decide⟩ rfl (Nat.le_of_ble_eq_true rfl) ?_
          refine R_istore_8 hX c1_i dX8_ticksUntilLender_177 ?_
          refine R_iload_8 hX dX8_ticksUntilLender_179 ?_
          refine R_sipush hX dX8_ticksUntilLender_181 (by decide) ?_
          refine R_icmpgt (tgt := 192) hX dX8_ticksUntilLender_184 (by decide) ⟨by omega, by omega⟩ ⟨by omega, by omega⟩ (fun c_184 => ?_) (fun c_184 => ?_)
          · skip
            refine R_bipush hX dX8_ticksUntilLender_192 (by decide) ?_
            exact R_iret hX dX8_ticksUntilLender_194 ⟨by unfold wtA; rw [← iv17_1, wtS_neg (by omega)]; first | rw [if_pos (by omega)] | rw [if_neg (by omega)], rfl⟩
          · skip
            refine R_iload_8 hX dX8_ticksUntilLender_187 ?_
            refine R_goto (tgt := 194) hX dX8_ticksUntilLender_189 (by decide) ?_
            exact R_iret hX dX8_ticksUntilLender_194 ⟨by unfold wtA; rw [← iv17_1, wtS_neg (by omega)]; first | rw [if_pos (by omega)] | rw [if_neg (by omega)], rfl⟩
        · skip
          have ha := hA node (by omega) (by omega)
          have hs := hU.2.2.2.2.2.2.1 node (by omega) (by omega)
          have hal := hU.2.2.2.2.2.2.2.1 node (by omega) (by omega)
          have ht := hU.2.1 node (by omega) (by omega)
          refine R_aload_1 hX dX8_ticksUntilLender_33 ?_
          refine R_getq (v := u + 7) hX dX8_ticksUntilLender_34 fl_X8_123 (to_0 hu) rfl (by omega) ?_
          refine R_iload_7 hX dX8_ticksUntilLender_37 ?_
          refine R_iald hX dX8_ticksUntilLender_39 (ta_7 hu) ⟨by omega, by omega⟩ ?_
          refine R_istore_9 hX c1_i dX8_ticksUntilLender_40 ?_
          refine R_iload_3 hX dX8_ticksUntilLender_42 ?_
          refine R_aload_0 hX dX8_ticksUntilLender_43 ?_
          refine R_getq (v := b + 4) hX dX8_ticksUntilLender_44 fl_X8_24 (so_0 hb) rfl (by omega) ?_
          refine R_getq (v := b + 7) hX dX8_ticksUntilLender_47 fl_X8_126 (so_4 hb) rfl (by omega) ?_
          refine R_iload_7 hX dX8_ticksUntilLender_50 ?_
          refine R_iald hX dX8_ticksUntilLender_52 (sa_7 hb) ⟨by omega, by omega⟩ ?_
          refine R_aload_0 hX dX8_ticksUntilLender_53 ?_
          refine R_getq (v := b + 2) hX dX8_ticksUntilLender_54 fl_X8_15 (so_0 hb) rfl (by omega) ?_
          refine R_iload_7 hX dX8_ticksUntilLender_57 ?_
          refine R_iald hX dX8_ticksUntilLender_59 (sa_2 hb) ⟨by omega, by omega⟩ ?_
          refine R_iload_9 hX dX8_ticksUntilLender_60 ?_
          refine R_s4i hX dX8_ticksUntilLender_62 li_X8_129 mk_X8_ticksUntil ms_X8_ticksUntil (c_ticksUntil (by omega)) ⟨⟨by decide, by decide⟩, by decide, by decide, rfl, Nat.le_of_ble_eq_true rfl, rfl⟩ (fun x_62 F_62 h_62 => ?_)
          obtain ⟨h_62, e_62⟩ := h_62; replace e_62 := e_62.symm; subst e_62
          subst h_62
          have hr1 := tuS_rng (g := c) (a := F (b + 7) node) (s := F (b + 2) node) (m := F (u + 7) node) (by omega)
          refine R_istore_10 hX c1_i dX8_ticksUntilLender_65 ?_
          refine R_iload_4 hX dX8_ticksUntilLender_67 ?_
          refine R_iload_10 hX dX8_ticksUntilLender_69 ?_
          refine R_mmax hX dX8_ticksUntilLender_71 mm_X8_133 mm_s_max in_java_lang_Math mm_c_max ⟨by omega, by omega⟩ ⟨by omega, by omega⟩ ⟨by decide, by decide, by decide, by decide⟩ rfl (Nat.le_of_ble_eq_true rfl) ?_
          refine R_istore_4 hX c1_i dX8_ticksUntilLender_74 ?_
          refine R_iload_6 hX dX8_ticksUntilLender_76 ?_
          refine R_ifeq (tgt := 155) hX dX8_ticksUntilLender_78 (by decide) ⟨by omega, by omega⟩ (fun c_78 => ?_) (fun c_78 => ?_)
          · skip
            refine R_aload_1 hX dX8_ticksUntilLender_155 ?_
            refine R_getq (v := u + 2) hX dX8_ticksUntilLender_156 fl_X8_88 (to_0 hu) rfl (by omega) ?_
            refine R_iload_7 hX dX8_ticksUntilLender_159 ?_
            refine R_iald hX dX8_ticksUntilLender_161 (ta_2 hu) ⟨by omega, by omega⟩ ?_
            refine R_istore_7 hX c1_i dX8_ticksUntilLender_162 ?_
            refine R_iinc_8 hX c1_i dX8_ticksUntilLender_164 ?_
            refine R_goto (tgt := 17) hX dX8_ticksUntilLender_167 (by decide) ?_
            refine R_drop_9 ?_
            refine R_drop_10 ?_
            exact ih_17 (k - 1) _ _ _ _ _ (by omega) (by rw [← iv17_1, wtS_go (k := k) (by omega) (by omega)]; congr 1 <;> first | rfl | (rw [if_pos (by omega)]; try assumption) | (rw [if_neg (by omega)]; try assumption)) (by omega)
          · skip
            refine R_aload_0 hX dX8_ticksUntilLender_81 ?_
            refine R_getq (v := b + 4) hX dX8_ticksUntilLender_82 fl_X8_24 (so_0 hb) rfl (by omega) ?_
            refine R_getq (v := b + 5) hX dX8_ticksUntilLender_85 fl_X8_136 (so_4 hb) rfl (by omega) ?_
            refine R_iload_7 hX dX8_ticksUntilLender_88 ?_
            refine R_iald hX dX8_ticksUntilLender_90 (sa_5 hb) ⟨by omega, by omega⟩ ?_
            refine R_aload_0 hX dX8_ticksUntilLender_91 ?_
            refine R_getq (v := b + 4) hX dX8_ticksUntilLender_92 fl_X8_24 (so_0 hb) rfl (by omega) ?_
            refine R_getq (v := b + 6) hX dX8_ticksUntilLender_95 fl_X8_139 (so_4 hb) rfl (by omega) ?_
            refine R_iload_7 hX dX8_ticksUntilLender_98 ?_
            refine R_iald hX dX8_ticksUntilLender_100 (sa_6 hb) ⟨by omega, by omega⟩ ?_
            refine R_iadd hX dX8_ticksUntilLender_101 ?_
            refine R_istore_11 hX c1_i dX8_ticksUntilLender_102 ?_
            refine R_iload_3 hX dX8_ticksUntilLender_104 ?_
            refine R_iload_11 hX dX8_ticksUntilLender_105 ?_
            refine R_aload_0 hX dX8_ticksUntilLender_107 ?_
            refine R_getq (v := b + 1) hX dX8_ticksUntilLender_108 fl_X8_9 (so_0 hb) rfl (by omega) ?_
            refine R_iload_7 hX dX8_ticksUntilLender_111 ?_
            refine R_iald hX dX8_ticksUntilLender_113 (sa_1 hb) ⟨by omega, by omega⟩ ?_
            refine R_iload_9 hX dX8_ticksUntilLender_114 ?_
            refine R_aload_1 hX dX8_ticksUntilLender_116 ?_
            refine R_getq (v := u + 8) hX dX8_ticksUntilLender_117 fl_X8_142 (to_0 hu) rfl (by omega) ?_
            refine R_iload_7 hX dX8_ticksUntilLender_120 ?_
            refine R_iald hX dX8_ticksUntilLender_122 (ta_8 hu) ⟨by omega, by omega⟩ ?_
            refine R_iadd hX dX8_ticksUntilLender_123 ?_
            refine R_s4i hX dX8_ticksUntilLender_124 li_X8_129 mk_X8_ticksUntil ms_X8_ticksUntil (c_ticksUntil (by omega)) ⟨⟨by decide, by decide⟩, by decide, by decide, rfl, Nat.le_of_ble_eq_true rfl, rfl⟩ (fun x_124 F_124 h_124 => ?_)
            obtain ⟨h_124, e_124⟩ := h_124; replace e_124 := e_124.symm; subst e_124
            subst h_124
            have hr2 := tuS_rng (g := c) (a := F (b + 5) node + F (b + 6) node) (s := F (b + 1) node) (m := F (u + 7) node + F (u + 8) node) (by omega)
            refine R_istore_12 hX c1_i dX8_ticksUntilLender_127 ?_
            refine R_iload_5 hX dX8_ticksUntilLender_129 ?_
            refine R_iload_12 hX dX8_ticksUntilLender_131 ?_
            refine R_mmin hX dX8_ticksUntilLender_133 mm_X8_95 mm_s_min in_java_lang_Math mm_c_min ⟨by omega, by omega⟩ ⟨by omega, by omega⟩ ⟨by decide, by decide, by decide, by decide⟩ rfl (Nat.le_of_ble_eq_true rfl) ?_
            refine R_istore_5 hX c1_i dX8_ticksUntilLender_136 ?_
            refine R_aload_1 hX dX8_ticksUntilLender_138 ?_
            refine R_getq (v := u + 11) hX dX8_ticksUntilLender_139 fl_X8_145 (to_0 hu) rfl (by omega) ?_
            refine R_iload_7 hX dX8_ticksUntilLender_142 ?_
            refine R_zald hX dX8_ticksUntilLender_144 (ta_11 hu) ⟨by omega, by omega⟩ ?_
            refine R_ifne (tgt := 152) hX dX8_ticksUntilLender_145 (by decide) ⟨by omega, by omega⟩ (fun c_145 => ?_) (fun c_145 => ?_)
            · skip
              refine R_iconst hX dX8_ticksUntilLender_152 ?_
              refine R_istore_6 hX c1_i dX8_ticksUntilLender_153 ?_
              refine R_aload_1 hX dX8_ticksUntilLender_155 ?_
              refine R_getq (v := u + 2) hX dX8_ticksUntilLender_156 fl_X8_88 (to_0 hu) rfl (by omega) ?_
              refine R_iload_7 hX dX8_ticksUntilLender_159 ?_
              refine R_iald hX dX8_ticksUntilLender_161 (ta_2 hu) ⟨by omega, by omega⟩ ?_
              refine R_istore_7 hX c1_i dX8_ticksUntilLender_162 ?_
              refine R_iinc_8 hX c1_i dX8_ticksUntilLender_164 ?_
              refine R_goto (tgt := 17) hX dX8_ticksUntilLender_167 (by decide) ?_
              refine R_drop_9 ?_
              refine R_drop_10 ?_
              refine R_drop_11 ?_
              refine R_drop_12 ?_
              exact ih_17 (k - 1) _ _ _ _ _ (by omega) (by rw [← iv17_1, wtS_go (k := k) (by omega) (by omega)]; congr 1 <;> first | rfl | (rw [if_pos (by omega)]; try assumption) | (rw [if_neg (by omega)]; try assumption)) (by omega)
            · skip
              refine R_iconst hX dX8_ticksUntilLender_148 ?_
              refine R_goto (tgt := 153) hX dX8_ticksUntilLender_149 (by decide) ?_
              refine R_istore_6 hX c1_i dX8_ticksUntilLender_153 ?_
              refine R_aload_1 hX dX8_ticksUntilLender_155 ?_
              refine R_getq (v := u + 2) hX dX8_ticksUntilLender_156 fl_X8_88 (to_0 hu) rfl (by omega) ?_
              refine R_iload_7 hX dX8_ticksUntilLender_159 ?_
              refine R_iald hX dX8_ticksUntilLender_161 (ta_2 hu) ⟨by omega, by omega⟩ ?_
              refine R_istore_7 hX c1_i dX8_ticksUntilLender_162 ?_
              refine R_iinc_8 hX c1_i dX8_ticksUntilLender_164 ?_
              refine R_goto (tgt := 17) hX dX8_ticksUntilLender_167 (by decide) ?_
              refine R_drop_9 ?_
              refine R_drop_10 ?_
              refine R_drop_11 ?_
              refine R_drop_12 ?_
              exact ih_17 (k - 1) _ _ _ _ _ (by omega) (by rw [← iv17_1, wtS_go (k := k) (by omega) (by omega)]; congr 1 <;> first | rfl | (rw [if_pos (by omega)]; try assumption) | (rw [if_neg (by omega)]; try assumption)) (by omega)
  exact lp_17 14 13 _ _ _ _ _ (by omega) rfl (by omega)
