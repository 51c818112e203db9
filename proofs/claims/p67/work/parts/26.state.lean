def acT (e b : Int) (F : Hp) : Hp := cpy (cpy (cpy (F) (e + 5) 0 (b + 5) 0 12) (e + 6) 0 (b + 6) 0 12) (e + 7) 0 (b + 7) 0 12
def quT (e b : Int) (F : Hp) : Hp := up (cpy (cpy (cpy (cpy (F) (e + 9) 0 (b + 9) 0 12) (e + 10) 0 (b + 10) 0 192) (e + 11) 0 (b + 11) 0 192) (e + 12) 0 (b + 12) 0 192) (b + 8) 4 (F (e + 8) 4)
def coT (e b : Int) (F : Hp) : Hp := cpy (cpy (cpy (cpy (cpy (F) (e + 14) 0 (b + 14) 0 12) (e + 15) 0 (b + 15) 0 12) (e + 16) 0 (b + 16) 0 12) (e + 17) 0 (b + 17) 0 12) (e + 18) 0 (b + 18) 0 12
def loT (e b : Int) (F : Hp) : Hp := cpy (cpy (cpy (cpy (up F (b + 19) 0 (F (e + 19) 0)) (e + 20) 0 (b + 20) 0 24) (e + 21) 0 (b + 21) 0 24) (e + 22) 0 (b + 22) 0 24) (e + 23) 0 (b + 23) 0 24
def cpT (e b : Int) (F : Hp) : Hp := loT e b (coT e b (quT e b (acT e b (cpy (cpy (cpy (up F b 1 (F e 1)) (e + 1) 0 (b + 1) 0 12) (e + 2) 0 (b + 2) 0 12) (e + 3) 0 (b + 3) 0 12))))
theorem R_pcn {X : KX} {sh : Shp} {cs ss pc : Nat} {L : List (Option Value)} {st : List Value} {F : Hp} {Z : State → Prop} {pc' : Nat} (h : pc' = pc) (k : R X sh cs ss pc L st F Z) : R X sh cs ss pc' L st F Z := by subst h; exact k
theorem R.gen {X : KX} {sh : Shp} {cs ss pc : Nat} {L : List (Option Value)} {st : List Value} {F : Hp} {Z : State → Prop} (k : ∀ G : Hp, G = F → R X sh cs ss pc L st G Z) : R X sh cs ss pc L st F Z := k F rfl
theorem chgS_s {b u i : Int} {F : Hp} (h : 0 ≤ i) : chgS b u (i + 1).toNat F = chS1 b u i (chgS b u i.toNat F) := by
  obtain ⟨k, rfl⟩ : ∃ k : Nat, i = k := ⟨i.toNat, by omega⟩
  rfl
theorem refS_s {b u i : Int} {F : Hp} (h : 0 ≤ i) : refS b u (i + 1).toNat F = rfS1 b u i (refS b u i.toNat F) := by
  obtain ⟨k, rfl⟩ : ∃ k : Nat, i = k := ⟨i.toNat, by omega⟩
  rfl
theorem drpS_s {b u i : Int} {F : Hp} (h : 0 ≤ i) : drpS b u (i + 1).toNat F = drp1 b u i 16 (drpS b u i.toNat F) := by
  obtain ⟨k, rfl⟩ : ∃ k : Nat, i = k := ⟨i.toNat, by omega⟩
  rfl
theorem tksS_s {b u i : Int} {F : Hp} (h : 0 ≤ i) : tksS b u (i + 1).toNat F = ((tksS b u i.toNat F).1 + (tikS b u (tksS b u i.toNat F).2).1, (tikS b u (tksS b u i.toNat F).2).2) := by
  obtain ⟨k, rfl⟩ : ∃ k : Nat, i = k := ⟨i.toNat, by omega⟩
  rfl
theorem drp1_stop {b u leaf : Int} {k : Nat} {F : Hp} (h : ¬ oldF b leaf (F u 14) F = true) : drp1 b u leaf k F = F := by
  cases k with
  | zero => rfl
  | succ k => exact if_neg h
theorem drp1_go {b u leaf : Int} {k : Nat} {F : Hp} (hk : 0 < k) (h : oldF b leaf (F u 14) F = true) : drp1 b u leaf k F = drp1 b u leaf (k - 1) (up (rmS b leaf F) (b + 18) leaf (F (b + 18) leaf + 1)) := by
  cases k with
  | zero => omega
  | succ k => exact if_pos h
theorem dspS_stop {b u : Int} {k : Nat} {F : Hp} (h : chlS b u F = -2) : dspS b u k F = (0, F) := by
  cases k with
  | zero => rfl
  | succ k => exact if_pos h
theorem dspS_go {b u : Int} {k : Nat} {F : Hp} (hk : 0 < k) (h : ¬ chlS b u F = -2) : dspS b u k F = ((dspS b u (k - 1) (rmS b (chlS b u F) (sndS b u (chlS b u F) (lndS b u F (chlS b u F) (F (b + 11) (chlS b u F * 16))) (F (b + 11) (chlS b u F * 16)) F))).1 + 1, (dspS b u (k - 1) (rmS b (chlS b u F) (sndS b u (chlS b u F) (lndS b u F (chlS b u F) (F (b + 11) (chlS b u F * 16))) (F (b + 11) (chlS b u F * 16)) F))).2) := by
  cases k with
  | zero => omega
  | succ k => exact if_neg h
theorem pofS_stop {b u leaf c : Int} {k : Nat} {F : Hp} (h : lndS b u F leaf c = -2) : pofS b u leaf c k F = (0, F) := by
  cases k with
  | zero => rfl
  | succ k => exact if_pos h
theorem pofS_go {b u leaf c : Int} {k : Nat} {F : Hp} (hk : 0 < k) (h : ¬ lndS b u F leaf c = -2) : pofS b u leaf c k F = ((pofS b u leaf c (k - 1) (payS b u leaf (lndS b u F leaf c) c F)).1 + 1, (pofS b u leaf c (k - 1) (payS b u leaf (lndS b u F leaf c) c F)).2) := by
  cases k with
  | zero => omega
  | succ k => exact if_neg h
theorem sa_plc {T : Shp} {b s : Int} (hb : isSt b) : isA (SH T) (b + plc s) .int 12 := by
  unfold plc
  split
  · exact sa_1 hb
  · split
    · exact sa_2 hb
    · exact sa_3 hb
theorem dj_of {b u : Int} (hu : isSu u) (hb : isSt b) : dj b u := by omega
set_option maxRecDepth 100000 in
set_option maxHeartbeats 4000000 in
theorem c_pay {V : VX} {T : Shp} {F : Hp} {u b : Int} (hu : isSu u) (hb : isSt b) (hN : 0 ≤ F u 0 ∧ F u 0 ≤ 12) (hT : Tr (F u 0) (F (u + 2))) {leaf l c : Int} (hl : 0 ≤ leaf ∧ leaf < F u 0) (hll : 0 ≤ l ∧ l ≤ leaf) (hon : onP (F (u + 2)) 13 leaf l = true) (hc : 1 ≤ c ∧ c ≤ 99) (hv : ∀ n : Int, 0 ≤ n → n < F u 0 → 0 ≤ F (b + 5) n ∧ F (b + 5) n ≤ 999) : Ct V yX0_pay cX0_pay 9 none 1 21 0 0 (SH T) [vr V (b + 4), vr V u, vi leaf, vi l, vi c] F (SH T) 0 (fun r F' => F' = payS b u leaf l c F) := by
  refine Ct.of [some (vr V (b + 4)), some (vr V u), some (vi leaf), some (vi l), some (vi c), none, none, none, none] (by decide) (by simp [lg_sl, vi_cat, vl_cat, vr_cat]) rfl (by simp [asc, lv_args, vi_cat, vl_cat, vr_cat]) (fun X hV hX => ?_)
  subst hV
  refine R_iconst hX dX0_pay_0 ?_
  refine R_istore_5 hX c1_i dX0_pay_1 ?_
  refine R_iload_2 hX dX0_pay_3 ?_
  refine R_istore_6 hX c1_i dX0_pay_4 ?_
  refine R_iconst hX dX0_pay_6 ?_
  refine R_istore_7 hX c1_i dX0_pay_7 ?_
  have lp_9 : ∀ (n : Nat) (k : Nat) (paid : Int) (node : Int) (step : Int) (G : Hp), (-2 ≤ node ∧ node < F u 0 ∧ node < k ∧ 0 ≤ step ∧ step + node < 12 ∧ step ≤ 13) → ((paid = 1 ∧ node < l) ∨ (paid = 0 ∧ l ≤ node)) → (∀ i : Int, i ≤ node → onP (F (u + 2)) 13 leaf i = onP (F (u + 2)) k node i) → (PayI F b (F (u + 2)) leaf l c node G) → (13 - step).toNat < n → R X (SH T) 0 0 9 [some (vr (xV X) (b + 4)), some (vr (xV X) u), some (vi leaf), some (vi l), some (vi c), some (vi paid), some (vi node), some (vi step), none] [] G (Zq X (SH T) 0 (fun r F' => F' = payS b u leaf l c F) 0 0) := by
    intro n
    induction n with
    | zero => intro k paid node step G iv9_0 iv9_1 iv9_2 iv9_3 hm; exact absurd hm (Nat.not_lt_zero _)
    | succ n ih_9 =>
      intro k paid node step G iv9_0 iv9_1 iv9_2 iv9_3 hm_9
      obtain ⟨g7, g5, g6, g0⟩ := iv9_3
      have gN : G u 0 = F u 0 := g0 u 0 (by omega) (by omega) (by omega)
      have gP : ∀ i, G (u + 2) i = F (u + 2) i := fun i => g0 (u + 2) i (by omega) (by omega) (by omega)
      have m7 : G (b + 7) node = F (b + 7) node := by rw [g7, if_neg (by omega)]
      have m5 : G (b + 5) node = F (b + 5) node := by rw [g5, if_neg (by omega)]
      have m6 : G (b + 6) node = F (b + 6) node := by rw [g6]; rw [if_neg (by omega)]
      refine R_iload_7 hX dX0_pay_9 ?_
      refine R_bipush hX dX0_pay_11 (by decide) ?_
      refine R_icmpge (tgt := 116) hX dX0_pay_13 (by decide) (by constructor <;> first | omega | (simp (disch := omega) only [up_k, up_i, up_s]; omega)) (by constructor <;> first | omega | (simp (disch := omega) only [up_k, up_i, up_s]; omega)) (fun c_13 => ?_) (fun c_13 => ?_)
      · skip
        exact R_vret hX dX0_pay_116 (PayI.fin (N := F u 0) hT hl.2 hll.1 (by omega) ⟨g7, g5, g6, g0⟩)
      · skip
        refine R_aload_1 hX dX0_pay_16 ?_
        refine R_iload_6 hX dX0_pay_17 ?_
        refine R_v1i hX dX0_pay_19 li_X0_46 mk_X7_hasNode mi_X7_hasNode rfl (to_0 hu) (c_hasNode hu (by rw [gN]; exact hN) ⟨by omega, by omega⟩) ⟨⟨by decide, by decide⟩, by decide, by decide, rfl, Nat.le_of_ble_eq_true rfl, rfl⟩ (fun x_19 F_19 h_19 => ?_)
        obtain ⟨h_19, e_19⟩ := h_19; replace e_19 := e_19.symm; subst e_19
        refine R_ifeq (tgt := 116) hX dX0_pay_22 (by decide) (by constructor <;> first | omega | (simp (disch := omega) only [up_k, up_i, up_s]; omega)) (fun c_22 => ?_) (fun c_22 => ?_)
        · skip
          exact R_vret hX dX0_pay_116 (PayI.fin (N := F u 0) hT hl.2 hll.1 (by omega) ⟨g7, g5, g6, g0⟩)
        · skip
          have hv1 := hv node (by omega) (by omega)
          have ht1 := hT node (by omega) (by omega)
          have hpl : l < node → l ≤ F (u + 2) node := fun q => by
            by_cases w : F (u + 2) node < l
            · have := (onP_step hT (by omega) (by omega) (by omega) iv9_2).2.1 l w q
              rw [hon] at this
              cases this
            · omega
          refine R_aload_0 hX dX0_pay_25 ?_
          refine R_getq (v := b + 7) hX dX0_pay_26 fl_X0_18 (so_4 hb) rfl (by omega) ?_
          refine R_iload_6 hX dX0_pay_29 ?_
          refine R_dup2 hX c1_i c1_r dX0_pay_31 ?_
          refine R_iald hX dX0_pay_32 (sa_7 hb) ⟨by omega, by omega⟩ ?_
          refine R_iload_4 hX dX0_pay_33 ?_
          refine R_isub hX dX0_pay_35 ?_
          refine R_iast hX dX0_pay_36 (sa_7 hb) ⟨by omega, by omega⟩ ?_
          refine R_iload_5 hX dX0_pay_37 ?_
          refine R_ifne (tgt := 48) hX dX0_pay_39 (by decide) (by constructor <;> first | omega | (simp (disch := omega) only [up_k, up_i, up_s]; omega)) (fun c_39 => ?_) (fun c_39 => ?_)
          · skip
            refine R_aload_0 hX dX0_pay_48 ?_
            refine R_getq (v := b + 5) hX dX0_pay_49 fl_X0_9 (so_4 hb) rfl (by omega) ?_
            refine R_iload_6 hX dX0_pay_52 ?_
            refine R_iald hX dX0_pay_54 (sa_5 hb) ⟨by omega, by omega⟩ ?_
            refine R_iload_4 hX dX0_pay_55 ?_
            refine R_mmin hX dX0_pay_57 mm_X0_43 mm_s_min in_java_lang_Math mm_c_min (by constructor <;> first | omega | (simp (disch := omega) only [up_k, up_i, up_s]; omega)) (by constructor <;> first | omega | (simp (disch := omega) only [up_k, up_i, up_s]; omega)) ⟨by decide, by decide, by decide, by decide⟩ rfl (Nat.le_of_ble_eq_true rfl) ?_
            refine R_istore_8 hX c1_i dX0_pay_60 ?_
            refine R_aload_0 hX dX0_pay_62 ?_
            refine R_getq (v := b + 5) hX dX0_pay_63 fl_X0_9 (so_4 hb) rfl (by omega) ?_
            refine R_iload_6 hX dX0_pay_66 ?_
            refine R_dup2 hX c1_i c1_r dX0_pay_68 ?_
            refine R_iald hX dX0_pay_69 (sa_5 hb) ⟨by omega, by omega⟩ ?_
            refine R_iload_8 hX dX0_pay_70 ?_
            refine R_isub hX dX0_pay_72 ?_
            refine R_iast hX dX0_pay_73 (sa_5 hb) ⟨by omega, by omega⟩ ?_
            refine R_aload_0 hX dX0_pay_74 ?_
            refine R_getq (v := b + 6) hX dX0_pay_75 fl_X0_15 (so_4 hb) rfl (by omega) ?_
            refine R_iload_6 hX dX0_pay_78 ?_
            refine R_dup2 hX c1_i c1_r dX0_pay_80 ?_
            refine R_iald hX dX0_pay_81 (sa_6 hb) ⟨by omega, by omega⟩ ?_
            refine R_iload_5 hX dX0_pay_82 ?_
            refine R_ifeq (tgt := 91) hX dX0_pay_84 (by decide) (by constructor <;> first | omega | (simp (disch := omega) only [up_k, up_i, up_s]; omega)) (fun c_84 => ?_) (fun c_84 => ?_)
            · skip
              refine R_iload_4 hX dX0_pay_91 ?_
              refine R_iload_8 hX dX0_pay_93 ?_
              refine R_isub hX dX0_pay_95 ?_
              skip
              refine R_isub hX dX0_pay_96 ?_
              refine R_iast hX dX0_pay_97 (sa_6 hb) ⟨by omega, by omega⟩ ?_
              refine R_iconst hX dX0_pay_98 ?_
              refine R_istore_5 hX c1_i dX0_pay_99 ?_
              refine R_aload_1 hX dX0_pay_101 ?_
              refine R_getq (v := u + 2) hX dX0_pay_102 fl_X0_50 (to_0 hu) rfl (by omega) ?_
              refine R_iload_6 hX dX0_pay_105 ?_
              refine R_iald hX dX0_pay_107 (ta_2 hu) ⟨by omega, by omega⟩ ?_
              simp (disch := omega) only [up_k, gP]
              refine R_istore_6 hX c1_i dX0_pay_108 ?_
              refine R_iinc_7 hX c1_i dX0_pay_110 ?_
              refine R.gen (fun G2 hG2 => ?_)
              have hst : PayI F b (F (u + 2)) leaf l c (F (u + 2) node) G2 := by
                subst hG2
                refine PayI.step ⟨g7, g5, g6, g0⟩ hT (by omega) (by omega) (by omega) iv9_2 hon (fun i => ?_) (fun i => ?_) (fun i => ?_) (fun a i z1 z2 z3 => by simp (disch := omega) only [up_k])
                · by_cases z : i = node
                  · rw [if_pos z]; subst z; first | (exfalso; omega) | simp (disch := omega) only [up_k, up_s, m7]
                  · rw [if_neg z]; simp (disch := omega) only [up_k, up_i]
                · by_cases z : i = node ∧ node ≤ l
                  · rw [if_pos z]; obtain ⟨z1, z2⟩ := z; subst z1; first | omega | (simp (disch := omega) only [up_k, up_s, m5]; done)
                  · rw [if_neg z]; first | (have z1 : i ≠ node := by omega
                                            simp (disch := omega) only [up_k, up_i]; done) | (simp (disch := omega) only [up_k]; done)
                · by_cases z : i = node ∧ node = l
                  · rw [if_pos z]; obtain ⟨z1, z2⟩ := z; subst z1; subst z2; first | omega | (simp (disch := omega) only [up_k, up_s, m5, m6]; done)
                  · rw [if_neg z]; by_cases w : i = node
                    · subst w; first | omega | (simp (disch := omega) only [up_k, up_s, Int.sub_zero]; done) | (simp (disch := omega) only [up_k]; done)
                    · simp (disch := omega) only [up_k, up_i]
              refine R_goto (tgt := 9) hX dX0_pay_113 (by decide) ?_
              refine R_drop_8 ?_
              exact ih_9 (k - 1) _ _ _ _ (by omega) (by omega) (onP_step hT (by omega) (by omega) (by omega) iv9_2).2.2 hst (by omega)
            · skip
              refine R_iconst hX dX0_pay_87 ?_
              refine R_goto (tgt := 96) hX dX0_pay_88 (by decide) ?_
              skip
              refine R_isub hX dX0_pay_96 ?_
              refine R_iast hX dX0_pay_97 (sa_6 hb) ⟨by omega, by omega⟩ ?_
              refine R_iconst hX dX0_pay_98 ?_
              refine R_istore_5 hX c1_i dX0_pay_99 ?_
              refine R_aload_1 hX dX0_pay_101 ?_
              refine R_getq (v := u + 2) hX dX0_pay_102 fl_X0_50 (to_0 hu) rfl (by omega) ?_
              refine R_iload_6 hX dX0_pay_105 ?_
              refine R_iald hX dX0_pay_107 (ta_2 hu) ⟨by omega, by omega⟩ ?_
              simp (disch := omega) only [up_k, gP]
              refine R_istore_6 hX c1_i dX0_pay_108 ?_
              refine R_iinc_7 hX c1_i dX0_pay_110 ?_
              refine R.gen (fun G2 hG2 => ?_)
              have hst : PayI F b (F (u + 2)) leaf l c (F (u + 2) node) G2 := by
                subst hG2
                refine PayI.step ⟨g7, g5, g6, g0⟩ hT (by omega) (by omega) (by omega) iv9_2 hon (fun i => ?_) (fun i => ?_) (fun i => ?_) (fun a i z1 z2 z3 => by simp (disch := omega) only [up_k])
                · by_cases z : i = node
                  · rw [if_pos z]; subst z; first | (exfalso; omega) | simp (disch := omega) only [up_k, up_s, m7]
                  · rw [if_neg z]; simp (disch := omega) only [up_k, up_i]
                · by_cases z : i = node ∧ node ≤ l
                  · rw [if_pos z]; obtain ⟨z1, z2⟩ := z; subst z1; first | omega | (simp (disch := omega) only [up_k, up_s, m5]; done)
                  · rw [if_neg z]; first | (have z1 : i ≠ node := by omega
                                            simp (disch := omega) only [up_k, up_i]; done) | (simp (disch := omega) only [up_k]; done)
                · by_cases z : i = node ∧ node = l
                  · rw [if_pos z]; obtain ⟨z1, z2⟩ := z; subst z1; subst z2; first | omega | (simp (disch := omega) only [up_k, up_s, m5, m6]; done)
                  · rw [if_neg z]; by_cases w : i = node
                    · subst w; first | omega | (simp (disch := omega) only [up_k, up_s, Int.sub_zero]; done) | (simp (disch := omega) only [up_k]; done)
                    · simp (disch := omega) only [up_k, up_i]
              refine R_goto (tgt := 9) hX dX0_pay_113 (by decide) ?_
              refine R_drop_8 ?_
              exact ih_9 (k - 1) _ _ _ _ (by omega) (by omega) (onP_step hT (by omega) (by omega) (by omega) iv9_2).2.2 hst (by omega)
          · skip
            refine R_iload_6 hX dX0_pay_42 ?_
            refine R_iload_3 hX dX0_pay_44 ?_
            refine R_icmpne (tgt := 101) hX dX0_pay_45 (by decide) (by constructor <;> first | omega | (simp (disch := omega) only [up_k, up_i, up_s]; omega)) (by constructor <;> first | omega | (simp (disch := omega) only [up_k, up_i, up_s]; omega)) (fun c_45 => ?_) (fun c_45 => ?_)
            · skip
              refine R_aload_1 hX dX0_pay_101 ?_
              refine R_getq (v := u + 2) hX dX0_pay_102 fl_X0_50 (to_0 hu) rfl (by omega) ?_
              refine R_iload_6 hX dX0_pay_105 ?_
              refine R_iald hX dX0_pay_107 (ta_2 hu) ⟨by omega, by omega⟩ ?_
              simp (disch := omega) only [up_k, gP]
              refine R_istore_6 hX c1_i dX0_pay_108 ?_
              refine R_iinc_7 hX c1_i dX0_pay_110 ?_
              refine R.gen (fun G2 hG2 => ?_)
              have hst : PayI F b (F (u + 2)) leaf l c (F (u + 2) node) G2 := by
                subst hG2
                refine PayI.step ⟨g7, g5, g6, g0⟩ hT (by omega) (by omega) (by omega) iv9_2 hon (fun i => ?_) (fun i => ?_) (fun i => ?_) (fun a i z1 z2 z3 => by simp (disch := omega) only [up_k])
                · by_cases z : i = node
                  · rw [if_pos z]; subst z; first | (exfalso; omega) | simp (disch := omega) only [up_k, up_s, m7]
                  · rw [if_neg z]; simp (disch := omega) only [up_k, up_i]
                · by_cases z : i = node ∧ node ≤ l
                  · rw [if_pos z]; obtain ⟨z1, z2⟩ := z; subst z1; first | omega | (simp (disch := omega) only [up_k, up_s, m5]; done)
                  · rw [if_neg z]; first | (have z1 : i ≠ node := by omega
                                            simp (disch := omega) only [up_k, up_i]; done) | (simp (disch := omega) only [up_k]; done)
                · by_cases z : i = node ∧ node = l
                  · rw [if_pos z]; obtain ⟨z1, z2⟩ := z; subst z1; subst z2; first | omega | (simp (disch := omega) only [up_k, up_s, m5, m6]; done)
                  · rw [if_neg z]; by_cases w : i = node
                    · subst w; first | omega | (simp (disch := omega) only [up_k, up_s, Int.sub_zero]; done) | (simp (disch := omega) only [up_k]; done)
                    · simp (disch := omega) only [up_k, up_i]
              refine R_goto (tgt := 9) hX dX0_pay_113 (by decide) ?_
              exact ih_9 (k - 1) _ _ _ _ (by omega) (by omega) (onP_step hT (by omega) (by omega) (by omega) iv9_2).2.2 hst (by omega)
            · skip
              refine R_aload_0 hX dX0_pay_48 ?_
              refine R_getq (v := b + 5) hX dX0_pay_49 fl_X0_9 (so_4 hb) rfl (by omega) ?_
              refine R_iload_6 hX dX0_pay_52 ?_
              refine R_iald hX dX0_pay_54 (sa_5 hb) ⟨by omega, by omega⟩ ?_
              refine R_iload_4 hX dX0_pay_55 ?_
              refine R_mmin hX dX0_pay_57 mm_X0_43 mm_s_min in_java_lang_Math mm_c_min (by constructor <;> first | omega | (simp (disch := omega) only [up_k, up_i, up_s]; omega)) (by constructor <;> first | omega | (simp (disch := omega) only [up_k, up_i, up_s]; omega)) ⟨by decide, by decide, by decide, by decide⟩ rfl (Nat.le_of_ble_eq_true rfl) ?_
              refine R_istore_8 hX c1_i dX0_pay_60 ?_
              refine R_aload_0 hX dX0_pay_62 ?_
              refine R_getq (v := b + 5) hX dX0_pay_63 fl_X0_9 (so_4 hb) rfl (by omega) ?_
              refine R_iload_6 hX dX0_pay_66 ?_
              refine R_dup2 hX c1_i c1_r dX0_pay_68 ?_
              refine R_iald hX dX0_pay_69 (sa_5 hb) ⟨by omega, by omega⟩ ?_
              refine R_iload_8 hX dX0_pay_70 ?_
              refine R_isub hX dX0_pay_72 ?_
              refine R_iast hX dX0_pay_73 (sa_5 hb) ⟨by omega, by omega⟩ ?_
              refine R_aload_0 hX dX0_pay_74 ?_
              refine R_getq (v := b + 6) hX dX0_pay_75 fl_X0_15 (so_4 hb) rfl (by omega) ?_
              refine R_iload_6 hX dX0_pay_78 ?_
              refine R_dup2 hX c1_i c1_r dX0_pay_80 ?_
              refine R_iald hX dX0_pay_81 (sa_6 hb) ⟨by omega, by omega⟩ ?_
              refine R_iload_5 hX dX0_pay_82 ?_
              refine R_ifeq (tgt := 91) hX dX0_pay_84 (by decide) (by constructor <;> first | omega | (simp (disch := omega) only [up_k, up_i, up_s]; omega)) (fun c_84 => ?_) (fun c_84 => ?_)
              · skip
                refine R_iload_4 hX dX0_pay_91 ?_
                refine R_iload_8 hX dX0_pay_93 ?_
                refine R_isub hX dX0_pay_95 ?_
                skip
                refine R_isub hX dX0_pay_96 ?_
                refine R_iast hX dX0_pay_97 (sa_6 hb) ⟨by omega, by omega⟩ ?_
                refine R_iconst hX dX0_pay_98 ?_
                refine R_istore_5 hX c1_i dX0_pay_99 ?_
                refine R_aload_1 hX dX0_pay_101 ?_
                refine R_getq (v := u + 2) hX dX0_pay_102 fl_X0_50 (to_0 hu) rfl (by omega) ?_
                refine R_iload_6 hX dX0_pay_105 ?_
                refine R_iald hX dX0_pay_107 (ta_2 hu) ⟨by omega, by omega⟩ ?_
                simp (disch := omega) only [up_k, gP]
                refine R_istore_6 hX c1_i dX0_pay_108 ?_
                refine R_iinc_7 hX c1_i dX0_pay_110 ?_
                refine R.gen (fun G2 hG2 => ?_)
                have hst : PayI F b (F (u + 2)) leaf l c (F (u + 2) node) G2 := by
                  subst hG2
                  refine PayI.step ⟨g7, g5, g6, g0⟩ hT (by omega) (by omega) (by omega) iv9_2 hon (fun i => ?_) (fun i => ?_) (fun i => ?_) (fun a i z1 z2 z3 => by simp (disch := omega) only [up_k])
                  · by_cases z : i = node
                    · rw [if_pos z]; subst z; first | (exfalso; omega) | simp (disch := omega) only [up_k, up_s, m7]
                    · rw [if_neg z]; simp (disch := omega) only [up_k, up_i]
                  · by_cases z : i = node ∧ node ≤ l
                    · rw [if_pos z]; obtain ⟨z1, z2⟩ := z; subst z1; first | omega | (simp (disch := omega) only [up_k, up_s, m5]; done)
                    · rw [if_neg z]; first | (have z1 : i ≠ node := by omega
                                              simp (disch := omega) only [up_k, up_i]; done) | (simp (disch := omega) only [up_k]; done)
                  · by_cases z : i = node ∧ node = l
                    · rw [if_pos z]; obtain ⟨z1, z2⟩ := z; subst z1; subst z2; first | omega | (simp (disch := omega) only [up_k, up_s, m5, m6]; done)
                    · rw [if_neg z]; by_cases w : i = node
                      · subst w; first | omega | (simp (disch := omega) only [up_k, up_s, Int.sub_zero]; done) | (simp (disch := omega) only [up_k]; done)
                      · simp (disch := omega) only [up_k, up_i]
                refine R_goto (tgt := 9) hX dX0_pay_113 (by decide) ?_
                refine R_drop_8 ?_
                exact ih_9 (k - 1) _ _ _ _ (by omega) (by omega) (onP_step hT (by omega) (by omega) (by omega) iv9_2).2.2 hst (by omega)
              · skip
                refine R_iconst hX dX0_pay_87 ?_
                refine R_goto (tgt := 96) hX dX0_pay_88 (by decide) ?_
                skip
                refine R_isub hX dX0_pay_96 ?_
                refine R_iast hX dX0_pay_97 (sa_6 hb) ⟨by omega, by omega⟩ ?_
                refine R_iconst hX dX0_pay_98 ?_
                refine R_istore_5 hX c1_i dX0_pay_99 ?_
                refine R_aload_1 hX dX0_pay_101 ?_
                refine R_getq (v := u + 2) hX dX0_pay_102 fl_X0_50 (to_0 hu) rfl (by omega) ?_
                refine R_iload_6 hX dX0_pay_105 ?_
                refine R_iald hX dX0_pay_107 (ta_2 hu) ⟨by omega, by omega⟩ ?_
                simp (disch := omega) only [up_k, gP]
                refine R_istore_6 hX c1_i dX0_pay_108 ?_
                refine R_iinc_7 hX c1_i dX0_pay_110 ?_
                refine R.gen (fun G2 hG2 => ?_)
                have hst : PayI F b (F (u + 2)) leaf l c (F (u + 2) node) G2 := by
                  subst hG2
                  refine PayI.step ⟨g7, g5, g6, g0⟩ hT (by omega) (by omega) (by omega) iv9_2 hon (fun i => ?_) (fun i => ?_) (fun i => ?_) (fun a i z1 z2 z3 => by simp (disch := omega) only [up_k])
                  · by_cases z : i = node
                    · rw [if_pos z]; subst z; first | (exfalso; omega) | simp (disch := omega) only [up_k, up_s, m7]
                    · rw [if_neg z]; simp (disch := omega) only [up_k, up_i]
                  · by_cases z : i = node ∧ node ≤ l
                    · rw [if_pos z]; obtain ⟨z1, z2⟩ := z; subst z1; first | omega | (simp (disch := omega) only [up_k, up_s, m5]; done)
                    · rw [if_neg z]; first | (have z1 : i ≠ node := by omega
                                              simp (disch := omega) only [up_k, up_i]; done) | (simp (disch := omega) only [up_k]; done)
                  · by_cases z : i = node ∧ node = l
                    · rw [if_pos z]; obtain ⟨z1, z2⟩ := z; subst z1; subst z2; first | omega | (simp (disch := omega) only [up_k, up_s, m5, m6]; done)
                    · rw [if_neg z]; by_cases w : i = node
                      · subst w; first | omega | (simp (disch := omega) only [up_k, up_s, Int.sub_zero]; done) | (simp (disch := omega) only [up_k]; done)
                      · simp (disch := omega) only [up_k, up_i]
                refine R_goto (tgt := 9) hX dX0_pay_113 (by decide) ?_
                refine R_drop_8 ?_
                exact ih_9 (k - 1) _ _ _ _ (by omega) (by omega) (onP_step hT (by omega) (by omega) (by omega) iv9_2).2.2 hst (by omega)
  exact lp_9 14 13 _ _ _ _ (by omega) (by omega) (fun i _ => rfl) (PayI.start hT hl.2 hll.2) (by omega)
set_option maxRecDepth 100000 in
set_option maxHeartbeats 4000000 in
theorem c_stRow {V : VX} {T : Shp} {F : Hp} {b : Int} (hb : isSt b) {s : Int} (hs : I32 s) : Ct V yX8_row cX8_row 2 (some (.array .int)) 0 0 0 0 (SH T) [vr V b, vi s] F (SH T) 3 (fun r F' => r = b + plc s ∧ F' = F) := by
  refine Ct.of [some (vr V b), some (vi s)] (by decide) (by simp [lg_sl, vi_cat, vl_cat, vr_cat]) rfl (by simp [asc, lv_args, vi_cat, vl_cat, vr_cat]) (fun X hV hX => ?_)
  subst hV
  refine R_iload_1 hX dX8_row_0 ?_
  refine R_lk01 hX dX8_row_1 hs (fun c_1 => ?_) (fun c_1 => ?_) (fun c_1 => ?_)
  · refine R_pcn (pc := 28) (by decide) ?_
    refine R_aload_0 hX dX8_row_28 ?_
    refine R_getq (v := b + 1) hX dX8_row_29 fl_X8_9 (so_0 hb) rfl (by omega) ?_
    exact R_aret hX (Or.inr ⟨_, rfl⟩) dX8_row_32 ⟨by unfold plc; first | rw [if_pos (by omega)] | rw [if_neg (by omega), if_pos (by omega)] | rw [if_neg (by omega), if_neg (by omega)], rfl⟩
  · refine R_pcn (pc := 33) (by decide) ?_
    refine R_aload_0 hX dX8_row_33 ?_
    refine R_getq (v := b + 2) hX dX8_row_34 fl_X8_15 (so_0 hb) rfl (by omega) ?_
    exact R_aret hX (Or.inr ⟨_, rfl⟩) dX8_row_37 ⟨by unfold plc; first | rw [if_pos (by omega)] | rw [if_neg (by omega), if_pos (by omega)] | rw [if_neg (by omega), if_neg (by omega)], rfl⟩
  · refine R_pcn (pc := 38) (by decide) ?_
    refine R_aload_0 hX dX8_row_38 ?_
    refine R_getq (v := b + 3) hX dX8_row_39 fl_X8_18 (so_0 hb) rfl (by omega) ?_
    exact R_aret hX (Or.inr ⟨_, rfl⟩) dX8_row_42 ⟨by unfold plc; first | rw [if_pos (by omega)] | rw [if_neg (by omega), if_pos (by omega)] | rw [if_neg (by omega), if_neg (by omega)], rfl⟩
set_option maxRecDepth 100000 in
set_option maxHeartbeats 4000000 in
theorem c_send {V : VX} {T : Shp} {F : Hp} {u b : Int} (hu : isSu u) (hb : isSt b) {K : Int} (hS : StA b u K F) (hK : K ≤ 1000000) {leaf l c : Int} (hl : 0 ≤ leaf ∧ leaf < F u 0) (hok : lOk b u F leaf l c) (hc : 1 ≤ c ∧ c ≤ 99) : Ct V yX8_send cX8_send 5 none 3 105 0 0 (SH T) [vr V b, vr V u, vi leaf, vi l, vi c] F (SH T) 0 (fun r F' => F' = sndS b u leaf l c F) := by
  refine Ct.of [some (vr V b), some (vr V u), some (vi leaf), some (vi l), some (vi c)] (by decide) (by simp [lg_sl, vi_cat, vl_cat, vr_cat]) rfl (by simp [asc, lv_args, vi_cat, vl_cat, vr_cat]) (fun X hV hX => ?_)
  subst hV
  have hN := hS.1.1
  have hd := dj_of hu hb
  have hlr := hok.1
  refine R_aload_1 hX dX8_send_0 ?_
  refine R_iload_2 hX dX8_send_1 ?_
  refine R_v1i hX dX8_send_2 li_X8_91 mk_X7_hasNode mi_X7_hasNode rfl (to_0 hu) (c_hasNode hu hN ⟨by omega, by omega⟩) ⟨⟨by decide, by decide⟩, by decide, by decide, rfl, Nat.le_of_ble_eq_true rfl, rfl⟩ (fun x_2 F_2 h_2 => ?_)
  obtain ⟨h_2, e_2⟩ := h_2; replace e_2 := e_2.symm; subst e_2
  refine R_ifeq (tgt := 16) hX dX8_send_5 (by decide) ⟨by omega, by omega⟩ (fun c_5 => ?_) (fun c_5 => ?_)
  · exact absurd c_5 (by omega)
  · skip
    refine R_aload_1 hX dX8_send_8 ?_
    refine R_iload_3 hX dX8_send_9 ?_
    refine R_v1i hX dX8_send_10 li_X8_91 mk_X7_hasNode mi_X7_hasNode rfl (to_0 hu) (c_hasNode hu hN ⟨by omega, by omega⟩) ⟨⟨by decide, by decide⟩, by decide, by decide, rfl, Nat.le_of_ble_eq_true rfl, rfl⟩ (fun x_10 F_10 h_10 => ?_)
    obtain ⟨h_10, e_10⟩ := h_10; replace e_10 := e_10.symm; subst e_10
    refine R_ifne (tgt := 17) hX dX8_send_13 (by decide) ⟨by omega, by omega⟩ (fun c_13 => ?_) (fun c_13 => ?_)
    · skip
      refine R_aload_0 hX dX8_send_17 ?_
      refine R_getq (v := b + 4) hX dX8_send_18 fl_X8_24 (so_0 hb) rfl (by omega) ?_
      refine R_aload_1 hX dX8_send_21 ?_
      refine R_iload_2 hX dX8_send_22 ?_
      refine R_iload_3 hX dX8_send_23 ?_
      refine R_iload_4 hX dX8_send_24 ?_
      refine R_v4v hX dX8_send_26 li_X8_101 mk_X0_pay mi_X0_pay rfl (so_4 hb) (c_pay hu hb hN hS.1.2.1 hl hok.1 hok.2.1 hc (fun n z0 z1 => by have k1 := hS.2.1 n z0 z1; have k2 := hS.1.2.2.2.2.2.2.1 n z0 z1; omega)) ⟨⟨by decide, by decide⟩, by decide, by decide, rfl, Nat.le_of_ble_eq_true rfl, rfl⟩ (fun x_26 F_26 h_26 => ?_)
      subst h_26
      have elog : ∀ (i : Int), cntS b leaf l c (payS b u leaf l c F) (b + 19) i = F (b + 19) i := fun i => by rw [cntS_r (by omega), payS_r (by omega)]
      have etim : ∀ (i : Int), cntS b leaf l c (payS b u leaf l c F) b i = F b i := fun i => by rw [cntS_r (by omega), payS_r (by omega)]
      refine R_aload_0 hX dX8_send_29 ?_
      refine R_getq (v := b + 13) hX dX8_send_30 fl_X8_38 (so_0 hb) rfl (by omega) ?_
      refine R_iload_2 hX dX8_send_33 ?_
      refine R_iload_3 hX dX8_send_34 ?_
      refine R_iload_4 hX dX8_send_35 ?_
      refine R_v3v hX dX8_send_37 li_X8_105 mk_X2_countSent mi_X2_countSent rfl (so_13 hb) (c_countSent hb (by omega) (by omega)) ⟨⟨by decide, by decide⟩, by decide, by decide, rfl, Nat.le_of_ble_eq_true rfl, rfl⟩ (fun x_37 F_37 h_37 => ?_)
      subst h_37
      refine R.eq rfl rfl (show _ = cntS b leaf l c (payS b u leaf l c F) from rfl) ?_
      refine R_aload_0 hX dX8_send_40 ?_
      refine R_getq (v := b + 19) hX dX8_send_41 fl_X8_45 (so_0 hb) rfl (by omega) ?_
      refine R_iload_2 hX dX8_send_44 ?_
      refine R_iload_4 hX dX8_send_45 ?_
      refine R_iload_3 hX dX8_send_47 ?_
      refine R_aload_0 hX dX8_send_48 ?_
      refine R_geti hX dX8_send_49 fl_X8_49 (so_0 hb) rfl ?_
      refine R_v4v hX dX8_send_52 li_X8_109 mk_X3_add mi_X3_add rfl (so_19 hb) (c_logAdd hb (by simp (disch := omega) only [elog]; exact hS.2.2.2.1.1)) ⟨⟨by decide, by decide⟩, by decide, by decide, rfl, Nat.le_of_ble_eq_true rfl, rfl⟩ (fun x_52 F_52 h_52 => ?_)
      subst h_52
      exact R_vret hX dX8_send_55 (by rw [etim]; rfl)
    · exact absurd c_13 (by omega)
set_option maxRecDepth 100000 in
set_option maxHeartbeats 4000000 in
theorem c_stBegin {V : VX} {T : Shp} {F : Hp} {u b : Int} (hu : isSu u) (hb : isSt b)  : Ct V yX8_begin cX8_begin 2 none 3 102 0 0 (SH T) [vr V b, vr V u] F (SH T) 0 (fun r F' => F' = begS b u F) := by
  refine Ct.of [some (vr V b), some (vr V u)] (by decide) (by simp [lg_sl, vi_cat, vl_cat, vr_cat]) rfl (by simp [asc, lv_args, vi_cat, vl_cat, vr_cat]) (fun X hV hX => ?_)
  subst hV
  refine R_aload_0 hX dX8_begin_0 ?_
  refine R_iconst hX dX8_begin_1 ?_
  refine R_puti hX dX8_begin_2 fl_X8_49 (so_0 hb) rfl ?_
  refine R_aload_1 hX dX8_begin_5 ?_
  refine R_getq (v := u + 5) hX dX8_begin_6 fl_X8_53 (to_0 hu) rfl (by omega) ?_
  refine R_aload_0 hX dX8_begin_9 ?_
  refine R_getq (v := b + 1) hX dX8_begin_10 fl_X8_9 (so_0 hb) rfl (by omega) ?_
  refine R_sN2v hX dX8_begin_13 li_X8_56 mk_X11_copyRow ms_X11_copyRow (c_copyRow (nn := 12) (ta_5 hu) (sa_1 hb) rfl) ⟨⟨by decide, by decide⟩, by decide, by decide, rfl, Nat.le_of_ble_eq_true rfl, rfl⟩ (fun x_13 F_13 h_13 => ?_)
  subst h_13
  refine R_aload_1 hX dX8_begin_16 ?_
  refine R_getq (v := u + 6) hX dX8_begin_17 fl_X8_60 (to_0 hu) rfl (by omega) ?_
  refine R_aload_0 hX dX8_begin_20 ?_
  refine R_getq (v := b + 2) hX dX8_begin_21 fl_X8_15 (so_0 hb) rfl (by omega) ?_
  refine R_sN2v hX dX8_begin_24 li_X8_56 mk_X11_copyRow ms_X11_copyRow (c_copyRow (nn := 12) (ta_6 hu) (sa_2 hb) rfl) ⟨⟨by decide, by decide⟩, by decide, by decide, rfl, Nat.le_of_ble_eq_true rfl, rfl⟩ (fun x_24 F_24 h_24 => ?_)
  subst h_24
  refine R_aload_1 hX dX8_begin_27 ?_
  refine R_getq (v := u + 9) hX dX8_begin_28 fl_X8_61 (to_0 hu) rfl (by omega) ?_
  refine R_aload_0 hX dX8_begin_31 ?_
  refine R_getq (v := b + 3) hX dX8_begin_32 fl_X8_18 (so_0 hb) rfl (by omega) ?_
  refine R_sN2v hX dX8_begin_35 li_X8_56 mk_X11_copyRow ms_X11_copyRow (c_copyRow (nn := 12) (ta_9 hu) (sa_3 hb) rfl) ⟨⟨by decide, by decide⟩, by decide, by decide, rfl, Nat.le_of_ble_eq_true rfl, rfl⟩ (fun x_35 F_35 h_35 => ?_)
  subst h_35
  refine R_aload_0 hX dX8_begin_38 ?_
  refine R_getq (v := b + 4) hX dX8_begin_39 fl_X8_24 (so_0 hb) rfl (by omega) ?_
  refine R_aload_1 hX dX8_begin_42 ?_
  refine R_v1v hX dX8_begin_43 li_X8_62 mk_X0_begin mi_X0_begin rfl (so_4 hb) (c_acBegin hu hb) ⟨⟨by decide, by decide⟩, by decide, by decide, rfl, Nat.le_of_ble_eq_true rfl, rfl⟩ (fun x_43 F_43 h_43 => ?_)
  subst h_43
  refine R_aload_0 hX dX8_begin_46 ?_
  refine R_getq (v := b + 8) hX dX8_begin_47 fl_X8_31 (so_0 hb) rfl (by omega) ?_
  refine R_v0v hX dX8_begin_50 li_X8_66 mk_X4_begin mi_X4_begin rfl (so_8 hb) (c_quBegin hb) ⟨⟨by decide, by decide⟩, by decide, by decide, rfl, Nat.le_of_ble_eq_true rfl, rfl⟩ (fun x_50 F_50 h_50 => ?_)
  subst h_50
  refine R_aload_0 hX dX8_begin_53 ?_
  refine R_getq (v := b + 13) hX dX8_begin_54 fl_X8_38 (so_0 hb) rfl (by omega) ?_
  refine R_v0v hX dX8_begin_57 li_X8_68 mk_X2_begin mi_X2_begin rfl (so_13 hb) (c_coBegin hb) ⟨⟨by decide, by decide⟩, by decide, by decide, rfl, Nat.le_of_ble_eq_true rfl, rfl⟩ (fun x_57 F_57 h_57 => ?_)
  subst h_57
  refine R_aload_0 hX dX8_begin_60 ?_
  refine R_getq (v := b + 19) hX dX8_begin_61 fl_X8_45 (so_0 hb) rfl (by omega) ?_
  refine R_iconst hX dX8_begin_64 ?_
  refine R_puti hX dX8_begin_65 fl_X8_69 (so_19 hb) rfl ?_
  exact R_vret hX dX8_begin_68 rfl
