theorem cntS_15 {b leaf l c n : Int} {F : Hp} : cntS b leaf l c F (b + 15) n = if n = leaf then F (b + 15) n + 1 else F (b + 15) n := by
  unfold cntS
  by_cases q : n = leaf
  · subst q
    split <;> simp (disch := omega) only [up_k, up_s, if_true]
  · split <;> simp (disch := omega) only [up_k, up_i, if_neg q]
theorem cntS_16 {b leaf l c n : Int} {F : Hp} : cntS b leaf l c F (b + 16) n = if ¬ l = leaf ∧ n = leaf then F (b + 16) n + c else F (b + 16) n := by
  unfold cntS
  by_cases z : l = leaf
  · rw [if_pos z, if_neg (fun y => y.1 z)]
    simp (disch := omega) only [up_k]
  · rw [if_neg z]
    by_cases q : n = leaf
    · subst q
      rw [if_pos ⟨z, rfl⟩]
      simp (disch := omega) only [up_k, up_s]
    · rw [if_neg (fun y => q y.2)]
      simp (disch := omega) only [up_k, up_i]
theorem cntS_17 {b leaf l c n : Int} {F : Hp} : cntS b leaf l c F (b + 17) n = if ¬ l = leaf ∧ n = l then F (b + 17) n + c else F (b + 17) n := by
  unfold cntS
  by_cases z : l = leaf
  · rw [if_pos z, if_neg (fun y => y.1 z)]
    simp (disch := omega) only [up_k]
  · rw [if_neg z]
    by_cases q : n = l
    · subst q
      rw [if_pos ⟨z, rfl⟩]
      simp (disch := omega) only [up_k, up_s]
    · rw [if_neg (fun y => q y.2)]
      simp (disch := omega) only [up_k, up_i]
theorem lnT_ok {t leaf c : Int} {F : Hp} (hV : TrV F t) (hl : leaf < F t 0) (h : lnT t F leaf c ≠ -2) : (0 ≤ lnT t F leaf c ∧ lnT t F leaf c ≤ leaf) ∧ onP (F (t + 1)) 13 leaf (lnT t F leaf c) = true ∧ c ≤ F (t + 9) (lnT t F leaf c) + F (t + 10) (lnT t F leaf c) ∧ ∀ i, onP (F (t + 1)) 13 leaf i = true → c ≤ F (t + 11) i := by
  have h1 := lendS_rng (hd := F (t + 11)) (fu := fun n => F (t + 9) n + F (t + 10) n) (al := F (t + 8)) (c := c) hV.tr hl
  have h2 := lendS_on hV.tr hl h
  have h3 : blkS (F (t + 11)) (F (t + 1)) c 13 leaf = -2 := by
    unfold lnT lendS at h
    split at h
    · assumption
    · exact absurd rfl h
  have h4 : lnT t F leaf c = askS (fun n => F (t + 9) n + F (t + 10) n) (F (t + 1)) (F (t + 8)) c 13 leaf := by
    unfold lnT lendS
    rw [if_pos h3]
  refine ⟨by unfold lnT at *; omega, h2, ?_, blkS_all 13 leaf h3⟩
  rw [h4] at h ⊢
  exact askS_en (fu := fun n => F (t + 9) n + F (t + 10) n) 13 leaf h
theorem tkP_in {t leaf l c m : Int} {P : Int → Int} {F : Hp} (h : ∀ i, m < i → i < l → onP P 13 leaf i = false) : tkP t leaf l c m P F = F := by
  funext a i
  exact if_neg (fun z => by have := h i z.2.1 z.2.2.1; rw [z.2.2.2] at this; cases this)
theorem pay_eq {t leaf l c : Int} {F : Hp} {N : Int} (hT : Tr N (F (t + 1))) (hl : leaf < N) (ho : onP (F (t + 1)) 13 leaf l = true) (hb : ∀ i, 0 ≤ i → i < N → 0 ≤ F (t + 9) i) (hc : 0 ≤ c) :
    tkP t leaf l c (-1) (F (t + 1)) (up (up (hdP t leaf c (-1) F) (t + 9) l (F (t + 9) l - min c (F (t + 9) l))) (t + 10) l (F (t + 10) l - (c - min c (F (t + 9) l)))) = payS (t + 4) (t - 1) leaf l c F := by
  have e1 : t - 1 + 2 = t + 1 := by omega
  have e5 : t + 4 + 5 = t + 9 := by omega
  have e6 : t + 4 + 6 = t + 10 := by omega
  have e7 : t + 4 + 7 = t + 11 := by omega
  have hlr := onP_le hT 13 leaf l hl ho
  funext a i
  unfold payS
  rw [e1, e5, e6, e7]
  by_cases a7 : a = t + 11
  · subst a7
    rw [tkP_r (by omega), up_k (by omega), up_k (by omega)]
    unfold hdP
    by_cases q : onP (F (t + 1)) 13 leaf i = true
    · have := onP_le hT 13 leaf i hl q
      rw [if_pos ⟨rfl, by omega, q⟩, if_pos ⟨rfl, q⟩]
    · rw [if_neg (fun z => q z.2.2), if_neg (fun z => q z.2), if_neg (fun z => by omega), if_neg (fun z => by omega)]
  · rw [if_neg (fun z => a7 z.1)]
    by_cases a5 : a = t + 9
    · subst a5
      by_cases q : onP (F (t + 1)) 13 leaf i = true ∧ i ≤ l
      · have hi := onP_le hT 13 leaf i hl q.1
        have hbi := hb i hi.1 (by omega)
        rw [if_pos ⟨rfl, q.1, q.2⟩]
        by_cases e : i = l
        · subst e
          rw [show tkP t leaf i c (-1) (F (t + 1)) _ (t + 9) i = _ from if_neg (fun z => by omega), up_k (by omega), up_s]
          omega
        · rw [show tkP t leaf l c (-1) (F (t + 1)) _ (t + 9) i = _ from if_pos ⟨rfl, by omega, by omega, q.1⟩, up_k (by omega), up_i e, hdP_r (by omega)]
          omega
      · rw [if_neg (fun z => q z.2), if_neg (fun z => by omega), show tkP t leaf l c (-1) (F (t + 1)) _ (t + 9) i = _ from if_neg (fun z => q ⟨z.2.2.2, by omega⟩), up_k (by omega), up_i (fun e => q (by rw [e]; exact ⟨ho, Int.le_refl _⟩)), hdP_r (by omega)]
    · rw [if_neg (fun z => a5 z.1), tkP_r a5]
      by_cases a6 : a = t + 10
      · subst a6
        by_cases e : i = l
        · subst e
          rw [up_s, if_pos ⟨rfl, rfl⟩]
          omega
        · rw [up_i e, up_k (by omega), hdP_r (by omega), if_neg (fun z => e z.2)]
      · rw [if_neg (fun z => a6 z.1), up_k a6, up_k a5, hdP_r a7]
theorem cnt_eq1 {t leaf c : Int} {G : Hp} : up (up (up (up G (t + 14) leaf (G (t + 14) leaf + 0)) (t + 15) leaf (G (t + 15) leaf + 0)) (t + 12) leaf (G (t + 12) leaf + c)) (t + 13) leaf (G (t + 13) leaf + 1) = cntS (t - 2) leaf leaf c G := by
  unfold cntS
  rw [if_pos rfl, show t - 2 + 14 = t + 12 by omega, show t - 2 + 15 = t + 13 by omega]
  have e1 : up G (t + 14) leaf (G (t + 14) leaf + 0) = G := by
    funext a i
    unfold up
    split
    · rename_i h; rw [h.1, h.2]; omega
    · rfl
  rw [e1]
  have e2 : up G (t + 15) leaf (G (t + 15) leaf + 0) = G := by
    funext a i
    unfold up
    split
    · rename_i h; rw [h.1, h.2]; omega
    · rfl
  rw [e2]
theorem cnt_eq1x {t leaf l c : Int} {G : Hp} (h : l = leaf) : up (up (up (up G (t + 14) leaf (G (t + 14) leaf + 0)) (t + 15) l (G (t + 15) l + 0)) (t + 12) leaf (G (t + 12) leaf + c)) (t + 13) leaf (G (t + 13) leaf + 1) = cntS (t - 2) leaf l c G := by
  subst h
  exact cnt_eq1
theorem cnt_eq2 {t leaf l c : Int} {G : Hp} (h : ¬ l = leaf) : up (up (up (up G (t + 14) leaf (G (t + 14) leaf + c)) (t + 15) l (G (t + 15) l + c)) (t + 12) leaf (G (t + 12) leaf + c)) (t + 13) leaf (G (t + 13) leaf + 1) = cntS (t - 2) leaf l c G := by
  funext a i
  by_cases c12 : a = t - 2 + 14
  · subst c12
    rw [cntS_14]
    rw [up_k (by omega)]
    by_cases e : i = leaf
    · subst e
      rw [if_pos rfl, show t - 2 + 14 = t + 12 by omega, up_s]
    · rw [if_neg e, up_i e, up_k (by omega), up_k (by omega)]
  · by_cases c13 : a = t - 2 + 15
    · subst c13
      rw [cntS_15]
      by_cases e : i = leaf
      · subst e
        rw [if_pos rfl, show t - 2 + 15 = t + 13 by omega, up_s]
      · rw [if_neg e, up_i e, up_k (by omega), up_k (by omega), up_k (by omega)]
    · by_cases c14 : a = t - 2 + 16
      · subst c14
        rw [cntS_16]
        rw [up_k (by omega), up_k (by omega), up_k (by omega)]
        by_cases e : i = leaf
        · subst e
          rw [if_pos ⟨h, rfl⟩, show t - 2 + 16 = t + 14 by omega, up_s]
        · rw [if_neg (fun z => e z.2), up_i e]
      · by_cases c15 : a = t - 2 + 17
        · subst c15
          rw [cntS_17]
          rw [up_k (by omega), up_k (by omega)]
          by_cases e : i = l
          · subst e
            rw [if_pos ⟨h, rfl⟩, show t - 2 + 17 = t + 15 by omega, up_s]
          · rw [if_neg (fun z => e z.2), up_i e, up_k (by omega)]
        · rw [cntS_r ⟨c12, c13, c14, c15⟩, up_k (by omega), up_k (by omega), up_k (by omega), up_k (by omega)]
theorem tkP_stepH {t leaf l c m x : Int} {k : Nat} {P : Int → Int} {F : Hp} {N : Int} (hT : Tr N P) (h0 : 0 ≤ m) (hn : m < N) (hk : m < k) (hml : m < l) (hr : ∀ i, i ≤ m → onP P 13 leaf i = onP P k m i) (hx : max 0 (x - c) = max 0 (F (t + 9) m - c)) :
    up (tkP t leaf l c m P F) (t + 9) m (max 0 (x - c)) = tkP t leaf l c (P m) P F := by
  rw [hx]
  exact tkP_step hT h0 hn hk hml hr
set_option maxRecDepth 100000 in
set_option maxHeartbeats 4000000 in
theorem c_tSend {V : VX} {T : Shp} {F : Hp} {t : Int} (hS : TrS T t) (hV : TrV F t) {leaf cost : Int} (hl : 0 ≤ leaf ∧ leaf < F t 0) (hc : 1 ≤ cost ∧ cost ≤ 100) (hne : lnT t F leaf cost ≠ -2) : Ct V yX12_send cX12_send 6 none 1 23 0 0 (SH T) [vr V t, vi leaf, vi cost] F (SH T) 0 (fun r F' => F' = snT t leaf (lnT t F leaf cost) cost F) := by
  refine Ct.of [some (vr V t), some (vi leaf), some (vi cost), none, none, none] (by decide) (by simp [lg_sl, vi_cat, vl_cat, vr_cat]) rfl (by simp [asc, lv_args, vi_cat, vl_cat, vr_cat]) (fun X hV hX => ?_)
  subst hV
  have hp := hS.p
  have hn := hV.n
  obtain ⟨hlr, hlo, hlc, hlh⟩ := lnT_ok hV hl.2 hne
  refine R_aload_0 hX dX12_send_0 ?_
  refine R_iload_1 hX dX12_send_1 ?_
  refine R_iload_2 hX dX12_send_2 ?_
  refine R_v2i hX dX12_send_3 li_X12_99 mk_X12_lender mi_X12_lender rfl hS.o (c_tLender hS hV hl hc) ⟨⟨by decide, by decide⟩, by decide, by decide, rfl, Nat.le_of_ble_eq_true rfl, rfl⟩ (fun x_3 F_3 h_3 => ?_)
  obtain ⟨h_3, e_3⟩ := h_3; replace e_3 := e_3.symm; subst e_3
  subst h_3
  refine R_istore_3 hX c1_i dX12_send_6 ?_
  refine R_iload_1 hX dX12_send_7 ?_
  refine R_istore_4 hX c1_i dX12_send_8 ?_
  have lp_10 : ∀ (n : Nat) (k : Nat) (node : Int), (-2 ≤ node ∧ node < F t 0 ∧ node < k) → (∀ i, i ≤ node → onP (F (t + 1)) 13 leaf i = onP (F (t + 1)) k node i) → (node + 3).toNat < n → R X (SH T) 0 0 10 [some (vr (xV X) t), some (vi leaf), some (vi cost), some (vi (lnT t F leaf cost)), some (vi node), none] [] (hdP t leaf cost node F) (Zq X (SH T) 0 (fun r F' => F' = snT t leaf (lnT t F leaf cost) cost F) 0 0) := by
    intro n
    induction n with
    | zero => intro k node iv10_0 iv10_1 hm; exact absurd hm (Nat.not_lt_zero _)
    | succ n ih_10 =>
      intro k node iv10_0 iv10_1 hm_10
      refine R_iload_4 hX dX12_send_10 ?_
      refine R_iflt (tgt := 38) hX dX12_send_12 (by decide) (by constructor <;> first | omega | (simp (disch := omega) only [up_k, up_i, up_s, hdP_r, hdP_lo, tkP_r, tkP_lo]; omega)) (fun c_12 => ?_) (fun c_12 => ?_)
      · skip
        refine R.eq rfl rfl (hdP_bot hV.tr hl.2 (by omega)) ?_
        have hacl := hV.ac (lnT t F leaf cost) (by omega) (by omega)
        refine R_iload_2 hX dX12_send_38 ?_
        refine R_aload_0 hX dX12_send_39 ?_
        refine R_getq (v := t + 9) hX dX12_send_40 fl_X12_35 hS.o rfl (by omega) ?_
        refine R_iload_3 hX dX12_send_43 ?_
        refine R_iald hX dX12_send_44 hS.a9 ⟨by omega, by omega⟩ ?_
        try simp (disch := omega) only [up_k, up_i, up_s, hdP_r, hdP_lo, tkP_r, tkP_lo]
        refine R_mmin hX dX12_send_45 mm_X12_102 mm_s_min in_java_lang_Math mm_c_min (by constructor <;> first | omega | (simp (disch := omega) only [up_k, up_i, up_s, hdP_r, hdP_lo, tkP_r, tkP_lo]; omega)) (by constructor <;> first | omega | (simp (disch := omega) only [up_k, up_i, up_s, hdP_r, hdP_lo, tkP_r, tkP_lo]; omega)) ⟨by decide, by decide, by decide, by decide⟩ rfl (Nat.le_of_ble_eq_true rfl) ?_
        refine R_istore_4 hX c1_i dX12_send_48 ?_
        refine R_aload_0 hX dX12_send_50 ?_
        refine R_getq (v := t + 9) hX dX12_send_51 fl_X12_35 hS.o rfl (by omega) ?_
        refine R_iload_3 hX dX12_send_54 ?_
        refine R_dup2 hX c1_i c1_r dX12_send_55 ?_
        refine R_iald hX dX12_send_56 hS.a9 ⟨by omega, by omega⟩ ?_
        try simp (disch := omega) only [up_k, up_i, up_s, hdP_r, hdP_lo, tkP_r, tkP_lo]
        refine R_iload_4 hX dX12_send_57 ?_
        refine R_isub hX dX12_send_59 ?_
        refine R_iast hX dX12_send_60 hS.a9 ⟨by omega, by omega⟩ ?_
        refine R_aload_0 hX dX12_send_61 ?_
        refine R_getq (v := t + 10) hX dX12_send_62 fl_X12_38 hS.o rfl (by omega) ?_
        refine R_iload_3 hX dX12_send_65 ?_
        refine R_dup2 hX c1_i c1_r dX12_send_66 ?_
        refine R_iald hX dX12_send_67 hS.a10 ⟨by omega, by omega⟩ ?_
        try simp (disch := omega) only [up_k, up_i, up_s, hdP_r, hdP_lo, tkP_r, tkP_lo]
        refine R_iload_2 hX dX12_send_68 ?_
        refine R_iload_4 hX dX12_send_69 ?_
        refine R_isub hX dX12_send_71 ?_
        refine R_isub hX dX12_send_72 ?_
        refine R_iast hX dX12_send_73 hS.a10 ⟨by omega, by omega⟩ ?_
        refine R_aload_0 hX dX12_send_74 ?_
        refine R_getq (v := t + 1) hX dX12_send_75 fl_X12_7 hS.o rfl (by omega) ?_
        refine R_iload_3 hX dX12_send_78 ?_
        refine R_iald hX dX12_send_79 hS.a1 ⟨by omega, by omega⟩ ?_
        try simp (disch := omega) only [up_k, up_i, up_s, hdP_r, hdP_lo, tkP_r, tkP_lo]
        refine R_istore_5 hX c1_i dX12_send_80 ?_
        have lp_82 : ∀ (n : Nat) (k : Nat) (node : Int), (-2 ≤ node ∧ node < F t 0 ∧ node < k ∧ node < lnT t F leaf cost) → (∀ i, i ≤ node → onP (F (t + 1)) 13 leaf i = onP (F (t + 1)) k node i) → (node + 3).toNat < n → R X (SH T) 0 0 82 [some (vr (xV X) t), some (vi leaf), some (vi cost), some (vi (lnT t F leaf cost)), none, some (vi node)] [] (tkP t leaf (lnT t F leaf cost) cost node (F (t + 1)) (up (up (hdP t leaf cost (-1) F) (t + 9) (lnT t F leaf cost) (F (t + 9) (lnT t F leaf cost) - min cost (F (t + 9) (lnT t F leaf cost)))) (t + 10) (lnT t F leaf cost) (F (t + 10) (lnT t F leaf cost) - (cost - min cost (F (t + 9) (lnT t F leaf cost)))))) (Zq X (SH T) 0 (fun r F' => F' = snT t leaf (lnT t F leaf cost) cost F) 0 0) := by
          intro n
          induction n with
          | zero => intro k node iv82_0 iv82_1 hm; exact absurd hm (Nat.not_lt_zero _)
          | succ n ih_82 =>
            intro k node iv82_0 iv82_1 hm_82
            refine R_iload_5 hX dX12_send_82 ?_
            refine R_iflt (tgt := 119) hX dX12_send_84 (by decide) (by constructor <;> first | omega | (simp (disch := omega) only [up_k, up_i, up_s, hdP_r, hdP_lo, tkP_r, tkP_lo]; omega)) (fun c_84 => ?_) (fun c_84 => ?_)
            · skip
              refine R.eq rfl rfl (tkP_bot hV.tr hl.2 (by omega)) ?_
              refine R.eq rfl rfl (pay_eq hV.tr hl.2 hlo (fun i h0 h1 => (hV.ac i h0 h1).1.1) (by omega)) ?_
              refine R_aload_0 hX dX12_send_119 ?_
              refine R_getq (v := t + 14) hX dX12_send_120 fl_X12_50 hS.o rfl (by omega) ?_
              refine R_iload_1 hX dX12_send_123 ?_
              refine R_dup2 hX c1_i c1_r dX12_send_124 ?_
              refine R_iald hX dX12_send_125 hS.a14 ⟨by omega, by omega⟩ ?_
              try simp (disch := omega) only [up_k, up_i, up_s, hdP_r, hdP_lo, tkP_r, tkP_lo]
              refine R_iload_3 hX dX12_send_126 ?_
              refine R_iload_1 hX dX12_send_127 ?_
              refine R_icmpne (tgt := 135) hX dX12_send_128 (by decide) (by constructor <;> first | omega | (simp (disch := omega) only [up_k, up_i, up_s, hdP_r, hdP_lo, tkP_r, tkP_lo]; omega)) (by constructor <;> first | omega | (simp (disch := omega) only [up_k, up_i, up_s, hdP_r, hdP_lo, tkP_r, tkP_lo]; omega)) (fun c_128 => ?_) (fun c_128 => ?_)
              · skip
                refine R_iload_2 hX dX12_send_135 ?_
                refine R_iadd hX dX12_send_136 ?_
                refine R_iast hX dX12_send_137 hS.a14 ⟨by omega, by omega⟩ ?_
                refine R_aload_0 hX dX12_send_138 ?_
                refine R_getq (v := t + 15) hX dX12_send_139 fl_X12_53 hS.o rfl (by omega) ?_
                refine R_iload_3 hX dX12_send_142 ?_
                refine R_dup2 hX c1_i c1_r dX12_send_143 ?_
                refine R_iald hX dX12_send_144 hS.a15 ⟨by omega, by omega⟩ ?_
                try simp (disch := omega) only [up_k, up_i, up_s, hdP_r, hdP_lo, tkP_r, tkP_lo]
                refine R_iload_3 hX dX12_send_145 ?_
                refine R_iload_1 hX dX12_send_146 ?_
                refine R_icmpne (tgt := 154) hX dX12_send_147 (by decide) (by constructor <;> first | omega | (simp (disch := omega) only [up_k, up_i, up_s, hdP_r, hdP_lo, tkP_r, tkP_lo]; omega)) (by constructor <;> first | omega | (simp (disch := omega) only [up_k, up_i, up_s, hdP_r, hdP_lo, tkP_r, tkP_lo]; omega)) (fun c_147 => ?_) (fun c_147 => ?_)
                · skip
                  refine R_iload_2 hX dX12_send_154 ?_
                  refine R_iadd hX dX12_send_155 ?_
                  refine R_iast hX dX12_send_156 hS.a15 ⟨by omega, by omega⟩ ?_
                  refine R_aload_0 hX dX12_send_157 ?_
                  refine R_getq (v := t + 12) hX dX12_send_158 fl_X12_44 hS.o rfl (by omega) ?_
                  refine R_iload_1 hX dX12_send_161 ?_
                  refine R_dup2 hX c1_i c1_r dX12_send_162 ?_
                  refine R_iald hX dX12_send_163 hS.a12 ⟨by omega, by omega⟩ ?_
                  try simp (disch := omega) only [up_k, up_i, up_s, hdP_r, hdP_lo, tkP_r, tkP_lo]
                  refine R_iload_2 hX dX12_send_164 ?_
                  refine R_iadd hX dX12_send_165 ?_
                  refine R_iast hX dX12_send_166 hS.a12 ⟨by omega, by omega⟩ ?_
                  refine R_aload_0 hX dX12_send_167 ?_
                  refine R_getq (v := t + 13) hX dX12_send_168 fl_X12_47 hS.o rfl (by omega) ?_
                  refine R_iload_1 hX dX12_send_171 ?_
                  refine R_dup2 hX c1_i c1_r dX12_send_172 ?_
                  refine R_iald hX dX12_send_173 hS.a13 ⟨by omega, by omega⟩ ?_
                  try simp (disch := omega) only [up_k, up_i, up_s, hdP_r, hdP_lo, tkP_r, tkP_lo]
                  refine R_iconst hX dX12_send_174 ?_
                  refine R_iadd hX dX12_send_175 ?_
                  refine R_iast hX dX12_send_176 hS.a13 ⟨by omega, by omega⟩ ?_
                  exact R_vret hX dX12_send_177 (by
      unfold snT
      first
        | exact absurd c_128 c_147
        | exact absurd c_147 c_128
        | (rw [← cnt_eq2 c_128]; done)
        | (rw [← cnt_eq1x c_128]; done))
                · skip
                  refine R_iconst hX dX12_send_150 ?_
                  refine R_goto (tgt := 155) hX dX12_send_151 (by decide) ?_
                  refine R_iadd hX dX12_send_155 ?_
                  refine R_iast hX dX12_send_156 hS.a15 ⟨by omega, by omega⟩ ?_
                  refine R_aload_0 hX dX12_send_157 ?_
                  refine R_getq (v := t + 12) hX dX12_send_158 fl_X12_44 hS.o rfl (by omega) ?_
                  refine R_iload_1 hX dX12_send_161 ?_
                  refine R_dup2 hX c1_i c1_r dX12_send_162 ?_
                  refine R_iald hX dX12_send_163 hS.a12 ⟨by omega, by omega⟩ ?_
                  try simp (disch := omega) only [up_k, up_i, up_s, hdP_r, hdP_lo, tkP_r, tkP_lo]
                  refine R_iload_2 hX dX12_send_164 ?_
                  refine R_iadd hX dX12_send_165 ?_
                  refine R_iast hX dX12_send_166 hS.a12 ⟨by omega, by omega⟩ ?_
                  refine R_aload_0 hX dX12_send_167 ?_
                  refine R_getq (v := t + 13) hX dX12_send_168 fl_X12_47 hS.o rfl (by omega) ?_
                  refine R_iload_1 hX dX12_send_171 ?_
                  refine R_dup2 hX c1_i c1_r dX12_send_172 ?_
                  refine R_iald hX dX12_send_173 hS.a13 ⟨by omega, by omega⟩ ?_
                  try simp (disch := omega) only [up_k, up_i, up_s, hdP_r, hdP_lo, tkP_r, tkP_lo]
                  refine R_iconst hX dX12_send_174 ?_
                  refine R_iadd hX dX12_send_175 ?_
                  refine R_iast hX dX12_send_176 hS.a13 ⟨by omega, by omega⟩ ?_
                  exact R_vret hX dX12_send_177 (by
      unfold snT
      first
        | exact absurd c_128 c_147
        | exact absurd c_147 c_128
        | (rw [← cnt_eq2 c_128]; done)
        | (rw [← cnt_eq1x c_128]; done))
              · skip
                refine R_iconst hX dX12_send_131 ?_
                refine R_goto (tgt := 136) hX dX12_send_132 (by decide) ?_
                refine R_iadd hX dX12_send_136 ?_
                refine R_iast hX dX12_send_137 hS.a14 ⟨by omega, by omega⟩ ?_
                refine R_aload_0 hX dX12_send_138 ?_
                refine R_getq (v := t + 15) hX dX12_send_139 fl_X12_53 hS.o rfl (by omega) ?_
                refine R_iload_3 hX dX12_send_142 ?_
                refine R_dup2 hX c1_i c1_r dX12_send_143 ?_
                refine R_iald hX dX12_send_144 hS.a15 ⟨by omega, by omega⟩ ?_
                try simp (disch := omega) only [up_k, up_i, up_s, hdP_r, hdP_lo, tkP_r, tkP_lo]
                refine R_iload_3 hX dX12_send_145 ?_
                refine R_iload_1 hX dX12_send_146 ?_
                refine R_icmpne (tgt := 154) hX dX12_send_147 (by decide) (by constructor <;> first | omega | (simp (disch := omega) only [up_k, up_i, up_s, hdP_r, hdP_lo, tkP_r, tkP_lo]; omega)) (by constructor <;> first | omega | (simp (disch := omega) only [up_k, up_i, up_s, hdP_r, hdP_lo, tkP_r, tkP_lo]; omega)) (fun c_147 => ?_) (fun c_147 => ?_)
                · skip
                  refine R_iload_2 hX dX12_send_154 ?_
                  refine R_iadd hX dX12_send_155 ?_
                  refine R_iast hX dX12_send_156 hS.a15 ⟨by omega, by omega⟩ ?_
                  refine R_aload_0 hX dX12_send_157 ?_
                  refine R_getq (v := t + 12) hX dX12_send_158 fl_X12_44 hS.o rfl (by omega) ?_
                  refine R_iload_1 hX dX12_send_161 ?_
                  refine R_dup2 hX c1_i c1_r dX12_send_162 ?_
                  refine R_iald hX dX12_send_163 hS.a12 ⟨by omega, by omega⟩ ?_
                  try simp (disch := omega) only [up_k, up_i, up_s, hdP_r, hdP_lo, tkP_r, tkP_lo]
                  refine R_iload_2 hX dX12_send_164 ?_
                  refine R_iadd hX dX12_send_165 ?_
                  refine R_iast hX dX12_send_166 hS.a12 ⟨by omega, by omega⟩ ?_
                  refine R_aload_0 hX dX12_send_167 ?_
                  refine R_getq (v := t + 13) hX dX12_send_168 fl_X12_47 hS.o rfl (by omega) ?_
                  refine R_iload_1 hX dX12_send_171 ?_
                  refine R_dup2 hX c1_i c1_r dX12_send_172 ?_
                  refine R_iald hX dX12_send_173 hS.a13 ⟨by omega, by omega⟩ ?_
                  try simp (disch := omega) only [up_k, up_i, up_s, hdP_r, hdP_lo, tkP_r, tkP_lo]
                  refine R_iconst hX dX12_send_174 ?_
                  refine R_iadd hX dX12_send_175 ?_
                  refine R_iast hX dX12_send_176 hS.a13 ⟨by omega, by omega⟩ ?_
                  exact R_vret hX dX12_send_177 (by
      unfold snT
      first
        | exact absurd c_128 c_147
        | exact absurd c_147 c_128
        | (rw [← cnt_eq2 c_128]; done)
        | (rw [← cnt_eq1x c_128]; done))
                · skip
                  refine R_iconst hX dX12_send_150 ?_
                  refine R_goto (tgt := 155) hX dX12_send_151 (by decide) ?_
                  refine R_iadd hX dX12_send_155 ?_
                  refine R_iast hX dX12_send_156 hS.a15 ⟨by omega, by omega⟩ ?_
                  refine R_aload_0 hX dX12_send_157 ?_
                  refine R_getq (v := t + 12) hX dX12_send_158 fl_X12_44 hS.o rfl (by omega) ?_
                  refine R_iload_1 hX dX12_send_161 ?_
                  refine R_dup2 hX c1_i c1_r dX12_send_162 ?_
                  refine R_iald hX dX12_send_163 hS.a12 ⟨by omega, by omega⟩ ?_
                  try simp (disch := omega) only [up_k, up_i, up_s, hdP_r, hdP_lo, tkP_r, tkP_lo]
                  refine R_iload_2 hX dX12_send_164 ?_
                  refine R_iadd hX dX12_send_165 ?_
                  refine R_iast hX dX12_send_166 hS.a12 ⟨by omega, by omega⟩ ?_
                  refine R_aload_0 hX dX12_send_167 ?_
                  refine R_getq (v := t + 13) hX dX12_send_168 fl_X12_47 hS.o rfl (by omega) ?_
                  refine R_iload_1 hX dX12_send_171 ?_
                  refine R_dup2 hX c1_i c1_r dX12_send_172 ?_
                  refine R_iald hX dX12_send_173 hS.a13 ⟨by omega, by omega⟩ ?_
                  try simp (disch := omega) only [up_k, up_i, up_s, hdP_r, hdP_lo, tkP_r, tkP_lo]
                  refine R_iconst hX dX12_send_174 ?_
                  refine R_iadd hX dX12_send_175 ?_
                  refine R_iast hX dX12_send_176 hS.a13 ⟨by omega, by omega⟩ ?_
                  exact R_vret hX dX12_send_177 (by
      unfold snT
      first
        | exact absurd c_128 c_147
        | exact absurd c_147 c_128
        | (rw [← cnt_eq2 c_128]; done)
        | (rw [← cnt_eq1x c_128]; done))
            · skip
              have ht := hV.tr node (by omega) (by omega)
              have hac := hV.ac node (by omega) (by omega)
              refine R_aload_0 hX dX12_send_87 ?_
              refine R_getq (v := t + 9) hX dX12_send_88 fl_X12_35 hS.o rfl (by omega) ?_
              refine R_iload_5 hX dX12_send_91 ?_
              refine R_iconst hX dX12_send_93 ?_
              refine R_aload_0 hX dX12_send_94 ?_
              refine R_getq (v := t + 9) hX dX12_send_95 fl_X12_35 hS.o rfl (by omega) ?_
              refine R_iload_5 hX dX12_send_98 ?_
              refine R_iald hX dX12_send_100 hS.a9 ⟨by omega, by omega⟩ ?_
              try simp (disch := omega) only [up_k, up_i, up_s, hdP_r, hdP_lo, tkP_r, tkP_lo]
              refine R_iload_2 hX dX12_send_101 ?_
              refine R_isub hX dX12_send_102 ?_
              refine R_mmax hX dX12_send_103 mm_X12_107 mm_s_max in_java_lang_Math mm_c_max (by constructor <;> first | omega | (simp (disch := omega) only [up_k, up_i, up_s, hdP_r, hdP_lo, tkP_r, tkP_lo]; omega)) (by constructor <;> first | omega | (simp (disch := omega) only [up_k, up_i, up_s, hdP_r, hdP_lo, tkP_r, tkP_lo]; omega)) ⟨by decide, by decide, by decide, by decide⟩ rfl (Nat.le_of_ble_eq_true rfl) ?_
              refine R_iast hX dX12_send_106 hS.a9 ⟨by omega, by omega⟩ ?_
              refine R_aload_0 hX dX12_send_107 ?_
              refine R_getq (v := t + 1) hX dX12_send_108 fl_X12_7 hS.o rfl (by omega) ?_
              refine R_iload_5 hX dX12_send_111 ?_
              refine R_iald hX dX12_send_113 hS.a1 ⟨by omega, by omega⟩ ?_
              try simp (disch := omega) only [up_k, up_i, up_s, hdP_r, hdP_lo, tkP_r, tkP_lo]
              refine R_istore_5 hX c1_n dX12_send_114 ?_
              refine R.eq rfl rfl (tkP_stepH hV.tr (by omega) (by omega) (by omega) (by omega) iv82_1 (by simp (disch := omega) only [up_k, up_i, up_s, hdP_r])) ?_
              refine R_goto (tgt := 82) hX dX12_send_116 (by decide) ?_
              exact ih_82 (k - 1) _ (by omega) (onP_down hV.tr (by omega) (by omega) (by omega) iv82_1) (by omega)
        refine R_drop_4 ?_
        obtain ⟨j0, hj0, hj1⟩ := onP_from hV.tr hl.2 (by omega) hlo
        obtain ⟨js1, js2, js3⟩ := onP_step hV.tr hlr.1 (by omega) hj0 hj1
        have jt := hV.tr (lnT t F leaf cost) (by omega) (by omega)
        refine R.eq rfl rfl (tkP_in (t := t) (c := cost) js2).symm ?_
        exact lp_82 10 (j0 - 1) _ (by omega) js3 (by omega)
      · skip
        have ht := hV.tr node (by omega) (by omega)
        have hac := hV.ac node (by omega) (by omega)
        refine R_aload_0 hX dX12_send_15 ?_
        refine R_getq (v := t + 11) hX dX12_send_16 fl_X12_41 hS.o rfl (by omega) ?_
        refine R_iload_4 hX dX12_send_19 ?_
        refine R_dup2 hX c1_i c1_r dX12_send_21 ?_
        refine R_iald hX dX12_send_22 hS.a11 ⟨by omega, by omega⟩ ?_
        try simp (disch := omega) only [up_k, up_i, up_s, hdP_r, hdP_lo, tkP_r, tkP_lo]
        refine R_iload_2 hX dX12_send_23 ?_
        refine R_isub hX dX12_send_24 ?_
        refine R_iast hX dX12_send_25 hS.a11 ⟨by omega, by omega⟩ ?_
        refine R_aload_0 hX dX12_send_26 ?_
        refine R_getq (v := t + 1) hX dX12_send_27 fl_X12_7 hS.o rfl (by omega) ?_
        refine R_iload_4 hX dX12_send_30 ?_
        refine R_iald hX dX12_send_32 hS.a1 ⟨by omega, by omega⟩ ?_
        try simp (disch := omega) only [up_k, up_i, up_s, hdP_r, hdP_lo, tkP_r, tkP_lo]
        refine R_istore_4 hX c1_i dX12_send_33 ?_
        refine R.eq rfl rfl (hdP_step hV.tr (by omega) (by omega) (by omega) iv10_1) ?_
        refine R_goto (tgt := 10) hX dX12_send_35 (by decide) ?_
        exact ih_10 (k - 1) _ (by omega) (onP_down hV.tr (by omega) (by omega) (by omega) iv10_1) (by omega)
  refine R.eq rfl rfl (hdP_top (t := t) (c := cost) hV.tr hl.2).symm ?_
  exact lp_10 10 13 _ (by omega) (fun _ _ => rfl) (by omega)
