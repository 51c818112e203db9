theorem TrV.fr {F F' : Hp} {t : Int} (h : TrV F t) (h0 : ∀ i : Int, i ≤ 19 → F' t i = F t i) (h1 : ∀ a : Int, t < a → a ≤ t + 1 → F' a = F a) (h4 : ∀ a : Int, t + 4 ≤ a → a ≤ t + 8 → F' a = F a) (h2 : ∀ k : Int, 0 ≤ k → k < F t 0 → (0 ≤ F' (t + 2) k ∧ F' (t + 2) k ≤ 11) ∧ (0 ≤ F' (t + 3) k ∧ F' (t + 3) k ≤ 11))
    (h9 : ∀ k : Int, 0 ≤ k → k < F t 0 → (0 ≤ F' (t + 9) k ∧ F' (t + 9) k ≤ 20) ∧ (0 ≤ F' (t + 10) k ∧ F' (t + 10) k ≤ 8) ∧ (0 ≤ F' (t + 11) k ∧ F' (t + 11) k ≤ 20))
    (h20 : (0 ≤ F' t 20 ∧ F' t 20 ≤ 1000) ∧ (0 ≤ F' t 22 ∧ F' t 22 ≤ 9) ∧ (0 ≤ F' t 23 ∧ F' t 23 < F t 0) ∧ (0 ≤ F' t 24 ∧ F' t 24 ≤ 11)) : TrV F' t := by
  obtain ⟨a1, a2, a3, a4, a5, a6, a7⟩ := h
  unfold TrV
  rw [h0 0 (by omega), h0 1 (by omega), h0 2 (by omega), h1 (t + 1) (by omega) (by omega), h4 (t + 4) (by omega) (by omega), h4 (t + 5) (by omega) (by omega), h4 (t + 6) (by omega) (by omega), h4 (t + 7) (by omega) (by omega), h4 (t + 8) (by omega) (by omega)]
  exact ⟨a1, a2, a3, a4, fun k k0 k1 => by
    have b1 := a5 k k0 k1
    have b2 := h2 k k0 k1
    exact ⟨b2.1, b2.2, b1.2.2⟩, h9, h20⟩
theorem TrV.time {F : Hp} {t : Int} (h : TrV F t) (ht : F t 20 < 1000) : TrV (up F t 20 (F t 20 + 1)) t := by
  have a := h.tm
  refine h.fr (fun i hi => up_i (by omega)) (fun a h1 h2 => up_r (by omega)) (fun a h1 h2 => up_r (by omega)) (fun k k0 k1 => ?_) (fun k k0 k1 => ?_) ?_
  · have b := h.st k k0 k1
    rw [up_k (by omega), up_k (by omega)]
    exact ⟨b.1, b.2.1⟩
  · rw [up_k (by omega), up_k (by omega), up_k (by omega)]
    exact h.ac k k0 k1
  · rw [up_s, up_i (by omega), up_i (by omega), up_i (by omega)]
    exact ⟨by omega, a.2⟩
/-- the timed change -/
def chT (t : Int) (F : Hp) : Hp := if F t 20 = F t 22 then up F (t + 2) (F t 23) (F t 24) else F
theorem TrV.chg {F : Hp} {t : Int} (h : TrV F t) : TrV (up F (t + 2) (F t 23) (F t 24)) t := by
  have a := h.tm
  refine h.fr (fun i hi => up_k (by omega)) (fun a h1 h2 => up_r (by omega)) (fun a h1 h2 => up_r (by omega)) (fun k k0 k1 => ?_) (fun k k0 k1 => ?_) ?_
  · have b := h.st k k0 k1
    rw [up_k (a := t + 3) (by omega)]
    refine ⟨?_, b.2.1⟩
    by_cases e : k = F t 23
    · rw [e, up_s]; omega
    · rw [up_i e]; exact b.1
  · rw [up_k (by omega), up_k (by omega), up_k (by omega)]
    exact h.ac k k0 k1
  · rw [up_k (by omega), up_k (by omega), up_k (by omega), up_k (by omega)]
    exact a
theorem TrV.rf {F : Hp} {t : Int} (h : TrV F t) : TrV (rfP t F (F t 0)) t := by
  have a := h.tm
  refine h.fr (fun i hi => rfP_k (by omega) (by omega) (by omega)) (fun a h1 h2 => rfP_kr (by omega) (by omega) (by omega)) (fun a h1 h2 => rfP_kr (by omega) (by omega) (by omega)) (fun k k0 k1 => ?_) (fun k k0 k1 => ?_) ?_
  · have b := h.st k k0 k1
    rw [rfP_k (by omega) (by omega) (by omega), rfP_k (by omega) (by omega) (by omega)]
    exact ⟨b.1, b.2.1⟩
  · have b := h.st k k0 k1
    have c := h.ac k k0 k1
    rw [rfP_9 ⟨k0, k1⟩, rfP_10 ⟨k0, k1⟩, rfP_11 ⟨k0, k1⟩]
    omega
  · rw [rfP_k (by omega) (by omega) (by omega), rfP_k (by omega) (by omega) (by omega), rfP_k (by omega) (by omega) (by omega), rfP_k (by omega) (by omega) (by omega)]
    exact a
theorem TQ.fr {T : Shp} {F F' : Hp} {t : Int} (h : TQ T F t) (h0 : F' t 0 = F t 0) (hq : ∀ a : Int, t + 17 ≤ a → F' a = F a) : TQ T F' t := by
  refine ⟨by rw [hq _ (by omega)]; exact h.1, by rw [hq _ (by omega), h0]; exact h.2.1, fun k k0 k1 => ?_⟩
  rw [h0] at k1
  obtain ⟨a1, a2, a3⟩ := h.2.2 k k0 k1
  exact ⟨by rw [hq _ (by omega)]; exact a1, a2, by rw [hq _ (by unfold qc; split <;> omega)]; exact a3⟩
/-- the tree's tick -/
def tkT (t : Int) (F : Hp) : Hp := rfP t (chT t (up F t 20 (F t 20 + 1))) (F t 0)
set_option maxRecDepth 100000 in
set_option maxHeartbeats 4000000 in
theorem c_tTick {V : VX} {T : Shp} {F : Hp} {t : Int} (hS : TrS T t) (hV : TrV F t) (hQ : TQ T F t) (h20 : F t 20 < 1000) : Ct V yX12_tick cX12_tick 3 (some .int) 5 117 0 0 (SH T) [vr V t] F (SH T) 1 (fun r F' => r = 0 ∧ F' = tkT t F) := by
  refine Ct.of [some (vr V t), none, none] (by decide) (by simp [lg_sl, vi_cat, vl_cat, vr_cat]) rfl (by simp [asc, lv_args, vi_cat, vl_cat, vr_cat]) (fun X hV hX => ?_)
  subst hV
  have hp := hS.p
  have hn := hV.n
  have htm := hV.tm
  have hV1 := hV.time h20
  refine R_aload_0 hX dX12_tick_0 ?_
  refine R_dup hX c1_r dX12_tick_1 ?_
  refine R_geti hX dX12_tick_2 fl_X12_123 hS.o rfl ?_
  try simp (disch := omega) only [up_k, up_i, up_s]
  refine R_iconst hX dX12_tick_5 ?_
  refine R_iadd hX dX12_tick_6 ?_
  refine R_puti hX dX12_tick_7 fl_X12_123 hS.o rfl ?_
  have jn_34 : ∀ (G : Hp), (G = chT t (up F t 20 (F t 20 + 1))) → (TrV G t) → R X (SH T) 0 0 34 [some (vr (xV X) t), none, none] [] G (Zq X (SH T) 1 (fun r F' => r = 0 ∧ F' = tkT t F) 0 0) := by
    intro G jv34_0 jv34_1
    refine R_aload_0 hX dX12_tick_34 ?_
    refine R_v0v hX dX12_tick_35 li_X12_126 mk_X12_refill mi_X12_refill rfl hS.o (c_tRefill hS jv34_1) ⟨⟨by decide, by decide⟩, by decide, by decide, rfl, Nat.le_of_ble_eq_true rfl, rfl⟩ (fun x_35 F_35 h_35 => ?_)
    subst h_35
    have hG0 : G t 0 = F t 0 := by rw [jv34_0]; unfold chT; split <;> simp (disch := omega) only [up_k, up_i]
    rw [hG0]
    have hV2 : TrV (rfP t G (F t 0)) t := by have := jv34_1.rf; rw [hG0] at this; exact this
    have hQ2 : TQ T (rfP t G (F t 0)) t := by
      refine hQ.fr (by rw [rfP_k (by omega) (by omega) (by omega), hG0]) (fun a ha => ?_)
      rw [rfP_kr (by omega) (by omega) (by omega), jv34_0]
      unfold chT
      split
      · rw [up_r (by omega), up_r (by omega)]
      · rw [up_r (by omega)]
    have hG2 : rfP t G (F t 0) t 0 = F t 0 := by rw [rfP_k (by omega) (by omega) (by omega), hG0]
    obtain ⟨G2, hGe⟩ : ∃ G2, G2 = rfP t G (F t 0) := ⟨_, rfl⟩
    rw [← hGe] at hV2 hQ2 hG2 ⊢
    refine R_iconst hX dX12_tick_38 ?_
    refine R_istore_1 hX c1_r dX12_tick_39 ?_
    have lp_40 : ∀ (n : Nat) (k : Int), (0 ≤ k ∧ k ≤ F t 0) → (7 - k).toNat < n → R X (SH T) 0 0 40 [some (vr (xV X) t), some (vi k), none] [] G2 (Zq X (SH T) 1 (fun r F' => r = 0 ∧ F' = tkT t F) 0 0) := by
      intro n
      induction n with
      | zero => intro k iv40_0 hm; exact absurd hm (Nat.not_lt_zero _)
      | succ n ih_40 =>
        intro k iv40_0 hm_40
        refine R_iload_1 hX dX12_tick_40 ?_
        refine R_aload_0 hX dX12_tick_41 ?_
        refine R_geti hX dX12_tick_42 fl_X12_72 hS.o rfl ?_
        try simp (disch := omega) only [up_k, up_i, up_s]
        refine R_icmpge (tgt := 139) hX dX12_tick_45 (by decide) (by constructor <;> first | omega | (simp (disch := omega) only [up_k, up_i, up_s]; omega)) (by constructor <;> first | omega | (simp (disch := omega) only [up_k, up_i, up_s]; omega)) (fun c_45 => ?_) (fun c_45 => ?_)
        · skip
          refine R_iconst hX dX12_tick_139 ?_
          refine R_istore_1 hX c1_r dX12_tick_140 ?_
          refine R_aload_0 hX dX12_tick_141 ?_
          refine R_geti hX dX12_tick_142 fl_X12_76 hS.o rfl ?_
          try simp (disch := omega) only [up_k, up_i, up_s]
          have hg3 := hV2.2.1
          refine R_ifle (tgt := 155) hX dX12_tick_145 (by decide) (by constructor <;> first | omega | (simp (disch := omega) only [up_k, up_i, up_s]; omega)) (fun c_145 => ?_) (fun c_145 => ?_)
          · skip
            refine R_bipush hX dX12_tick_155 (by decide) ?_
            refine R_istore_2 hX c1_i dX12_tick_157 ?_
            refine R_iload_2 hX dX12_tick_158 ?_
            refine R_iflt (tgt := 211) hX dX12_tick_159 (by decide) (by constructor <;> first | omega | (simp (disch := omega) only [up_k, up_i, up_s]; omega)) (fun c_159 => ?_) (fun c_159 => ?_)
            · skip
              refine R_iload_1 hX dX12_tick_211 ?_
              exact R_iret hX dX12_tick_212 ⟨rfl, by unfold tkT; rw [← jv34_0]; exact hGe⟩
            · exact absurd c_159 (by decide)
          · skip
            refine R_aload_0 hX dX12_tick_148 ?_
            refine R_v0i hX dX12_tick_149 li_X12_132 mk_X12_first mi_X12_first rfl hS.o (c_tFirst hS hV2 hQ2) ⟨⟨by decide, by decide⟩, by decide, by decide, rfl, Nat.le_of_ble_eq_true rfl, rfl⟩ (fun x_149 F_149 h_149 => ?_)
            obtain ⟨h_149, e_149⟩ := h_149; replace e_149 := e_149.symm; subst e_149
            subst h_149
            refine R_goto (tgt := 157) hX dX12_tick_152 (by decide) ?_
            refine R_istore_2 hX c1_i dX12_tick_157 ?_
            refine R_iload_2 hX dX12_tick_158 ?_
            refine R_iflt (tgt := 211) hX dX12_tick_159 (by decide) (by constructor <;> first | omega | (simp (disch := omega) only [up_k, up_i, up_s]; omega)) (fun c_159 => ?_) (fun c_159 => ?_)
            · skip
              refine R_iload_1 hX dX12_tick_211 ?_
              exact R_iret hX dX12_tick_212 ⟨rfl, by unfold tkT; rw [← jv34_0]; exact hGe⟩
            · exact absurd c_159 (by decide)
        · skip
          refine R_aload_0 hX dX12_tick_48 ?_
          refine R_geti hX dX12_tick_49 fl_X12_79 hS.o rfl ?_
          try simp (disch := omega) only [up_k, up_i, up_s]
          have hg2 := hV2.2.2.1
          refine R_iflt (tgt := 133) hX dX12_tick_52 (by decide) (by constructor <;> first | omega | (simp (disch := omega) only [up_k, up_i, up_s]; omega)) (fun c_52 => ?_) (fun c_52 => ?_)
          · skip
            refine R_iinc_1 hX c1_r dX12_tick_133 ?_
            refine R_goto (tgt := 40) hX dX12_tick_136 (by decide) ?_
            exact ih_40 _ (by omega) (by omega)
          · skip
            obtain ⟨q1, q2, q3⟩ := hQ2.2.2 k (by omega) (by omega)
            have q4 := hQ2.2.1
            refine R_aload_0 hX dX12_tick_55 ?_
            refine R_getq (v := t + 17) hX dX12_tick_56 fl_X12_62 hS.o rfl (by omega) ?_
            refine R_iload_1 hX dX12_tick_59 ?_
            refine R_v1r hX dX12_tick_60 li_X12_110 mk_Jx4a65c_get_915e3 mi_Jx4a65c_get_915e3 rfl hS.q (c_get hS.q hQ2.1 hS.e ⟨by omega, by omega⟩ ⟨by omega, by omega⟩) ⟨⟨by decide, by decide⟩, by decide, by decide, rfl, Nat.le_of_ble_eq_true rfl, rfl⟩ (fun x_60 F_60 h_60 => ?_)
            obtain ⟨h_60, e_60⟩ := h_60; replace e_60 := e_60.symm; subst e_60
            have e60 : x_60 = qc t k := by rw [h_60]; exact q1
            subst e60
            refine R_castO hX dX12_tick_63 cl_X12_59 q2 rfl ?_
            refine R_v0i hX dX12_tick_66 li_X12_114 mk_Jx4a65c_isEmpty_aae02 mi_Jx4a65c_isEmpty_aae02 rfl q2 (c_empty q2 q3) ⟨⟨by decide, by decide⟩, by decide, by decide, rfl, Nat.le_of_ble_eq_true rfl, rfl⟩ (fun x_66 F_66 h_66 => ?_)
            obtain ⟨h_66, e_66⟩ := h_66; replace e_66 := e_66.symm; subst e_66
            subst h_66
            refine R_ifne (tgt := 133) hX dX12_tick_69 (by decide) (by constructor <;> first | omega | (simp (disch := omega) only [up_k, up_i, up_s]; omega)) (fun c_69 => ?_) (fun c_69 => ?_)
            · skip
              refine R_iinc_1 hX c1_r dX12_tick_133 ?_
              refine R_goto (tgt := 40) hX dX12_tick_136 (by decide) ?_
              exact ih_40 _ (by omega) (by omega)
            · exact absurd c_69 (by decide)
    exact lp_40 8 _ (by omega) (by omega)
  refine R_aload_0 hX dX12_tick_10 ?_
  refine R_geti hX dX12_tick_11 fl_X12_123 hS.o rfl ?_
  try simp (disch := omega) only [up_k, up_i, up_s]
  refine R_aload_0 hX dX12_tick_14 ?_
  refine R_geti hX dX12_tick_15 fl_X12_82 hS.o rfl ?_
  try simp (disch := omega) only [up_k, up_i, up_s]
  refine R_icmpne (tgt := 34) hX dX12_tick_18 (by decide) (by constructor <;> first | omega | (simp (disch := omega) only [up_k, up_i, up_s]; omega)) (by constructor <;> first | omega | (simp (disch := omega) only [up_k, up_i, up_s]; omega)) (fun c_18 => ?_) (fun c_18 => ?_)
  · skip
    exact jn_34 _ (by unfold chT; first | (rw [if_pos (by simp (disch := omega) only [up_k, up_i, up_s]; exact c_18)]; simp (disch := omega) only [up_k, up_i, up_s]; done) | (rw [if_neg (by simp (disch := omega) only [up_k, up_i, up_s]; exact c_18)]; done)) (by first | exact hV1 | (have := hV1.chg; simp (disch := omega) only [up_k, up_i, up_s] at this; exact this))
  · skip
    refine R_aload_0 hX dX12_tick_21 ?_
    refine R_getq (v := t + 2) hX dX12_tick_22 fl_X12_13 hS.o rfl (by omega) ?_
    refine R_aload_0 hX dX12_tick_25 ?_
    refine R_geti hX dX12_tick_26 fl_X12_85 hS.o rfl ?_
    try simp (disch := omega) only [up_k, up_i, up_s]
    refine R_aload_0 hX dX12_tick_29 ?_
    refine R_geti hX dX12_tick_30 fl_X12_88 hS.o rfl ?_
    try simp (disch := omega) only [up_k, up_i, up_s]
    refine R_iast hX dX12_tick_33 hS.a2 ⟨by omega, by omega⟩ ?_
    exact jn_34 _ (by unfold chT; first | (rw [if_pos (by simp (disch := omega) only [up_k, up_i, up_s]; exact c_18)]; simp (disch := omega) only [up_k, up_i, up_s]; done) | (rw [if_neg (by simp (disch := omega) only [up_k, up_i, up_s]; exact c_18)]; done)) (by first | exact hV1 | (have := hV1.chg; simp (disch := omega) only [up_k, up_i, up_s] at this; exact this))
