def Fr (F G : Hp) : Prop := (∀ a : Int, a ≠ 137 → G a = F a) ∧ ∀ i : Int, 819 ≤ i → G 137 i = F 137 i
theorem Fr.rf {F : Hp} : Fr F F := ⟨fun _ _ => rfl, fun _ _ => rfl⟩
theorem Fr.tr {F G H : Hp} (h : Fr F G) (h2 : Fr G H) : Fr F H := ⟨fun a z => (h2.1 a z).trans (h.1 a z), fun i z => (h2.2 i z).trans (h.2 i z)⟩
theorem Fr.up {F G : Hp} {j x : Int} (h : Fr F G) (hj : j < 819) : Fr F (up G 137 j x) := ⟨fun a z => by rw [up_r z]; exact h.1 a z, fun i z => by rw [up_i (by omega)]; exact h.2 i z⟩
theorem up_comm {F : Hp} {k i v k' i' w : Int} (h : k ≠ k') : up (up F k i v) k' i' w = up (up F k' i' w) k i v := by
  funext a b
  unfold up
  by_cases q : a = k' ∧ b = i'
  · rw [if_pos q, if_neg (fun z => h (z.1.symm.trans q.1)), if_pos q]
  · rw [if_neg q]
    by_cases p : a = k ∧ b = i
    · rw [if_pos p, if_pos p]
    · rw [if_neg p, if_neg p, if_neg q]
def lgH (F : Hp) (k : Int) : Hp := fun a i => if a = 137 ∧ 723 + k < i ∧ i ≤ 818 then F 137 (i - 4) else F a i
theorem lgH_s {F : Hp} {k : Int} (h : 4 ≤ k ∧ k ≤ 95) : up (lgH F k) 137 (723 + k) (lgH F k 137 (723 + k - 4)) = lgH F (k - 1) := by
  have e : lgH F k 137 (723 + k - 4) = F 137 (723 + k - 4) := if_neg (by omega)
  rw [e]
  funext a i
  by_cases q : a = 137 ∧ i = 723 + k
  · rw [q.1, q.2, up_s]
    show _ = if (137 : Int) = 137 ∧ 723 + (k - 1) < 723 + k ∧ 723 + k ≤ 818 then _ else _
    rw [if_pos (by omega)]
  · rw [up_n q]
    unfold lgH
    by_cases p : a = 137 ∧ 723 + k < i ∧ i ≤ 818
    · rw [if_pos p, if_pos (by omega)]
    · rw [if_neg p, if_neg (by omega)]
theorem lgH_0 {F : Hp} : lgH F 95 = F := by
  funext a i
  exact if_neg (by omega)
theorem pos_hi {a i : Int} (h : 0 ≤ pos a i) : a ≤ 1023 := by
  by_cases q : a ≤ 1023
  · exact q
  · have hr : rof a = -1 := by
      unfold rof
      repeat rw [if_neg (by omega)]
    unfold pos at h
    rw [hr] at h
    repeat rw [if_neg (by omega)] at h
    omega
theorem pos_row {a i : Int} (h : 0 ≤ pos a i) : (723 ≤ pos a i ↔ 1020 ≤ a) ∧ (pos a i = 2 ↔ a = 1019) := by
  have h1 := pos_dec h
  have h2 := h1.1
  unfold dA at h2
  constructor
  · constructor
    · intro z
      repeat rw [if_neg (by omega)] at h2
      omega
    · intro z
      by_cases y : 723 ≤ pos a i
      · exact y
      · exfalso
        repeat' split at h2
        all_goals omega
  · constructor
    · intro z
      rw [z] at h2
      exact h2.symm
    · intro z
      subst z
      unfold pos at h ⊢
      rw [if_neg (by decide), if_neg (by decide), if_pos (by decide)] at h ⊢
      split at h
      · rename_i q; rw [if_pos q]
      · omega
def lgR (l c f : Int) (F : Hp) : Hp := up (up (up (up (up (lgH F 3) 137 723 l) 137 724 c) 137 725 f) 137 726 (F 137 0)) 137 2 (min 24 (F 137 2 + 1))
theorem lgR_row {l c f k : Int} {F : Hp} (h : 0 ≤ k ∧ k < 24) : lgR l c f F 137 (723 + 4 * k + 0) = (if k = 0 then l else F 137 (723 + 4 * (k - 1) + 0)) ∧ lgR l c f F 137 (723 + 4 * k + 1) = (if k = 0 then c else F 137 (723 + 4 * (k - 1) + 1)) ∧ lgR l c f F 137 (723 + 4 * k + 2) = (if k = 0 then f else F 137 (723 + 4 * (k - 1) + 2)) ∧ lgR l c f F 137 (723 + 4 * k + 3) = (if k = 0 then F 137 0 else F 137 (723 + 4 * (k - 1) + 3)) := by
  unfold lgR
  by_cases q : k = 0
  · subst q
    simp only [if_true]
    refine ⟨?_, ?_, ?_, ?_⟩
    · rw [up_i (by decide), up_i (by decide), up_i (by decide), up_i (by decide)]; exact up_s
    · rw [up_i (by decide), up_i (by decide), up_i (by decide)]; exact up_s
    · rw [up_i (by decide), up_i (by decide)]; exact up_s
    · rw [up_i (by decide)]; exact up_s
  · rw [if_neg q, if_neg q, if_neg q, if_neg q]
    have key : ∀ j : Int, 727 ≤ j → j ≤ 818 → up (up (up (up (up (lgH F 3) 137 723 l) 137 724 c) 137 725 f) 137 726 (F 137 0)) 137 2 (min 24 (F 137 2 + 1)) 137 j = F 137 (j - 4) := fun j h0 h1 => by
      rw [up_i (by omega), up_i (by omega), up_i (by omega), up_i (by omega), up_i (by omega)]
      exact if_pos ⟨rfl, by omega, by omega⟩
    refine ⟨?_, ?_, ?_, ?_⟩ <;> (rw [key _ (by omega) (by omega)]; congr 1; omega)
theorem lgR_o {l c f a i : Int} {F : Hp} (h : a ≠ 137 ∨ (i ≠ 2 ∧ (i < 723 ∨ 818 < i))) : lgR l c f F a i = F a i := by
  unfold lgR
  rw [up_n (by omega), up_n (by omega), up_n (by omega), up_n (by omega), up_n (by omega)]
  exact if_neg (by omega)
theorem Fr.lg {F G : Hp} {l c f : Int} (h : Fr F G) : Fr F (lgR l c f G) := ⟨fun a z => by funext i; rw [lgR_o (Or.inl z)]; rw [h.1 a z], fun i z => by rw [lgR_o (by omega)]; exact h.2 i z⟩
theorem vl_log {l c f : Int} {F : Hp} : vw 0 (lgR l c f F) = lgS 1000 l c f (F 137 0) (vw 0 F) := by
  funext a i
  by_cases q : 1020 ≤ a ∧ a ≤ 1023
  · by_cases p : 0 ≤ i ∧ i < 24
    · have hr := lgR_row (l := l) (c := c) (f := f) (F := F) p
      have hs := lgS_k (b := 1000) (lf := l) (co := c) (le := f) (ti := F 137 0) (F := vw 0 F) p
      have hv : ∀ j : Int, j = i - 1 → i ≠ 0 → vw 0 F 1020 j = F 137 (723 + 4 * (i - 1) + 0) ∧ vw 0 F 1021 j = F 137 (723 + 4 * (i - 1) + 1) ∧ vw 0 F 1022 j = F 137 (723 + 4 * (i - 1) + 2) ∧ vw 0 F 1023 j = F 137 (723 + 4 * (i - 1) + 3) := fun j hj hi => by
        subst hj
        exact ⟨vw_l0 (by omega), vw_l1 (by omega), vw_l2 (by omega), vw_l3 (by omega)⟩
      have hc : a = 1020 ∨ a = 1021 ∨ a = 1022 ∨ a = 1023 := by omega
      rcases hc with rfl | rfl | rfl | rfl
      · rw [vw_l0 p, hr.1]; refine Eq.trans ?_ hs.1.symm
        by_cases z : i = 0
        · rw [if_pos z, if_pos z]
        · rw [if_neg z, if_neg z]; exact (hv _ rfl z).1.symm
      · rw [vw_l1 p, hr.2.1]; refine Eq.trans ?_ hs.2.1.symm
        by_cases z : i = 0
        · rw [if_pos z, if_pos z]
        · rw [if_neg z, if_neg z]; exact (hv _ rfl z).2.1.symm
      · rw [vw_l2 p, hr.2.2.1]; refine Eq.trans ?_ hs.2.2.1.symm
        by_cases z : i = 0
        · rw [if_pos z, if_pos z]
        · rw [if_neg z, if_neg z]; exact (hv _ rfl z).2.2.1.symm
      · rw [vw_l3 p, hr.2.2.2]; refine Eq.trans ?_ hs.2.2.2.symm
        by_cases z : i = 0
        · rw [if_pos z, if_pos z]
        · rw [if_neg z, if_neg z]; exact (hv _ rfl z).2.2.2.symm
    · have hp : pos a i = -1 := by unfold pos; rw [if_neg (by omega), if_neg (by omega), if_neg (by omega), if_neg (by omega), if_pos q, if_neg p]
      have e1 : ∀ G : Hp, vw 0 G a i = 0 := fun G => by unfold vw; rw [hp, if_neg (by decide), if_pos (by omega)]
      rw [e1]
      unfold lgS pf
      have hc : a = 1000 + 20 ∨ a = 1000 + 21 ∨ a = 1000 + 22 ∨ a = 1000 + 23 := by omega
      rcases hc with h | h | h | h <;> (rw [h] at e1 ⊢; simp (disch := omega) only [up_k, up_i, cpy_k, cpy_out]; exact (e1 F).symm)
  · by_cases z : a = 1019
    · subst z
      by_cases p : i = 0
      · subst p
        refine Eq.trans ?_ (lgS_19 (b := 1000)).symm
        show lgR l c f F 137 2 = _
        unfold lgR
        rw [up_s]
        rfl
      · have hp : pos 1019 i = -1 := by unfold pos; rw [if_neg (by decide), if_neg (by decide), if_pos rfl, if_neg p]
        have e1 : ∀ G : Hp, vw 0 G 1019 i = 0 := fun G => by unfold vw; rw [hp, if_neg (by decide), if_pos (by decide)]
        rw [e1]
        unfold lgS pf
        rw [show (1000 : Int) + 19 = 1019 from rfl]
        simp (disch := omega) only [up_k, up_i, cpy_k]
        exact (e1 F).symm
    · rw [lgS_r (by omega)]
      unfold vw
      by_cases p : 0 ≤ pos a i
      · have h1 := pos_row p
        have h2 := pos_dec p
        have h3 := pos_hi p
        rw [if_pos p, if_pos p, lgR_o (Or.inr ⟨by omega, by omega⟩)]
      · rw [if_neg p, if_neg p]
        split
        · rfl
        · unfold sv
          have e : ∀ k : Int, k ≠ 137 → lgR l c f F k = F k := fun k hk => by funext j; exact lgR_o (Or.inl hk)
          rw [e 136 (by decide), e 139 (by decide), e 141 (by decide), e 142 (by decide), e 143 (by decide), e 144 (by decide), e 145 (by decide), e 150 (by decide), e 151 (by decide), e 152 (by decide), e 153 (by decide)]
theorem ref_pay {V W : Hp} {par : Int → Int} {N leaf l c : Int} (hT : Tr N par) (hl : leaf < N) (hon : onP par 13 leaf l = true) (hpar : V 1102 = par) (h7 : ∀ i, W 1007 i = if onP par 13 leaf i = true then V 1007 i - c else V 1007 i) (h5 : ∀ i, W 1005 i = if onP par 13 leaf i = true ∧ i ≤ l then V 1005 i - min (V 1005 i) c else V 1005 i) (h6 : ∀ i, W 1006 i = if i = l then V 1006 i - (c - min (V 1005 l) c) else V 1006 i) (ho : ∀ a i, a ≠ 1005 → a ≠ 1006 → a ≠ 1007 → W a i = V a i) : W = payS 1000 1100 leaf l c V := by
  funext a i
  have e := hpar
  unfold payS
  rw [show (1000 : Int) + 7 = 1007 from rfl, show (1000 : Int) + 5 = 1005 from rfl, show (1000 : Int) + 6 = 1006 from rfl, show (1100 : Int) + 2 = 1102 from rfl, hpar]
  by_cases q7 : a = 1007
  · subst q7
    rw [h7 i]
    by_cases o : onP par 13 leaf i = true
    · rw [if_pos o, if_pos ⟨rfl, o⟩]
    · rw [if_neg o, if_neg (fun z => o z.2), if_neg (by omega), if_neg (by omega)]
  · rw [if_neg (fun z => q7 z.1)]
    by_cases q5 : a = 1005
    · subst q5
      rw [h5 i]
      by_cases o : onP par 13 leaf i = true ∧ i ≤ l
      · rw [if_pos o, if_pos ⟨rfl, o⟩]
      · rw [if_neg o, if_neg (fun z => o z.2), if_neg (by omega)]
    · rw [if_neg (fun z => q5 z.1)]
      by_cases q6 : a = 1006
      · subst q6
        rw [h6 i]
        by_cases o : i = l
        · rw [if_pos o, if_pos ⟨rfl, o⟩]
        · rw [if_neg o, if_neg (fun z => o z.2)]
      · rw [if_neg (fun z => q6 z.1), ho a i q5 q6 q7]
set_option maxRecDepth 100000 in
set_option maxHeartbeats 4000000 in
theorem r_place {V : VX} {F : Hp} {l k : Int} : Ct V yX12_place cX12_place 2 (some .int) 0 0 0 0 SH [vi l, vi k] F SH 1 (fun r F' => r = 147 + 3 * (l * 16 + k) ∧ F' = F) := by
  refine Ct.of [some (vi l), some (vi k)] (by decide) (by simp [lg_sl, vi_cat, vl_cat, vr_cat]) rfl (by simp [asc, lv_args, vi_cat, vl_cat, vr_cat]) (fun X hV hX => ?_)
  subst hV
  refine R_sipush hX dX12_place_0 (by decide) ?_
  refine R_iconst hX dX12_place_3 ?_
  refine R_bipush hX dX12_place_4 (by decide) ?_
  refine R_iload_0 hX dX12_place_6 ?_
  refine R_imul hX dX12_place_7 ?_
  refine R_iload_1 hX dX12_place_8 ?_
  refine R_iadd hX dX12_place_9 ?_
  refine R_imul hX dX12_place_10 ?_
  refine R_iadd hX dX12_place_11 ?_
  exact R_iret hX dX12_place_12 ⟨by omega, rfl⟩
set_option maxRecDepth 100000 in
set_option maxHeartbeats 4000000 in
theorem r_logs {V : VX} {F : Hp} (hc : 0 ≤ F 137 2 ∧ F 137 2 ≤ 24) {l c f : Int} : Ct V yX12_logs cX12_logs 5 none 0 0 0 0 SH [vr V 136, vi l, vi c, vi f] F SH 0 (fun r F' => F' = up (up (up (up (up (lgH F 3) 137 723 l) 137 724 c) 137 725 f) 137 726 (F 137 0)) 137 2 (min 24 (F 137 2 + 1))) := by
  refine Ct.of [some (vr V 136), some (vi l), some (vi c), some (vi f), none] (by decide) (by simp [lg_sl, vi_cat, vl_cat, vr_cat]) rfl (by simp [asc, lv_args, vi_cat, vl_cat, vr_cat]) (fun X hV hX => ?_)
  subst hV
  refine R_bipush hX dX12_logs_0 (by decide) ?_
  refine R_istore_4 hX c1_i dX12_logs_2 ?_
  have lp_4 : ∀ (n : Nat) (k : Int), (3 ≤ k ∧ k ≤ 95) → k.toNat < n → R X SH 0 0 4 [some (vr (xV X) 136), some (vi l), some (vi c), some (vi f), some (vi k)] [] (lgH F k) (Zq X SH 0 (fun r F' => F' = up (up (up (up (up (lgH F 3) 137 723 l) 137 724 c) 137 725 f) 137 726 (F 137 0)) 137 2 (min 24 (F 137 2 + 1))) 0 0) := by
    intro n
    induction n with
    | zero => intro k iv4_0 hm; exact absurd hm (Nat.not_lt_zero _)
    | succ n ih_4 =>
      intro k iv4_0 hm_4
      refine R_iload_4 hX dX12_logs_4 ?_
      refine R_iconst hX dX12_logs_6 ?_
      refine R_icmplt (tgt := 40) hX dX12_logs_7 (by decide) (by constructor <;> first | omega | (simp (disch := omega) only [up_k, up_i, up_s]; omega)) (by constructor <;> first | omega | (simp (disch := omega) only [up_k, up_i, up_s]; omega)) (fun c_7 => ?_) (fun c_7 => ?_)
      · skip
        have hk : k = 3 := by omega
        subst hk
        have e2 : lgH F 3 137 2 = F 137 2 := if_neg (by omega)
        have e0 : lgH F 3 137 0 = F 137 0 := if_neg (by omega)
        refine R_aload_0 hX dX12_logs_40 ?_
        refine R_getq (v := 137) hX dX12_logs_41 fl_X12_7 o_136 rfl (by omega) ?_
        refine R_sipush hX dX12_logs_44 (by decide) ?_
        refine R_iload_1 hX dX12_logs_47 ?_
        refine R_iast hX dX12_logs_48 a_137 ⟨by omega, by omega⟩ ?_
        refine R_aload_0 hX dX12_logs_49 ?_
        refine R_getq (v := 137) hX dX12_logs_50 fl_X12_7 o_136 rfl (by omega) ?_
        refine R_sipush hX dX12_logs_53 (by decide) ?_
        refine R_iload_2 hX dX12_logs_56 ?_
        refine R_iast hX dX12_logs_57 a_137 ⟨by omega, by omega⟩ ?_
        refine R_aload_0 hX dX12_logs_58 ?_
        refine R_getq (v := 137) hX dX12_logs_59 fl_X12_7 o_136 rfl (by omega) ?_
        refine R_sipush hX dX12_logs_62 (by decide) ?_
        refine R_iload_3 hX dX12_logs_65 ?_
        refine R_iast hX dX12_logs_66 a_137 ⟨by omega, by omega⟩ ?_
        refine R_aload_0 hX dX12_logs_67 ?_
        refine R_getq (v := 137) hX dX12_logs_68 fl_X12_7 o_136 rfl (by omega) ?_
        refine R_sipush hX dX12_logs_71 (by decide) ?_
        refine R_aload_0 hX dX12_logs_74 ?_
        refine R_getq (v := 137) hX dX12_logs_75 fl_X12_7 o_136 rfl (by omega) ?_
        refine R_iconst hX dX12_logs_78 ?_
        refine R_iald hX dX12_logs_79 a_137 ⟨by omega, by omega⟩ ?_
        try simp (disch := omega) only [up_i, up_k, up_s, e0, e2]
        refine R_iast hX dX12_logs_80 a_137 ⟨by omega, by omega⟩ ?_
        refine R_aload_0 hX dX12_logs_81 ?_
        refine R_getq (v := 137) hX dX12_logs_82 fl_X12_7 o_136 rfl (by omega) ?_
        refine R_iconst hX dX12_logs_85 ?_
        refine R_dup2 hX c1_i c1_r dX12_logs_86 ?_
        refine R_iald hX dX12_logs_87 a_137 ⟨by omega, by omega⟩ ?_
        try simp (disch := omega) only [up_i, up_k, up_s, e0, e2]
        refine R_aload_0 hX dX12_logs_88 ?_
        refine R_getq (v := 137) hX dX12_logs_89 fl_X12_7 o_136 rfl (by omega) ?_
        refine R_iconst hX dX12_logs_92 ?_
        refine R_iald hX dX12_logs_93 a_137 ⟨by omega, by omega⟩ ?_
        try simp (disch := omega) only [up_i, up_k, up_s, e0, e2]
        refine R_bipush hX dX12_logs_94 (by decide) ?_
        refine R_icmpge (tgt := 103) hX dX12_logs_96 (by decide) (by constructor <;> first | omega | (simp (disch := omega) only [up_k, up_i, up_s]; omega)) (by constructor <;> first | omega | (simp (disch := omega) only [up_k, up_i, up_s]; omega)) (fun c_96 => ?_) (fun c_96 => ?_)
        · skip
          refine R_iconst hX dX12_logs_103 ?_
          refine R_iadd hX dX12_logs_104 ?_
          refine R_iast hX dX12_logs_105 a_137 ⟨by omega, by omega⟩ ?_
          exact R_vret hX dX12_logs_106 (by congr 1; omega)
        · skip
          refine R_iconst hX dX12_logs_99 ?_
          refine R_goto (tgt := 104) hX dX12_logs_100 (by decide) ?_
          refine R_iadd hX dX12_logs_104 ?_
          refine R_iast hX dX12_logs_105 a_137 ⟨by omega, by omega⟩ ?_
          exact R_vret hX dX12_logs_106 (by congr 1; omega)
      · skip
        refine R_aload_0 hX dX12_logs_10 ?_
        refine R_getq (v := 137) hX dX12_logs_11 fl_X12_7 o_136 rfl (by omega) ?_
        refine R_sipush hX dX12_logs_14 (by decide) ?_
        refine R_iload_4 hX dX12_logs_17 ?_
        refine R_iadd hX dX12_logs_19 ?_
        refine R_aload_0 hX dX12_logs_20 ?_
        refine R_getq (v := 137) hX dX12_logs_21 fl_X12_7 o_136 rfl (by omega) ?_
        refine R_sipush hX dX12_logs_24 (by decide) ?_
        refine R_iload_4 hX dX12_logs_27 ?_
        refine R_iadd hX dX12_logs_29 ?_
        refine R_iconst hX dX12_logs_30 ?_
        refine R_isub hX dX12_logs_31 ?_
        refine R_iald hX dX12_logs_32 a_137 ⟨by omega, by omega⟩ ?_
        try simp (disch := omega) only [up_i, up_k, up_s, e0, e2]
        refine R_iast hX dX12_logs_33 a_137 ⟨by omega, by omega⟩ ?_
        refine R.eq rfl rfl (lgH_s (by omega)) ?_
        refine R_iinc_4 hX c1_i dX12_logs_34 ?_
        rw [show k + -1 = k - 1 by omega]
        refine R_goto (tgt := 4) hX dX12_logs_37 (by decide) ?_
        exact ih_4 _ (by omega) (by omega)
  refine R.eq rfl rfl lgH_0.symm ?_
  exact lp_4 96 95 (by omega) (by omega)
