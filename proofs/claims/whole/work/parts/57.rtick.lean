def shG (l m : Int) (F : Hp) : Hp := fun a j => if a = 137 ∧ 147 + 48 * l ≤ j ∧ j < 147 + 48 * l + m then F 137 (j + 3) else F a j
theorem shG_o {l m a j : Int} {F : Hp} (h : ¬ (a = 137 ∧ 147 + 48 * l ≤ j ∧ j < 147 + 48 * l + m)) : shG l m F a j = F a j := if_neg h
theorem shG_i {l m j : Int} {F : Hp} (h : 147 + 48 * l ≤ j ∧ j < 147 + 48 * l + m) : shG l m F 137 j = F 137 (j + 3) := if_pos ⟨rfl, h⟩
theorem shG_0 {l : Int} {F : Hp} : shG l (3 * 0) F = F := by
  funext a j
  exact shG_o (by omega)
theorem shG_s {l k i : Int} {F : Hp} (h : 0 ≤ i ∧ i < 3 ∧ 0 ≤ k) : up (shG l (3 * k + i) F) 137 (147 + 3 * (l * 16 + k) + i) (shG l (3 * k + i) F 137 (147 + 3 * (l * 16 + (k + 1)) + i)) = shG l (3 * k + (i + 1)) F := by
  have e : shG l (3 * k + i) F 137 (147 + 3 * (l * 16 + (k + 1)) + i) = F 137 (147 + 3 * (l * 16 + (k + 1)) + i) := shG_o (by omega)
  rw [e]
  funext a j
  by_cases q : a = 137 ∧ j = 147 + 3 * (l * 16 + k) + i
  · rw [q.1, q.2, up_s, shG_i (by omega)]
    congr 1
    omega
  · rw [up_n q]
    by_cases p : a = 137 ∧ 147 + 48 * l ≤ j ∧ j < 147 + 48 * l + (3 * k + i)
    · rw [p.1, shG_i p.2, shG_i (by omega)]
    · rw [shG_o p, shG_o (by omega)]
def shR (l : Int) (F : Hp) : Hp := shG l (3 * (F 137 (135 + l) - 1)) (up F 137 (135 + l) (F 137 (135 + l) - 1))
theorem Fr.sh {F G : Hp} {l : Int} (h : Fr F G) (hl : 0 ≤ l ∧ l < 12) (hq : 1 ≤ G 137 (135 + l) ∧ G 137 (135 + l) ≤ 16) : Fr F (shR l G) := by
  refine ⟨fun a z => ?_, fun i z => ?_⟩
  · funext i
    unfold shR
    rw [shG_o (fun y => z y.1), up_r z, h.1 a z]
  · unfold shR
    rw [shG_o (by omega), up_i (by omega)]
    exact h.2 i z
theorem pos_q {a i : Int} (h : 0 ≤ pos a i) (h2 : 147 ≤ pos a i) (h3 : pos a i < 723) : 1010 ≤ a ∧ a ≤ 1012 := by
  have h1 := (pos_dec h).1
  unfold dA at h1
  repeat' split at h1
  all_goals omega
theorem vw_shG {l m : Int} {F : Hp} (hl : 0 ≤ l ∧ l < 12) (hm : m ≤ 48) {a i : Int} (ha : ¬ (1010 ≤ a ∧ a ≤ 1012)) : vw 0 (shG l m F) a i = vw 0 F a i := by
  unfold vw
  by_cases p : 0 ≤ pos a i
  · rw [if_pos p, if_pos p, shG_o (fun z => ha (pos_q p (by omega) (by omega)))]
  · rw [if_neg p, if_neg p]
    split
    · rfl
    · unfold sv
      have e : ∀ k : Int, k ≠ 137 → shG l m F k = F k := fun k hk => by funext j; exact shG_o (fun z => hk z.1)
      rw [e 136 (by decide), e 139 (by decide), e 141 (by decide), e 142 (by decide), e 143 (by decide), e 144 (by decide), e 145 (by decide), e 150 (by decide), e 151 (by decide), e 152 (by decide), e 153 (by decide)]
theorem shR_o {l a i : Int} {F : Hp} (hl : 0 ≤ l ∧ l < 12) (hq : F 137 (135 + l) ≤ 16) (ha : a < 1009 ∨ 1012 < a) : vw 0 (shR l F) a i = rmS 1000 l (vw 0 F) a i := by
  unfold shR
  rw [vw_shG hl (by omega) (by omega), vu_9 hl, up_k (by omega), rmS_r (by omega)]
theorem ag_sh {K l : Int} {F : Hp} (h : RI K F) (hl : 0 ≤ l ∧ l < F 136 3) (hq : 1 ≤ F 137 (135 + l) ∧ F 137 (135 + l) ≤ 16) : AgS 1000 1100 (rmS 1000 l (vw 0 F)) 1000 (vw 0 (shR l F)) := by
  have hN := ri_N h
  have hQ := ri_Q h
  have o : ∀ a i : Int, (a < 1009 ∨ 1012 < a) → rmS 1000 l (vw 0 F) a i = vw 0 (shR l F) a i := fun a i z => (shR_o (by omega) hq.2 z).symm
  have hN1 : rmS 1000 l (vw 0 F) 1100 0 = F 136 3 := by rw [rmS_r (by omega)]; exact vw_1100_0
  have e9 : ∀ n : Int, 0 ≤ n → n < 12 → rmS 1000 l (vw 0 F) 1009 n = (if n = l then F 137 (135 + n) - 1 else F 137 (135 + n)) ∧ vw 0 (shR l F) 1009 n = (if n = l then F 137 (135 + n) - 1 else F 137 (135 + n)) := fun n h0 h1 => by
    have r9 := rmS_9 (b := 1000) (leaf := l) (n := n) (F := vw 0 F)
    rw [show (1000 : Int) + 9 = 1009 from rfl, vw_9 (by omega)] at r9
    refine ⟨r9, ?_⟩
    unfold shR
    rw [vw_shG (by omega) (by omega) (by omega), vu_9 (by omega)]
    by_cases q : n = l
    · subst q; rw [up_s, if_pos rfl]
    · rw [up_i q, if_neg q, vw_9 (by omega)]
  unfold AgS
  rw [hN1]
  refine ⟨o 1000 1 (by omega), o 1008 4 (by omega), o 1019 0 (by omega), fun n h0 h1 => ⟨o _ _ (by omega), o _ _ (by omega), o _ _ (by omega), o _ _ (by omega), o _ _ (by omega), o _ _ (by omega), ?_⟩, fun n h0 h1 => ⟨o _ _ (by omega), o _ _ (by omega), o _ _ (by omega), o _ _ (by omega), o _ _ (by omega)⟩, fun n h0 h1 k k0 k1 => ?_, fun k k0 k1 => ⟨o _ _ (by omega), o _ _ (by omega), o _ _ (by omega), o _ _ (by omega)⟩⟩
  · have := e9 n h0 (by omega)
    exact this.1.trans this.2.symm
  · have hb := hQ.2.1 n h0 h1
    have e := (e9 n h0 (by omega)).1
    rw [show (1000 : Int) + 9 = 1009 from rfl, e] at k1
    have hk : k < 16 := by split at k1 <;> omega
    have c0 := rmS_c (b := 1000) (leaf := l) (n := n) (k := k) (F := vw 0 F) (c := 10) (by omega) ⟨k0, hk⟩
    have c1 := rmS_c (b := 1000) (leaf := l) (n := n) (k := k) (F := vw 0 F) (c := 11) (by omega) ⟨k0, hk⟩
    have c2 := rmS_c (b := 1000) (leaf := l) (n := n) (k := k) (F := vw 0 F) (c := 12) (by omega) ⟨k0, hk⟩
    rw [show (1000 : Int) + 10 = 1010 from rfl] at c0 ⊢
    rw [show (1000 : Int) + 11 = 1011 from rfl] at c1 ⊢
    rw [show (1000 : Int) + 12 = 1012 from rfl] at c2 ⊢
    rw [c0, c1, c2]
    unfold shR
    by_cases q : n = l
    · subst q
      rw [if_pos rfl] at k1
      rw [if_pos (by omega), if_pos (by omega), if_pos (by omega), vw_q0 (j := n * 16 + (k + 1)) (by omega), vw_q1 (j := n * 16 + (k + 1)) (by omega), vw_q2 (j := n * 16 + (k + 1)) (by omega), vw_q0 (j := n * 16 + k) (by omega), vw_q1 (j := n * 16 + k) (by omega), vw_q2 (j := n * 16 + k) (by omega), shG_i (by omega), shG_i (by omega), shG_i (by omega), up_i (by omega), up_i (by omega), up_i (by omega)]
      refine ⟨?_, ?_, ?_⟩ <;> (congr 1; omega)
    · rw [if_neg (fun z => q z.1), if_neg (fun z => q z.1), if_neg (fun z => q z.1), vw_q0 (F := F) (by omega), vw_q1 (F := F) (by omega), vw_q2 (F := F) (by omega), vw_q0 (by omega), vw_q1 (by omega), vw_q2 (by omega), shG_o (by omega), shG_o (by omega), shG_o (by omega), up_i (by omega), up_i (by omega), up_i (by omega)]
      exact ⟨rfl, rfl, rfl⟩
set_option maxRecDepth 100000 in
set_option maxHeartbeats 4000000 in
theorem r_shifts {V : VX} {F : Hp} {l : Int} (hl : 0 ≤ l ∧ l < 12) (hq : 1 ≤ F 137 (135 + l) ∧ F 137 (135 + l) ≤ 16)  : Ct V yX12_shifts cX12_shifts 4 none 1 21 0 0 SH [vr V 136, vi l] F SH 0 (fun r F' => F' = shR l F) := by
  refine Ct.of [some (vr V 136), some (vi l), none, none] (by decide) (by simp [lg_sl, vi_cat, vl_cat, vr_cat]) rfl (by simp [asc, lv_args, vi_cat, vl_cat, vr_cat]) (fun X hV hX => ?_)
  subst hV
  refine R_aload_0 hX dX12_shifts_0 ?_
  refine R_getq (v := 137) hX dX12_shifts_1 fl_X12_7 o_136 rfl (by omega) ?_
  refine R_sipush hX dX12_shifts_4 (by decide) ?_
  refine R_iload_1 hX dX12_shifts_7 ?_
  refine R_iadd hX dX12_shifts_8 ?_
  refine R_dup2 hX c1_i c1_r dX12_shifts_9 ?_
  refine R_iald hX dX12_shifts_10 a_137 ⟨by omega, by omega⟩ ?_
  refine R_iconst hX dX12_shifts_11 ?_
  refine R_isub hX dX12_shifts_12 ?_
  refine R_iast hX dX12_shifts_13 a_137 ⟨by omega, by omega⟩ ?_
  obtain ⟨F0, hF0⟩ : ∃ F0 : Hp, F0 = up F 137 (135 + l) (F 137 (135 + l) - 1) := ⟨_, rfl⟩
  rw [← hF0]
  have e0 : F0 137 (135 + l) = F 137 (135 + l) - 1 := by rw [hF0]; exact up_s
  refine R_iconst hX dX12_shifts_14 ?_
  refine R_istore_2 hX c1_i dX12_shifts_15 ?_
  have lp_16 : ∀ (n : Nat) (k : Int), (0 ≤ k ∧ k ≤ F 137 (135 + l) - 1) → (20 - k).toNat < n → R X SH 0 0 16 [some (vr (xV X) 136), some (vi l), some (vi k), none] [] (shG l (3 * k) F0) (Zq X SH 0 (fun r F' => F' = shR l F) 0 0) := by
    intro n
    induction n with
    | zero => intro k iv16_0 hm; exact absurd hm (Nat.not_lt_zero _)
    | succ n ih_16 =>
      intro k iv16_0 hm_16
      refine R_iload_2 hX dX12_shifts_16 ?_
      refine R_aload_0 hX dX12_shifts_17 ?_
      refine R_getq (v := 137) hX dX12_shifts_18 fl_X12_7 o_136 rfl (by omega) ?_
      refine R_sipush hX dX12_shifts_21 (by decide) ?_
      refine R_iload_1 hX dX12_shifts_24 ?_
      refine R_iadd hX dX12_shifts_25 ?_
      refine R_iald hX dX12_shifts_26 a_137 ⟨by omega, by omega⟩ ?_
      rw [shG_o (by omega), e0]
      refine R_icmpge (tgt := 75) hX dX12_shifts_27 (by decide) (by constructor <;> first | omega | (simp (disch := omega) only [up_k, up_i, up_s]; omega)) (by constructor <;> first | omega | (simp (disch := omega) only [up_k, up_i, up_s]; omega)) (fun c_27 => ?_) (fun c_27 => ?_)
      · skip
        exact R_vret hX dX12_shifts_75 (by have e : k = F 137 (135 + l) - 1 := (by omega); rw [e, hF0]; rfl)
      · skip
        refine R_iconst hX dX12_shifts_30 ?_
        refine R_istore_3 hX c1_i dX12_shifts_31 ?_
        have lp_32 : ∀ (n : Nat) (i : Int), (0 ≤ i ∧ i ≤ 3) → (3 - i).toNat < n → R X SH 0 0 32 [some (vr (xV X) 136), some (vi l), some (vi k), some (vi i)] [] (shG l (3 * k + i) F0) (Zq X SH 0 (fun r F' => F' = shR l F) 0 0) := by
          intro n
          induction n with
          | zero => intro i iv32_0 hm; exact absurd hm (Nat.not_lt_zero _)
          | succ n ih_32 =>
            intro i iv32_0 hm_32
            refine R_iload_3 hX dX12_shifts_32 ?_
            refine R_iconst hX dX12_shifts_33 ?_
            refine R_icmpge (tgt := 69) hX dX12_shifts_34 (by decide) (by constructor <;> first | omega | (simp (disch := omega) only [up_k, up_i, up_s]; omega)) (by constructor <;> first | omega | (simp (disch := omega) only [up_k, up_i, up_s]; omega)) (fun c_34 => ?_) (fun c_34 => ?_)
            · skip
              refine R.eq rfl rfl (show _ = shG l (3 * (k + 1)) F0 by congr 1; omega) ?_
              refine R_iinc_2 hX c1_i dX12_shifts_69 ?_
              refine R_goto (tgt := 16) hX dX12_shifts_72 (by decide) ?_
              refine R_drop_3 ?_
              exact ih_16 (k + 1) (by omega) (by omega)
            · skip
              refine R_aload_0 hX dX12_shifts_37 ?_
              refine R_getq (v := 137) hX dX12_shifts_38 fl_X12_7 o_136 rfl (by omega) ?_
              refine R_iload_1 hX dX12_shifts_41 ?_
              refine R_iload_2 hX dX12_shifts_42 ?_
              refine R_s2i hX dX12_shifts_43 li_X12_272 mk_X12_place ms_X12_place (r_place) ⟨⟨by decide, by decide⟩, by decide, by decide, rfl, Nat.le_of_ble_eq_true rfl, rfl⟩ (fun x_43 F_43 h_43 => ?_)
              obtain ⟨h_43, e_43⟩ := h_43; replace e_43 := e_43.symm; subst e_43
              rw [h_43]
              refine R_iload_3 hX dX12_shifts_46 ?_
              refine R_iadd hX dX12_shifts_47 ?_
              refine R_aload_0 hX dX12_shifts_48 ?_
              refine R_getq (v := 137) hX dX12_shifts_49 fl_X12_7 o_136 rfl (by omega) ?_
              refine R_iload_1 hX dX12_shifts_52 ?_
              refine R_iload_2 hX dX12_shifts_53 ?_
              refine R_iconst hX dX12_shifts_54 ?_
              refine R_iadd hX dX12_shifts_55 ?_
              refine R_s2i hX dX12_shifts_56 li_X12_272 mk_X12_place ms_X12_place (r_place) ⟨⟨by decide, by decide⟩, by decide, by decide, rfl, Nat.le_of_ble_eq_true rfl, rfl⟩ (fun x_56 F_56 h_56 => ?_)
              obtain ⟨h_56, e_56⟩ := h_56; replace e_56 := e_56.symm; subst e_56
              rw [h_56]
              refine R_iload_3 hX dX12_shifts_59 ?_
              refine R_iadd hX dX12_shifts_60 ?_
              refine R_iald hX dX12_shifts_61 a_137 ⟨by omega, by omega⟩ ?_
              refine R_iast hX dX12_shifts_62 a_137 ⟨by omega, by omega⟩ ?_
              refine R.eq rfl rfl (shG_s (by omega)) ?_
              refine R_iinc_3 hX c1_i dX12_shifts_63 ?_
              refine R_goto (tgt := 32) hX dX12_shifts_66 (by decide) ?_
              exact ih_32 (i + 1) (by omega) (by omega)
        refine R.eq rfl rfl (show _ = shG l (3 * k + 0) F0 by rw [Int.add_zero]) ?_
        exact lp_32 5 0 (by omega) (by omega)
  refine R.eq rfl rfl (shG_0 (l := l)).symm ?_
  exact lp_16 30 0 (by omega) (by omega)
