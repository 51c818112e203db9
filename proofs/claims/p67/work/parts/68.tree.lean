/-- the headroom of the path's nodes above m pays -/
def hdP (t leaf c m : Int) (F : Hp) : Hp := fun a i => if a = t + 11 ∧ m < i ∧ onP (F (t + 1)) 13 leaf i = true then F a i - c else F a i
/-- the tokens of the path's nodes between m and l pay, down to 0 -/
def tkP (t leaf l c m : Int) (P : Int → Int) (F : Hp) : Hp := fun a i => if a = t + 9 ∧ m < i ∧ i < l ∧ onP P 13 leaf i = true then max 0 (F a i - c) else F a i
theorem hdP_r {t leaf c m a : Int} {F : Hp} (h : a ≠ t + 11) : hdP t leaf c m F a = F a := by
  funext i
  exact if_neg (fun z => h z.1)
theorem hdP_lo {t leaf c m a i : Int} {F : Hp} (h : i ≤ m) : hdP t leaf c m F a i = F a i := if_neg (fun z => by omega)
theorem tkP_r {t leaf l c m a : Int} {P : Int → Int} {F : Hp} (h : a ≠ t + 9) : tkP t leaf l c m P F a = F a := by
  funext i
  exact if_neg (fun z => h z.1)
theorem tkP_lo {t leaf l c m a i : Int} {P : Int → Int} {F : Hp} (h : i ≤ m) : tkP t leaf l c m P F a i = F a i := if_neg (fun z => by omega)
theorem hdP_top {t leaf c : Int} {F : Hp} {N : Int} (hT : Tr N (F (t + 1))) (hl : leaf < N) : hdP t leaf c leaf F = F := by
  funext a i
  exact if_neg (fun z => by have := onP_le hT 13 leaf i hl z.2.2; omega)
theorem hdP_bot {t leaf c m : Int} {F : Hp} {N : Int} (hT : Tr N (F (t + 1))) (hl : leaf < N) (hm : m < 0) : hdP t leaf c m F = hdP t leaf c (-1) F := by
  funext a i
  unfold hdP
  by_cases h : a = t + 11 ∧ m < i ∧ onP (F (t + 1)) 13 leaf i = true
  · have := onP_le hT 13 leaf i hl h.2.2
    rw [if_pos h, if_pos ⟨h.1, by omega, h.2.2⟩]
  · rw [if_neg h, if_neg (fun z => h ⟨z.1, by omega, z.2.2⟩)]
theorem hdP_step {t leaf c m : Int} {k : Nat} {F : Hp} {N : Int} (hT : Tr N (F (t + 1))) (h0 : 0 ≤ m) (hn : m < N) (hk : m < k) (hr : ∀ i, i ≤ m → onP (F (t + 1)) 13 leaf i = onP (F (t + 1)) k m i) :
    up (hdP t leaf c m F) (t + 11) m (F (t + 11) m - c) = hdP t leaf c (F (t + 1) m) F := by
  have hself : onP (F (t + 1)) 13 leaf m = true := by rw [hr m (Int.le_refl _)]; exact onP_self h0 hk
  have hpar := hT m h0 hn
  funext a i
  by_cases ha : a = t + 11
  · subst ha
    by_cases hi : i = m
    · subst hi
      rw [up_s]
      exact (if_pos ⟨rfl, by omega, hself⟩).symm
    · rw [up_i hi]
      unfold hdP
      by_cases h : m < i
      · by_cases q : onP (F (t + 1)) 13 leaf i = true
        · rw [if_pos ⟨rfl, h, q⟩, if_pos ⟨rfl, by omega, q⟩]
        · rw [if_neg (fun z => q z.2.2), if_neg (fun z => q z.2.2)]
      · rw [if_neg (fun z => h z.2.1), if_neg (fun z => ?_)]
        have h2 := z.2.2
        rw [hr i (by omega), onP_up h0 hk hi] at h2
        have := onP_le hT (k - 1) _ i (by omega) h2
        omega
  · rw [up_k ha, hdP_r ha, hdP_r ha]
theorem tkP_top {t leaf l c m : Int} {P : Int → Int} {F : Hp} (h : l ≤ m + 1) : tkP t leaf l c m P F = F := by
  funext a i
  exact if_neg (fun z => by omega)
theorem tkP_bot {t leaf l c m : Int} {P : Int → Int} {F : Hp} {N : Int} (hT : Tr N P) (hl : leaf < N) (hm : m < 0) : tkP t leaf l c m P F = tkP t leaf l c (-1) P F := by
  funext a i
  unfold tkP
  by_cases h : a = t + 9 ∧ m < i ∧ i < l ∧ onP P 13 leaf i = true
  · have := onP_le hT 13 leaf i hl h.2.2.2
    rw [if_pos h, if_pos ⟨h.1, by omega, h.2.2⟩]
  · rw [if_neg h, if_neg (fun z => h ⟨z.1, by omega, z.2.2⟩)]
theorem tkP_step {t leaf l c m : Int} {k : Nat} {P : Int → Int} {F : Hp} {N : Int} (hT : Tr N P) (h0 : 0 ≤ m) (hn : m < N) (hk : m < k) (hml : m < l) (hr : ∀ i, i ≤ m → onP P 13 leaf i = onP P k m i) :
    up (tkP t leaf l c m P F) (t + 9) m (max 0 (F (t + 9) m - c)) = tkP t leaf l c (P m) P F := by
  have hself : onP P 13 leaf m = true := by rw [hr m (Int.le_refl _)]; exact onP_self h0 hk
  have hpar := hT m h0 hn
  funext a i
  by_cases ha : a = t + 9
  · subst ha
    by_cases hi : i = m
    · subst hi
      rw [up_s]
      exact (if_pos ⟨rfl, by omega, hml, hself⟩).symm
    · rw [up_i hi]
      unfold tkP
      by_cases h : m < i
      · by_cases q : i < l ∧ onP P 13 leaf i = true
        · rw [if_pos ⟨rfl, h, q⟩, if_pos ⟨rfl, by omega, q⟩]
        · rw [if_neg (fun z => q z.2.2), if_neg (fun z => q z.2.2)]
      · rw [if_neg (fun z => h z.2.1), if_neg (fun z => ?_)]
        have h2 := z.2.2.2
        rw [hr i (by omega), onP_up h0 hk hi] at h2
        have := onP_le hT (k - 1) _ i (by omega) h2
        omega
  · rw [up_k ha, tkP_r ha, tkP_r ha]
theorem onP_down {P : Int → Int} {N leaf m : Int} {k : Nat} (hT : Tr N P) (h0 : 0 ≤ m) (hn : m < N) (hk : m < k) (hr : ∀ i, i ≤ m → onP P 13 leaf i = onP P k m i) : ∀ i, i ≤ P m → onP P 13 leaf i = onP P (k - 1) (P m) i := by
  intro i hi
  have := hT m h0 hn
  rw [hr i (by omega), onP_up h0 hk (by omega)]
theorem onP_chain {P : Int → Int} {N leaf l : Int} (hT : Tr N P) (hl : leaf < N) : ∀ (k : Nat) (m : Int), m < N → m < k → (∀ i, i ≤ m → onP P 13 leaf i = onP P k m i) → onP P k m l = true → ∃ j : Nat, l < j ∧ ∀ i, i ≤ l → onP P 13 leaf i = onP P j l i
  | 0, m, _, _, _, h => by cases h
  | k + 1, m, h0, hk, hr, h => by
    by_cases q : m < 0
    · unfold onP at h
      rw [if_pos q] at h
      cases h
    · by_cases e : l = m
      · subst e
        exact ⟨k + 1, hk, hr⟩
      · have h2 := h
        rw [onP_up (by omega) hk e] at h2
        have hp := hT m (by omega) h0
        exact onP_chain hT hl k (P m) (by omega) (by omega) (onP_down hT (by omega) h0 hk hr) h2
theorem onP_from {P : Int → Int} {N leaf l : Int} (hT : Tr N P) (hl : leaf < N) (h13 : leaf < 13) (h : onP P 13 leaf l = true) : ∃ j : Nat, l < j ∧ ∀ i, i ≤ l → onP P 13 leaf i = onP P j l i := onP_chain hT hl 13 leaf hl (by omega) (fun _ _ => rfl) h
/-- what a request sent does to the tree -/
def snT (t leaf l c : Int) (F : Hp) : Hp := cntS (t - 2) leaf l c (payS (t + 4) (t - 1) leaf l c F)
set_option maxRecDepth 100000 in
set_option maxHeartbeats 4000000 in
theorem c_tFirst {V : VX} {T : Shp} {F : Hp} {t : Int} (hS : TrS T t) (hV : TrV F t) (hQ : TQ T F t) : Ct V yX12_first cX12_first 3 (some .int) 4 93 0 0 (SH T) [vr V t] F (SH T) 1 (fun r F' => r = -2 ∧ F' = F) := by
  refine Ct.of [some (vr V t), none, none] (by decide) (by simp [lg_sl, vi_cat, vl_cat, vr_cat]) rfl (by simp [asc, lv_args, vi_cat, vl_cat, vr_cat]) (fun X hV hX => ?_)
  subst hV
  have hp := hS.p
  have hn := hV.n
  refine R_bipush hX dX12_first_0 (by decide) ?_
  refine R_istore_1 hX c1_r dX12_first_2 ?_
  refine R_iconst hX dX12_first_3 ?_
  refine R_istore_2 hX c1_i dX12_first_4 ?_
  have lp_5 : ∀ (n : Nat) (k : Int), (0 ≤ k ∧ k ≤ F t 0) → (7 - k).toNat < n → R X (SH T) 0 0 5 [some (vr (xV X) t), some (vi (-2)), some (vi k)] [] F (Zq X (SH T) 1 (fun r F' => r = -2 ∧ F' = F) 0 0) := by
    intro n
    induction n with
    | zero => intro k iv5_0 hm; exact absurd hm (Nat.not_lt_zero _)
    | succ n ih_5 =>
      intro k iv5_0 hm_5
      refine R_iload_2 hX dX12_first_5 ?_
      refine R_aload_0 hX dX12_first_6 ?_
      refine R_geti hX dX12_first_7 fl_X12_72 hS.o rfl ?_
      refine R_icmpge (tgt := 82) hX dX12_first_10 (by decide) ⟨by omega, by omega⟩ ⟨by omega, by omega⟩ (fun c_10 => ?_) (fun c_10 => ?_)
      · skip
        refine R_iload_1 hX dX12_first_82 ?_
        exact R_iret hX dX12_first_83 ⟨rfl, rfl⟩
      · skip
        obtain ⟨q1, q2, q3⟩ := hQ.2.2 k (by omega) (by omega)
        have q4 := hQ.2.1
        refine R_aload_0 hX dX12_first_13 ?_
        refine R_getq (v := t + 17) hX dX12_first_14 fl_X12_62 hS.o rfl (by omega) ?_
        refine R_iload_2 hX dX12_first_17 ?_
        refine R_v1r hX dX12_first_18 li_X12_110 mk_Jx4a65c_get_915e3 mi_Jx4a65c_get_915e3 rfl hS.q (c_get hS.q hQ.1 hS.e ⟨by omega, by omega⟩ ⟨by omega, by omega⟩) ⟨⟨by decide, by decide⟩, by decide, by decide, rfl, Nat.le_of_ble_eq_true rfl, rfl⟩ (fun x_18 F_18 h_18 => ?_)
        obtain ⟨h_18, e_18⟩ := h_18; replace e_18 := e_18.symm; subst e_18
        have e18 : x_18 = qc t k := by rw [h_18]; exact q1
        subst e18
        refine R_castO hX dX12_first_21 cl_X12_59 q2 rfl ?_
        refine R_v0i hX dX12_first_24 li_X12_114 mk_Jx4a65c_isEmpty_aae02 mi_Jx4a65c_isEmpty_aae02 rfl q2 (c_empty q2 q3) ⟨⟨by decide, by decide⟩, by decide, by decide, rfl, Nat.le_of_ble_eq_true rfl, rfl⟩ (fun x_24 F_24 h_24 => ?_)
        obtain ⟨h_24, e_24⟩ := h_24; replace e_24 := e_24.symm; subst e_24
        subst h_24
        refine R_ifne (tgt := 76) hX dX12_first_27 (by decide) ⟨by omega, by omega⟩ (fun c_27 => ?_) (fun c_27 => ?_)
        · skip
          refine R_iinc_2 hX c1_i dX12_first_76 ?_
          refine R_goto (tgt := 5) hX dX12_first_79 (by decide) ?_
          exact ih_5 _ (by omega) (by omega)
        · exact absurd c_27 (by decide)
  exact lp_5 8 _ (by omega) (by omega)
