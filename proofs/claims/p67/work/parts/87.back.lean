theorem TrS.row {T : Shp} {t k : Int} (h : TrS T t) (hk : 0 ≤ k ∧ k < 7) : isA (SH T) (t + 9 + k) .int 6 := by
  have e : k = 0 ∨ k = 1 ∨ k = 2 ∨ k = 3 ∨ k = 4 ∨ k = 5 ∨ k = 6 := by omega
  rcases e with rfl | rfl | rfl | rfl | rfl | rfl | rfl
  · rw [show t + 9 + 0 = t + 9 by omega]; exact h.a9
  · rw [show t + 9 + 1 = t + 10 by omega]; exact h.a10
  · rw [show t + 9 + 2 = t + 11 by omega]; exact h.a11
  · rw [show t + 9 + 3 = t + 12 by omega]; exact h.a12
  · rw [show t + 9 + 4 = t + 13 by omega]; exact h.a13
  · rw [show t + 9 + 5 = t + 14 by omega]; exact h.a14
  · rw [show t + 9 + 6 = t + 15 by omega]; exact h.a15
/-- the rows kept aside -/
def WS (T : Shp) (F : Hp) (t w : Int) (wa : Int → Int) : Prop := isA (SH T) w (.array .int) 7 ∧ t + 19 < w ∧ ∀ k : Int, 0 ≤ k → k < 7 → F w k = wa k ∧ isA (SH T) (wa k) .int 6 ∧ t + 19 < wa k
/-- the first m rows are back -/
def BKI (F G : Hp) (t n m : Int) (wa : Int → Int) : Prop := (∀ k : Int, 0 ≤ k → k < m → ∀ i : Int, G (t + 9 + k) i = if 0 ≤ i ∧ i < 6 then F (wa k) i else F (t + 9 + k) i) ∧ (∀ q : Int, (q < t + 9 ∨ t + 9 + m ≤ q) → q ≠ n → G q = F q) ∧ ∀ k : Int, 0 ≤ k → k < 7 → G n k = t + 9 + k
theorem BKI.next {F G : Hp} {t n m : Int} {wa : Int → Int} (h : BKI F G t n m wa) (hm : 0 ≤ m ∧ m < 7) (hn : t + 19 < n) (hw : t + 19 < wa m ∧ wa m ≠ n) : BKI F (cpy G (wa m) 0 (t + 9 + m) 0 6) t n (m + 1) wa := by
  obtain ⟨h1, h2, h3⟩ := h
  refine ⟨fun k k0 k1 i => ?_, fun q q0 q1 => ?_, fun k k0 k1 => ?_⟩
  · by_cases c : k = m
    · subst c
      by_cases z : 0 ≤ i ∧ i < 6
      · rw [cpy_in z.1 (by omega), if_pos z, h2 (wa k) (by omega) hw.2]
        congr 1
        omega
      · rw [cpy_out (by omega), if_neg z, h2 (t + 9 + k) (by omega) (by omega)]
    · rw [cpy_k (by omega)]
      exact h1 k k0 (by omega) i
  · rw [cpy_r (by omega)]
    exact h2 q (by omega) q1
  · rw [cpy_k (by omega)]
    exact h3 k k0 k1
set_option maxRecDepth 100000 in
set_option maxHeartbeats 4000000 in
theorem e_back {V : VX} {T : Shp} {F : Hp} {t w : Int} {wa : Int → Int} (hS : TrS T t) (hW : WS T F t w wa) : CtE V yL_back cL_back 4 none 1 60 1 7 (SH T) [vr V t, vr V w] F 0 (fun r s F' => ∃ g, s = SH (T ++ g) ∧ ((∀ k : Int, 0 ≤ k → k < 7 → ∀ i : Int, F' (t + 9 + k) i = if 0 ≤ i ∧ i < 6 then F (wa k) i else F (t + 9 + k) i) ∧ ∀ q : Int, (q < t + 9 ∨ t + 16 ≤ q) → q < 136 + T.length → F' q = F q)) := by
  refine CtE.of [some (vr V t), some (vr V w), none, none] (by decide) (by simp [lg_sl, vi_cat, vl_cat, vr_cat, rf_cat]) rfl (by simp [asc, lv_args, vi_cat, vl_cat, vr_cat, rf_cat]) (fun X hV hX => ?_)
  subst hV
  have hp := hS.p
  obtain ⟨hwA, hwt, hwk⟩ := hW
  have hwl := hwA.ltT
  refine R_bipush hX dL_back_0 (by decide) ?_
  refine R_anewAT (n := 7) hX rfl cl_L_281 (by decide) ⟨by omega, by omega⟩ dL_back_2 (fun n_2 hn_2 => ?_)
  refine R_dup hX c1_r dL_back_5 ?_
  refine R_iconst hX dL_back_6 ?_
  refine R_aload_0 hX dL_back_7 ?_
  refine R_getNq (v := t + 9) hX dL_back_8 fn_L_70 (hS.o.up) rfl (by omega) ?_
  refine R_aastA hX dL_back_11 (isA.newT (by decide) hn_2) ⟨by omega, by omega⟩ (hS.a9.up) ?_
  refine R_dup hX c1_r dL_back_12 ?_
  refine R_iconst hX dL_back_13 ?_
  refine R_aload_0 hX dL_back_14 ?_
  refine R_getNq (v := t + 10) hX dL_back_15 fn_L_76 (hS.o.up) rfl (by omega) ?_
  refine R_aastA hX dL_back_18 (isA.newT (by decide) hn_2) ⟨by omega, by omega⟩ (hS.a10.up) ?_
  refine R_dup hX c1_r dL_back_19 ?_
  refine R_iconst hX dL_back_20 ?_
  refine R_aload_0 hX dL_back_21 ?_
  refine R_getNq (v := t + 11) hX dL_back_22 fn_L_81 (hS.o.up) rfl (by omega) ?_
  refine R_aastA hX dL_back_25 (isA.newT (by decide) hn_2) ⟨by omega, by omega⟩ (hS.a11.up) ?_
  refine R_dup hX c1_r dL_back_26 ?_
  refine R_iconst hX dL_back_27 ?_
  refine R_aload_0 hX dL_back_28 ?_
  refine R_getNq (v := t + 12) hX dL_back_29 fn_L_101 (hS.o.up) rfl (by omega) ?_
  refine R_aastA hX dL_back_32 (isA.newT (by decide) hn_2) ⟨by omega, by omega⟩ (hS.a12.up) ?_
  refine R_dup hX c1_r dL_back_33 ?_
  refine R_iconst hX dL_back_34 ?_
  refine R_aload_0 hX dL_back_35 ?_
  refine R_getNq (v := t + 13) hX dL_back_36 fn_L_107 (hS.o.up) rfl (by omega) ?_
  refine R_aastA hX dL_back_39 (isA.newT (by decide) hn_2) ⟨by omega, by omega⟩ (hS.a13.up) ?_
  refine R_dup hX c1_r dL_back_40 ?_
  refine R_iconst hX dL_back_41 ?_
  refine R_aload_0 hX dL_back_42 ?_
  refine R_getNq (v := t + 14) hX dL_back_43 fn_L_113 (hS.o.up) rfl (by omega) ?_
  refine R_aastA hX dL_back_46 (isA.newT (by decide) hn_2) ⟨by omega, by omega⟩ (hS.a14.up) ?_
  refine R_dup hX c1_r dL_back_47 ?_
  refine R_bipush hX dL_back_48 (by decide) ?_
  refine R_aload_0 hX dL_back_50 ?_
  refine R_getNq (v := t + 15) hX dL_back_51 fn_L_87 (hS.o.up) rfl (by omega) ?_
  refine R_aastA hX dL_back_54 (isA.newT (by decide) hn_2) ⟨by omega, by omega⟩ (hS.a15.up) ?_
  refine R_astore_2 hX c1_r dL_back_55 ?_
  refine R_iconst hX dL_back_56 ?_
  refine R_istore_3 hX c1_r dL_back_57 ?_
  have lp_58 : ∀ (n : Nat) (G : Hp) (k : Int), (0 ≤ k ∧ k ≤ 7) → (BKI F G t n_2 k wa) → (8 - k).toNat < n → R X (SH (T ++ [.inr (.array .int, 7)])) 1 7 58 [some (vr (xV X) t), some (vr (xV X) w), some (vr (xV X) n_2), some (vi k)] [] G (ZE X 0 (fun r s F' => ∃ g, s = SH (T ++ g) ∧ ((∀ k : Int, 0 ≤ k → k < 7 → ∀ i : Int, F' (t + 9 + k) i = if 0 ≤ i ∧ i < 6 then F (wa k) i else F (t + 9 + k) i) ∧ ∀ q : Int, (q < t + 9 ∨ t + 16 ≤ q) → q < 136 + T.length → F' q = F q)) 1 7) := by
    intro n
    induction n with
    | zero => intro G k iv58_0 iv58_1 hm; exact absurd hm (Nat.not_lt_zero _)
    | succ n ih_58 =>
      intro G k iv58_0 iv58_1 hm_58
      refine R_iload_3 hX dL_back_58 ?_
      refine R_aload_2 hX dL_back_59 ?_
      refine R_alenq hX (Or.inr rfl) dL_back_60 (isA.newT (by decide) hn_2) ?_
      refine R_icmpge (tgt := 85) hX dL_back_61 (by decide) ⟨by omega, by omega⟩ ⟨by omega, by omega⟩ (fun c_61 => ?_) (fun c_61 => ?_)
      · skip
        exact R_vretE hX dL_back_85 ⟨by omega, by omega⟩ ⟨_, rfl, (fun q q0 q1 i => iv58_1.1 q q0 (by omega) i), (fun q q0 q1 => iv58_1.2.1 q (by omega) (by omega))⟩
      · skip
        refine R_aload_1 hX dL_back_64 ?_
        refine R_iload_3 hX dL_back_65 ?_
        refine R_aaldE (v := wa k) hX (Or.inr rfl) dL_back_66 (hwA.up) ⟨by omega, by omega⟩ (by rw [iv58_1.2.1 w (by omega) (by omega)]; exact (hwk k (by omega) (by omega)).1) ?_
        refine R_iconst hX dL_back_67 ?_
        refine R_aload_2 hX dL_back_68 ?_
        refine R_iload_3 hX dL_back_69 ?_
        refine R_aaldE (v := t + 9 + k) hX (Or.inr rfl) dL_back_70 (isA.newT (by decide) hn_2) ⟨by omega, by omega⟩ (iv58_1.2.2 k (by omega) (by omega)) ?_
        refine R_iconst hX dL_back_71 ?_
        refine R_aload_1 hX dL_back_72 ?_
        refine R_iload_3 hX dL_back_73 ?_
        refine R_aaldE (v := wa k) hX (Or.inr rfl) dL_back_74 (hwA.up) ⟨by omega, by omega⟩ (by rw [iv58_1.2.1 w (by omega) (by omega)]; exact (hwk k (by omega) (by omega)).1) ?_
        refine R_alen hX (Or.inl rfl) dL_back_75 ((hwk k (by omega) (by omega)).2.1.up) ?_
        refine R_acopy hX dL_back_76 ay_L_299 ay_n ay_s in_java_lang_System ((hwk k (by omega) (by omega)).2.1.up) ((hS.row (k := k) ⟨by omega, by omega⟩).up) (by omega) (by omega) (by omega) (by omega) (by omega) ⟨by omega, by omega⟩ rfl (Nat.le_of_ble_eq_true rfl) ?_
        refine R_iinc_3 hX c1_r dL_back_79 ?_
        refine R_goto (tgt := 58) hX dL_back_82 (by decide) ?_
        exact ih_58 _ _ (by omega) (iv58_1.next ⟨by omega, by omega⟩ (by omega) ⟨(hwk k (by omega) (by omega)).2.2, (by have := (hwk k (by omega) (by omega)).2.1.ltT; omega)⟩) (by omega)
  exact lp_58 9 _ _ (by omega) (by
      refine ⟨fun k k0 k1 => by omega, fun q q0 q1 => ?_, fun k k0 k1 => ?_⟩
      · simp (disch := omega) only [up_r, row_r]
      · have e : k = 0 ∨ k = 1 ∨ k = 2 ∨ k = 3 ∨ k = 4 ∨ k = 5 ∨ k = 6 := by omega
        rcases e with rfl | rfl | rfl | rfl | rfl | rfl | rfl <;> (simp (disch := omega) only [up_i, up_s]; omega)) (by omega)
