theorem up_id {F : Hp} {k i : Int} : up F k i (F k i) = F := by
  funext a b
  unfold up
  split
  · rename_i h; rw [h.1, h.2]
  · rfl
theorem up_up {F : Hp} {k i v w : Int} : up (up F k i v) k i w = up F k i w := by
  funext a b
  unfold up
  split <;> rfl
theorem b8_small {z : Int} (h : -128 ≤ z ∧ z < 128) : b8 z = z := by
  rw [b8_sb, iand_255]
  unfold sb
  omega
theorem b8_rng (y : Int) : -128 ≤ b8 y ∧ b8 y < 128 := by
  unfold b8
  rw [Int8.toInt_toInt32]
  exact ⟨Int8.le_toInt _, Int8.toInt_lt _⟩
theorem b8_b8 (y : Int) : b8 (b8 y) = b8 y := b8_small (b8_rng y)
/-- a keyword's letters packed -/
def pkS (i : Nat) : Nat → Int
  | 0 => 0
  | j + 1 => wlS (pkS i j) j (sch i j)
def kwv (i : Nat) : Int := pkS i (slen.getD i 0)
theorem kwv_ok : ∀ i, i < 13 → 0 ≤ kwv i ∧ kwv i < 1099511627776 := by decide +kernel
theorem pkS_s {i : Nat} {j : Int} (h : 0 ≤ j) : pkS i (j + 1).toNat = wlS (pkS i j.toNat) j (sch i j.toNat) := by
  obtain ⟨k, rfl⟩ : ∃ k : Nat, j = k := ⟨j.toNat, by omega⟩
  rfl
def kwF : Nat → Int → Int → Int
  | 0, _, _ => -1
  | n + 1, k, w => if kwv k.toNat = w then k else kwF n (k + 1) w
def kwS (w : Int) : Int := kwF 12 0 w
theorem kwF_go {n : Nat} {k w : Int} (hn : 0 < n) (h : ¬ kwv k.toNat = w) : kwF n k w = kwF (n - 1) (k + 1) w := by
  cases n with
  | zero => omega
  | succ n => exact if_neg h
theorem kwF_hit {n : Nat} {k w : Int} (hn : 0 < n) (h : kwv k.toNat = w) : kwF n k w = k := by
  cases n with
  | zero => omega
  | succ n => exact if_pos h
theorem c1_raw {q : Nat} : c1 (some (.ref q)) := fun _ h => by cases h; rfl
/-- the input buffer with bytes more -/
def apS (x : Int) : Nat → Hp → Hp
  | 0, F => F
  | k + 1, F => up (up (apS x k F) 2 (apS x k F 1 1) (b8 (ishr x (24 - 8 * (k : Int))))) 1 1 (apS x k F 1 1 + 1)
theorem apS_len (x : Int) (F : Hp) : ∀ k : Nat, apS x k F 1 1 = F 1 1 + k
  | 0 => by simp [apS]
  | k + 1 => by
    unfold apS
    rw [up_s, apS_len x F k]
    omega
theorem apS_s {x i : Int} {F : Hp} (h : 0 ≤ i) : apS x (i + 1).toNat F = up (up (apS x i.toNat F) 2 (apS x i.toNat F 1 1) (b8 (ishr x (24 - 8 * i)))) 1 1 (apS x i.toNat F 1 1 + 1) := by
  obtain ⟨k, rfl⟩ : ∃ k : Nat, i = k := ⟨i.toNat, by omega⟩
  rfl
set_option maxRecDepth 100000 in
set_option maxHeartbeats 4000000 in
theorem c_keywordText {V : VX} {T : Shp} {F : Hp} {k : Int} (hk : I32 k) : Ct V yX11_keywordText cX11_keywordText 1 (some (.object "java/lang/String")) 0 0 0 0 (SH T) [vi k] F (SH T) 4 (fun r F' => r = kwi k ∧ F' = F) := by
  refine Ct.of [some (vi k)] (by decide) (by simp [lg_sl, vi_cat, vl_cat, vr_cat]) rfl (by simp [asc, lv_args, vi_cat, vl_cat, vr_cat]) (fun X hV hX => ?_)
  subst hV
  refine R_iload_0 hX dX11_keywordText_0 ?_
  refine R_tab (offs := [63, 67, 71, 75, 79, 83, 87, 91, 95, 99, 103, 107]) hX dX11_keywordText_1 hk (by decide) (by decide) (fun c_1 => ?_) ⟨fun c_1 => ?_, fun c_1 => ?_, fun c_1 => ?_, fun c_1 => ?_, fun c_1 => ?_, fun c_1 => ?_, fun c_1 => ?_, fun c_1 => ?_, fun c_1 => ?_, fun c_1 => ?_, fun c_1 => ?_, fun c_1 => ?_, trivial⟩
  · refine R_pcn (pc := 112) (by decide) ?_
    refine R_ldcwS hX (hX.2.2.2.2.2.2.1.2.2.2.2.2.2.2.1 12 (by decide)) dX11_keywordText_112 ?_
    exact R_aretS (x := 12) hX (Or.inl ⟨_, rfl⟩) dX11_keywordText_115 ⟨by unfold kwi; first | (rw [if_pos (by omega)]; omega) | (rw [if_neg (by omega)]), rfl⟩
  · refine R_pcn (pc := 64) (by decide) ?_
    refine R_ldcwS hX (hX.2.2.2.2.2.2.1.2.2.2.2.2.2.2.1 0 (by decide)) dX11_keywordText_64 ?_
    exact R_aretS (x := 0) hX (Or.inl ⟨_, rfl⟩) dX11_keywordText_67 ⟨by unfold kwi; first | (rw [if_pos (by omega)]; omega) | (rw [if_neg (by omega)]), rfl⟩
  · refine R_pcn (pc := 68) (by decide) ?_
    refine R_ldcwS hX (hX.2.2.2.2.2.2.1.2.2.2.2.2.2.2.1 1 (by decide)) dX11_keywordText_68 ?_
    exact R_aretS (x := 1) hX (Or.inl ⟨_, rfl⟩) dX11_keywordText_71 ⟨by unfold kwi; first | (rw [if_pos (by omega)]; omega) | (rw [if_neg (by omega)]), rfl⟩
  · refine R_pcn (pc := 72) (by decide) ?_
    refine R_ldcwS hX (hX.2.2.2.2.2.2.1.2.2.2.2.2.2.2.1 2 (by decide)) dX11_keywordText_72 ?_
    exact R_aretS (x := 2) hX (Or.inl ⟨_, rfl⟩) dX11_keywordText_75 ⟨by unfold kwi; first | (rw [if_pos (by omega)]; omega) | (rw [if_neg (by omega)]), rfl⟩
  · refine R_pcn (pc := 76) (by decide) ?_
    refine R_ldcwS hX (hX.2.2.2.2.2.2.1.2.2.2.2.2.2.2.1 3 (by decide)) dX11_keywordText_76 ?_
    exact R_aretS (x := 3) hX (Or.inl ⟨_, rfl⟩) dX11_keywordText_79 ⟨by unfold kwi; first | (rw [if_pos (by omega)]; omega) | (rw [if_neg (by omega)]), rfl⟩
  · refine R_pcn (pc := 80) (by decide) ?_
    refine R_ldcwS hX (hX.2.2.2.2.2.2.1.2.2.2.2.2.2.2.1 4 (by decide)) dX11_keywordText_80 ?_
    exact R_aretS (x := 4) hX (Or.inl ⟨_, rfl⟩) dX11_keywordText_83 ⟨by unfold kwi; first | (rw [if_pos (by omega)]; omega) | (rw [if_neg (by omega)]), rfl⟩
  · refine R_pcn (pc := 84) (by decide) ?_
    refine R_ldcwS hX (hX.2.2.2.2.2.2.1.2.2.2.2.2.2.2.1 5 (by decide)) dX11_keywordText_84 ?_
    exact R_aretS (x := 5) hX (Or.inl ⟨_, rfl⟩) dX11_keywordText_87 ⟨by unfold kwi; first | (rw [if_pos (by omega)]; omega) | (rw [if_neg (by omega)]), rfl⟩
  · refine R_pcn (pc := 88) (by decide) ?_
    refine R_ldcwS hX (hX.2.2.2.2.2.2.1.2.2.2.2.2.2.2.1 6 (by decide)) dX11_keywordText_88 ?_
    exact R_aretS (x := 6) hX (Or.inl ⟨_, rfl⟩) dX11_keywordText_91 ⟨by unfold kwi; first | (rw [if_pos (by omega)]; omega) | (rw [if_neg (by omega)]), rfl⟩
  · refine R_pcn (pc := 92) (by decide) ?_
    refine R_ldcwS hX (hX.2.2.2.2.2.2.1.2.2.2.2.2.2.2.1 7 (by decide)) dX11_keywordText_92 ?_
    exact R_aretS (x := 7) hX (Or.inl ⟨_, rfl⟩) dX11_keywordText_95 ⟨by unfold kwi; first | (rw [if_pos (by omega)]; omega) | (rw [if_neg (by omega)]), rfl⟩
  · refine R_pcn (pc := 96) (by decide) ?_
    refine R_ldcwS hX (hX.2.2.2.2.2.2.1.2.2.2.2.2.2.2.1 8 (by decide)) dX11_keywordText_96 ?_
    exact R_aretS (x := 8) hX (Or.inl ⟨_, rfl⟩) dX11_keywordText_99 ⟨by unfold kwi; first | (rw [if_pos (by omega)]; omega) | (rw [if_neg (by omega)]), rfl⟩
  · refine R_pcn (pc := 100) (by decide) ?_
    refine R_ldcwS hX (hX.2.2.2.2.2.2.1.2.2.2.2.2.2.2.1 9 (by decide)) dX11_keywordText_100 ?_
    exact R_aretS (x := 9) hX (Or.inl ⟨_, rfl⟩) dX11_keywordText_103 ⟨by unfold kwi; first | (rw [if_pos (by omega)]; omega) | (rw [if_neg (by omega)]), rfl⟩
  · refine R_pcn (pc := 104) (by decide) ?_
    refine R_ldcwS hX (hX.2.2.2.2.2.2.1.2.2.2.2.2.2.2.1 10 (by decide)) dX11_keywordText_104 ?_
    exact R_aretS (x := 10) hX (Or.inl ⟨_, rfl⟩) dX11_keywordText_107 ⟨by unfold kwi; first | (rw [if_pos (by omega)]; omega) | (rw [if_neg (by omega)]), rfl⟩
  · refine R_pcn (pc := 108) (by decide) ?_
    refine R_ldcwS hX (hX.2.2.2.2.2.2.1.2.2.2.2.2.2.2.1 11 (by decide)) dX11_keywordText_108 ?_
    exact R_aretS (x := 11) hX (Or.inl ⟨_, rfl⟩) dX11_keywordText_111 ⟨by unfold kwi; first | (rw [if_pos (by omega)]; omega) | (rw [if_neg (by omega)]), rfl⟩
set_option maxRecDepth 100000 in
set_option maxHeartbeats 4000000 in
theorem c_keywordOf {V : VX} {T : Shp} {F : Hp} {w : Int} (hw : I64 w) : Ct V yX11_keywordOf cX11_keywordOf 7 (some .int) 4 85 0 0 (SH T) [vl w] F (SH T) 1 (fun r F' => r = kwS w ∧ F' = F) := by
  refine Ct.of [some (vl w), none, none, none, none, none, none] (by decide) (by simp [lg_sl, vi_cat, vl_cat, vr_cat]) rfl (by simp [asc, lv_args, vi_cat, vl_cat, vr_cat]) (fun X hV hX => ?_)
  subst hV
  refine R_iconst hX dX11_keywordOf_0 ?_
  refine R_istore_2 hX c1_n dX11_keywordOf_1 ?_
  have lp_2 : ∀ (n : Nat) (k : Int), (0 ≤ k ∧ k ≤ 12) → (kwF (12 - k).toNat k w = kwS w) → (13 - k).toNat < n → R X (SH T) 0 0 2 [some (vl w), none, some (vi k), none, none, none, none] [] F (Zq X (SH T) 1 (fun r F' => r = kwS w ∧ F' = F) 0 0) := by
    intro n
    induction n with
    | zero => intro k iv2_0 iv2_1 hm; exact absurd hm (Nat.not_lt_zero _)
    | succ n ih_2 =>
      intro k iv2_0 iv2_1 hm_2
      refine R_iload_2 hX dX11_keywordOf_2 ?_
      refine R_bipush hX dX11_keywordOf_3 (by decide) ?_
      refine R_icmpge (tgt := 64) hX dX11_keywordOf_5 (by decide) ⟨by omega, by omega⟩ ⟨by omega, by omega⟩ (fun c_5 => ?_) (fun c_5 => ?_)
      · skip
        refine R_iconst hX dX11_keywordOf_64 ?_
        exact R_iret hX dX11_keywordOf_65 ⟨by rw [← iv2_1, show (12 - k).toNat = 0 by omega]; rfl, rfl⟩
      · skip
        have hk13 : k.toNat < 13 := by omega
        have hln := sln_ok k.toNat hk13
        have hkv := kwv_ok k.toNat hk13
        refine R_iload_2 hX dX11_keywordOf_8 ?_
        refine R_callS0 (kd := 4) (As := [vi k]) hX dX11_keywordOf_9 li_X11_347 mk_X11_keywordText ms_X11_keywordText (c_keywordText (by constructor <;> omega)) ⟨⟨by decide, by decide⟩, by decide, by decide, rfl, rfl, Nat.le_of_ble_eq_true rfl, rfl⟩ (fun x_9 F_9 h_9 => ?_)
        obtain ⟨h_9, e_9⟩ := h_9; replace e_9 := e_9.symm; subst e_9; subst h_9
        have hkk : kwi k = k := if_pos (by omega)
        rw [hkk]
        refine R_astore_3_raw hX c1_i dX11_keywordOf_12 ?_
        refine R_lconst0 hX dX11_keywordOf_13 ?_
        refine R_lstore_4 hX c1_raw dX11_keywordOf_14 ?_
        refine R_iconst hX dX11_keywordOf_16 ?_
        refine R_istore_6 hX c1_n dX11_keywordOf_17 ?_
        have lp_19 : ∀ (n : Nat) (j : Int), (0 ≤ j ∧ j ≤ sln k.toNat) → (9 - j).toNat < n → R X (SH T) 0 0 19 [some (vl w), none, some (vi k), some (.ref ((vG (xV X)).2.1 k.toNat)), some (vl (pkS k.toNat j.toNat)), none, some (vi j)] [] F (Zq X (SH T) 1 (fun r F' => r = kwS w ∧ F' = F) 0 0) := by
          intro n
          induction n with
          | zero => intro j iv19_0 hm; exact absurd hm (Nat.not_lt_zero _)
          | succ n ih_19 =>
            intro j iv19_0 hm_19
            refine R_iload_6 hX dX11_keywordOf_19 ?_
            refine R_aload_3_raw hX dX11_keywordOf_21 ?_
            refine R_callVS (As := []) hX dX11_keywordOf_22 li_X11_351 mk_J0_length_8abf5 mi_J0_length_8abf5 rfl (Nat.lt_trans hk13 (by decide)) (c_strLen (Nat.lt_trans hk13 (by decide))) ⟨⟨by decide, by decide⟩, by decide, by decide, rfl, rfl, Nat.le_of_ble_eq_true rfl⟩ (fun x_22 F_22 h_22 => ?_)
            obtain ⟨h_22, e_22⟩ := h_22; replace e_22 := e_22.symm; subst e_22
            subst h_22
            refine R_icmpge (tgt := 49) hX dX11_keywordOf_25 (by decide) ⟨by omega, by omega⟩ ⟨by omega, by omega⟩ (fun c_25 => ?_) (fun c_25 => ?_)
            · skip
              have hjl : j = sln k.toNat := by omega
              have hpk : pkS k.toNat j.toNat = kwv k.toNat := by rw [hjl]; unfold sln kwv; rw [Int.toNat_natCast]
              rw [hpk]
              refine R_lload_4 hX dX11_keywordOf_49 ?_
              refine R_lload_0 hX dX11_keywordOf_51 ?_
              refine R_lcmp hX ⟨by omega, by omega⟩ hw dX11_keywordOf_52 ?_
              refine R_ifne (tgt := 58) hX dX11_keywordOf_53 (by decide) (by unfold lc; split <;> (try split) <;> constructor <;> omega) (fun c_53 => ?_) (fun c_53 => ?_)
              · skip
                have hne : ¬ kwv k.toNat = w := by unfold lc at c_53; split at c_53 <;> (try split at c_53) <;> omega
                refine R_iinc_2 hX c1_n dX11_keywordOf_58 ?_
                refine R_goto (tgt := 2) hX dX11_keywordOf_61 (by decide) ?_
                refine R_drop_3 ?_
                refine R_drop_4 ?_
                refine R_drop_6 ?_
                exact ih_2 _ (by omega) (by rw [← iv2_1, kwF_go (by omega) hne, show (12 - k).toNat - 1 = (12 - (k + 1)).toNat by omega]) (by omega)
              · skip
                have heq : kwv k.toNat = w := by unfold lc at c_53; split at c_53 <;> (try split at c_53) <;> omega
                refine R_iload_2 hX dX11_keywordOf_56 ?_
                exact R_iret hX dX11_keywordOf_57 ⟨by rw [← iv2_1, kwF_hit (by omega) heq], rfl⟩
            · skip
              refine R_lload_4 hX dX11_keywordOf_28 ?_
              refine R_iload_6 hX dX11_keywordOf_30 ?_
              refine R_aload_3_raw hX dX11_keywordOf_32 ?_
              refine R_iload_6 hX dX11_keywordOf_33 ?_
              refine R_callVS (As := [vi j]) hX dX11_keywordOf_35 li_X11_356 mk_J0_charAt_5068e mi_J0_charAt_5068e rfl (Nat.lt_trans hk13 (by decide)) (c_charAt hk13 (by omega)) ⟨⟨by decide, by decide⟩, by decide, by decide, rfl, rfl, Nat.le_of_ble_eq_true rfl⟩ (fun x_35 F_35 h_35 => ?_)
              obtain ⟨h_35, e_35⟩ := h_35; replace e_35 := e_35.symm; subst e_35
              subst h_35
              have hch := sch_ok k.toNat hk13 j.toNat (by unfold sln at *; omega)
              refine R_s3l hX dX11_keywordOf_38 li_X11_360 mk_X11_withLetter ms_X11_withLetter (c_withLetter (by omega) (by omega)) ⟨⟨by decide, by decide⟩, by decide, by decide, rfl, Nat.le_of_ble_eq_true rfl, rfl⟩ (fun x_38 F_38 h_38 => ?_)
              obtain ⟨h_38, e_38⟩ := h_38; replace e_38 := e_38.symm; subst e_38
              subst h_38
              rw [show wlS (pkS k.toNat j.toNat) j (sch k.toNat j.toNat) = pkS k.toNat (j + 1).toNat from (pkS_s (by omega)).symm]
              refine R_lstore_4 hX c1_raw dX11_keywordOf_41 ?_
              refine R_iinc_6 hX c1_n dX11_keywordOf_43 ?_
              refine R_goto (tgt := 19) hX dX11_keywordOf_46 (by decide) ?_
              exact ih_19 _ (by omega) (by omega)
        exact lp_19 10 0 (by omega) (by omega)
  exact lp_2 14 _ (by omega) rfl (by omega)
set_option maxRecDepth 100000 in
set_option maxHeartbeats 4000000 in
theorem c_byteAt {V : VX} {T : Shp} {F : Hp} (hL : 0 ≤ F 1 1 ∧ F 1 1 ≤ 900) {i : Int} (hi : I32 i) : Ct V yX9_byteAt cX9_byteAt 2 (some .int) 0 0 0 0 (SH T) [vr V 1, vi i] F (SH T) 1 (fun r F' => r = (if 0 ≤ i ∧ i < F 1 1 then F 2 i else 0) ∧ F' = F) := by
  refine Ct.of [some (vr V 1), some (vi i)] (by decide) (by simp [lg_sl, vi_cat, vl_cat, vr_cat]) rfl (by simp [asc, lv_args, vi_cat, vl_cat, vr_cat]) (fun X hV hX => ?_)
  subst hV
  refine R_iload_1 hX dX9_byteAt_0 ?_
  refine R_iflt (tgt := 30) hX dX9_byteAt_1 (by decide) ⟨by omega, by omega⟩ (fun c_1 => ?_) (fun c_1 => ?_)
  · skip
    refine R_iconst hX dX9_byteAt_30 ?_
    exact R_iret hX dX9_byteAt_31 ⟨by first | rw [if_pos (by omega)] | rw [if_neg (by omega)], rfl⟩
  · skip
    refine R_iload_1 hX dX9_byteAt_4 ?_
    refine R_aload_0 hX dX9_byteAt_5 ?_
    refine R_geti hX dX9_byteAt_6 fl_X9_15 o_1 rfl ?_
    refine R_icmpge (tgt := 30) hX dX9_byteAt_9 (by decide) ⟨by omega, by omega⟩ ⟨by omega, by omega⟩ (fun c_9 => ?_) (fun c_9 => ?_)
    · skip
      refine R_iconst hX dX9_byteAt_30 ?_
      exact R_iret hX dX9_byteAt_31 ⟨by first | rw [if_pos (by omega)] | rw [if_neg (by omega)], rfl⟩
    · skip
      refine R_iload_1 hX dX9_byteAt_12 ?_
      refine R_aload_0 hX dX9_byteAt_13 ?_
      refine R_getq (v := 2) hX dX9_byteAt_14 fl_X9_9 o_1 rfl (by omega) ?_
      refine R_alen hX (Or.inr (Or.inr (Or.inr rfl))) dX9_byteAt_17 a_2 ?_
      refine R_icmpge (tgt := 30) hX dX9_byteAt_18 (by decide) ⟨by omega, by omega⟩ ⟨by omega, by omega⟩ (fun c_18 => ?_) (fun c_18 => ?_)
      · exact absurd c_18 (by omega)
      · skip
        refine R_aload_0 hX dX9_byteAt_21 ?_
        refine R_getq (v := 2) hX dX9_byteAt_22 fl_X9_9 o_1 rfl (by omega) ?_
        refine R_iload_1 hX dX9_byteAt_25 ?_
        refine R_bald hX dX9_byteAt_26 a_2 ⟨by omega, by omega⟩ ?_
        refine R_goto (tgt := 31) hX dX9_byteAt_27 (by decide) ?_
        exact R_iret hX dX9_byteAt_31 ⟨by first | rw [if_pos (by omega)] | rw [if_neg (by omega)], rfl⟩
set_option maxRecDepth 100000 in
set_option maxHeartbeats 4000000 in
theorem c_append {V : VX} {T : Shp} {F : Hp} (hL : 0 ≤ F 1 1 ∧ F 1 1 + 4 ≤ 900) {x : Int} : Ct V yX9_append cX9_append 3 none 0 0 0 0 (SH T) [vr V 1, vi x] F (SH T) 0 (fun r F' => F' = apS x 4 F) := by
  refine Ct.of [some (vr V 1), some (vi x), none] (by decide) (by simp [lg_sl, vi_cat, vl_cat, vr_cat]) rfl (by simp [asc, lv_args, vi_cat, vl_cat, vr_cat]) (fun X hV hX => ?_)
  subst hV
  refine R_bipush hX dX9_append_0 (by decide) ?_
  refine R_istore_2 hX c1_i dX9_append_2 ?_
  have lp_3 : ∀ (n : Nat) (k : Int), (0 ≤ k ∧ k ≤ 4) → (5 - k).toNat < n → R X (SH T) 0 0 3 [some (vr (xV X) 1), some (vi x), some (vi (24 - 8 * k))] [] (apS x k.toNat F) (Zq X (SH T) 0 (fun r F' => F' = apS x 4 F) 0 0) := by
    intro n
    induction n with
    | zero => intro k iv3_0 hm; exact absurd hm (Nat.not_lt_zero _)
    | succ n ih_3 =>
      intro k iv3_0 hm_3
      have hl := apS_len x F k.toNat
      refine R_iload_2 hX dX9_append_3 ?_
      refine R_iflt (tgt := 55) hX dX9_append_4 (by decide) ⟨by omega, by omega⟩ (fun c_4 => ?_) (fun c_4 => ?_)
      · skip
        exact R_vret hX dX9_append_55 (by rw [show k = 4 by omega]; rfl)
      · skip
        refine R_aload_0 hX dX9_append_7 ?_
        refine R_geti hX dX9_append_8 fl_X9_15 o_1 rfl ?_
        refine R_iflt (tgt := 49) hX dX9_append_11 (by decide) ⟨by omega, by omega⟩ (fun c_11 => ?_) (fun c_11 => ?_)
        · exact absurd c_11 (by omega)
        · skip
          refine R_aload_0 hX dX9_append_14 ?_
          refine R_geti hX dX9_append_15 fl_X9_15 o_1 rfl ?_
          refine R_aload_0 hX dX9_append_18 ?_
          refine R_getq (v := 2) hX dX9_append_19 fl_X9_9 o_1 rfl (by omega) ?_
          refine R_alen hX (Or.inr (Or.inr (Or.inr rfl))) dX9_append_22 a_2 ?_
          refine R_icmpge (tgt := 49) hX dX9_append_23 (by decide) ⟨by omega, by omega⟩ ⟨by omega, by omega⟩ (fun c_23 => ?_) (fun c_23 => ?_)
          · exact absurd c_23 (by omega)
          · skip
            refine R_aload_0 hX dX9_append_26 ?_
            refine R_getq (v := 2) hX dX9_append_27 fl_X9_9 o_1 rfl (by omega) ?_
            refine R_aload_0 hX dX9_append_30 ?_
            refine R_geti hX dX9_append_31 fl_X9_15 o_1 rfl ?_
            refine R_iload_1 hX dX9_append_34 ?_
            refine R_iload_2 hX dX9_append_35 ?_
            refine R_ishr hX dX9_append_36 ?_
            refine R_i2b hX dX9_append_37 ?_
            refine R_bast hX dX9_append_38 a_2 ⟨by omega, by omega⟩ ?_
            rw [b8_b8]
            refine R_aload_0 hX dX9_append_39 ?_
            refine R_dup hX c1_r dX9_append_40 ?_
            refine R_geti hX dX9_append_41 fl_X9_15 o_1 rfl ?_
            refine R_iconst hX dX9_append_44 ?_
            refine R_iadd hX dX9_append_45 ?_
            refine R_puti hX dX9_append_46 fl_X9_15 o_1 rfl ?_
            simp (disch := omega) only [up_k]
            refine R.eq rfl rfl (apS_s iv3_0.1).symm ?_
            refine R_iinc_2 hX c1_i dX9_append_49 ?_
            rw [show 24 - 8 * k + -8 = 24 - 8 * (k + 1) by omega]
            refine R_goto (tgt := 3) hX dX9_append_52 (by decide) ?_
            exact ih_3 _ (by omega) (by omega)
  exact lp_3 6 0 (by omega) (by omega)
