theorem onP_sub {par : Int → Int} {N : Int} (hT : Tr N par) : ∀ (k : Nat) (m f : Int), m < N → m < k → onP par k m f = true → ∃ j : Nat, f < j ∧ ∀ i, i ≤ f → onP par k m i = onP par j f i
  | 0, m, f, _, _, h => by cases h
  | k + 1, m, f, hm, hk, h => by
    have hle := onP_le hT _ _ _ hm h
    by_cases q : f = m
    · subst q
      exact ⟨k + 1, hk, fun i _ => rfl⟩
    · have ht := hT m (by omega) hm
      rw [onP_up (by omega) hk q] at h
      obtain ⟨j, h1, h2⟩ := onP_sub hT k (par m) f (by omega) (by omega) h
      refine ⟨j, h1, fun i hi => ?_⟩
      rw [onP_up (by omega) hk (by omega)]
      exact h2 i hi
theorem st1 {V W : Hp} {par : Int → Int} {N leaf c node : Int} {k : Nat} (hT : Tr N par) (h0 : 0 ≤ node) (hn : node < N) (hk : node < k) (hr : ∀ i, i ≤ node → onP par 13 leaf i = onP par k node i) (h7 : ∀ i, W 1007 i = if node < i ∧ onP par 13 leaf i = true then V 1007 i - c else V 1007 i) : ∀ i, up W 1007 node (V 1007 node - c) 1007 i = if par node < i ∧ onP par 13 leaf i = true then V 1007 i - c else V 1007 i := by
  obtain ⟨s1, s2, s3⟩ := onP_step hT h0 hn hk hr
  have ht := hT node h0 hn
  intro i
  by_cases hi : i = node
  · subst hi
    rw [up_s, if_pos ⟨by omega, s1⟩]
  · rw [up_i hi, h7 i]
    by_cases ho : onP par 13 leaf i = true
    · by_cases q : node < i
      · rw [if_pos ⟨q, ho⟩, if_pos ⟨by omega, ho⟩]
      · rw [if_neg (fun z => q z.1), if_neg (fun z => by have := s2 i z.1 (by omega); rw [this] at ho; cases ho)]
    · rw [if_neg (fun z => ho z.2), if_neg (fun z => ho z.2)]
theorem st3 {V W : Hp} {par : Int → Int} {N leaf c node f : Int} {k : Nat} (hT : Tr N par) (h0 : 0 ≤ node) (hn : node < N) (hk : node < k) (hf : node < f) (hr : ∀ i, i ≤ node → onP par 13 leaf i = onP par k node i) (h5 : ∀ i, W 1005 i = if i = f ∨ (node < i ∧ i < f ∧ onP par 13 leaf i = true) then V 1005 i - min (V 1005 i) c else V 1005 i) : ∀ i, up W 1005 node (V 1005 node - min (V 1005 node) c) 1005 i = if i = f ∨ (par node < i ∧ i < f ∧ onP par 13 leaf i = true) then V 1005 i - min (V 1005 i) c else V 1005 i := by
  obtain ⟨s1, s2, s3⟩ := onP_step hT h0 hn hk hr
  have ht := hT node h0 hn
  intro i
  by_cases hi : i = node
  · subst hi
    rw [up_s, if_pos (Or.inr ⟨by omega, hf, s1⟩)]
  · rw [up_i hi, h5 i]
    by_cases hif : i = f
    · rw [if_pos (Or.inl hif), if_pos (Or.inl hif)]
    · by_cases ho : onP par 13 leaf i = true
      · by_cases q : node < i ∧ i < f
        · rw [if_pos (Or.inr ⟨q.1, q.2, ho⟩), if_pos (Or.inr ⟨by omega, q.2, ho⟩)]
        · rw [if_neg (fun z => z.elim hif (fun w => q ⟨w.1, w.2.1⟩)), if_neg (fun z => z.elim hif (fun w => by
            have h2 : ¬ node < i := fun y => q ⟨y, w.2.1⟩
            have := s2 i w.1 (by omega)
            rw [this] at ho; cases ho))]
      · rw [if_neg (fun z => z.elim hif (fun w => ho w.2.2)), if_neg (fun z => z.elim hif (fun w => ho w.2.2))]
theorem up4 {W : Hp} {a b x y z w : Int} : up (up (up (up W 1016 a x) 1017 b y) 1014 a z) 1015 a w = up (up (up (up W 1014 a z) 1015 a w) 1016 a x) 1017 b y := by
  rw [up_comm (k := 1017) (k' := 1014) (by decide), up_comm (k := 1016) (k' := 1014) (by decide), up_comm (k := 1017) (k' := 1015) (by decide), up_comm (k := 1016) (k' := 1015) (by decide)]
theorem vw_par {o : Int} {F : Hp} : vw o F (1100 + 2) = F 141 := vw_1102
set_option maxRecDepth 100000 in
set_option maxHeartbeats 4000000 in
theorem r_sends {V : VX} {F : Hp} {K : Int} (h : RI K F) {l c f : Int} (hl : 0 ≤ l ∧ l < F 136 3) (hok : lOk 1000 1100 (vw 0 F) l f c) (hc : 1 ≤ c ∧ c ≤ 99)  : Ct V yX12_sends cX12_sends 6 none 1 24 0 0 SH [vr V 136, vi l, vi c, vi f] F SH 0 (fun r F' => vw 0 F' = sndS 1000 1100 l f c (vw 0 F) ∧ Fr F F') := by
  refine Ct.of [some (vr V 136), some (vi l), some (vi c), some (vi f), none, none] (by decide) (by simp [lg_sl, vi_cat, vl_cat, vr_cat]) rfl (by simp [asc, lv_args, vi_cat, vl_cat, vr_cat]) (fun X hV hX => ?_)
  subst hV
  have hN := ri_N h
  have hT := ri_T h
  have hA := ri_A h
  have hSS := ri_S h
  obtain ⟨hf, hon, hfu, hhd⟩ := hok
  rw [vw_par] at hon
  have hGG := (ri_G h).1
  have haf := hA f (by omega) (by omega)
  have hsf := hSS f (by omega) (by omega)
  have hpf := hT f (by omega) (by omega)
  have e5f := vw_5 (F := F) (n := f) (by omega)
  have e6f := vw_6 (F := F) (n := f) (by omega)
  refine R_iload_1 hX dX12_sends_0 ?_
  refine R_istore_4 hX c1_i dX12_sends_1 ?_
  have lp_3 : ∀ (n : Nat) (k : Nat) (x : Int) (G : Hp), (-2 ≤ x ∧ x < F 136 3 ∧ x < k) → (∀ i : Int, i ≤ x → onP (F 141) 13 l i = onP (F 141) k x i) → (Fr F G) → ((∀ i : Int, vw 0 G 1007 i = if x < i ∧ onP (F 141) 13 l i = true then vw 0 F 1007 i - c else vw 0 F 1007 i) ∧ (∀ (a i : Int), a ≠ 1007 → vw 0 G a i = vw 0 F a i)) → (x + 3).toNat < n → R X SH 0 0 3 [some (vr (xV X) 136), some (vi l), some (vi c), some (vi f), some (vi x), none] [] G (Zq X SH 0 (fun r F' => vw 0 F' = sndS 1000 1100 l f c (vw 0 F) ∧ Fr F F') 0 0) := by
    intro n
    induction n with
    | zero => intro k x G iv3_0 iv3_1 iv3_2 iv3_3 hm; exact absurd hm (Nat.not_lt_zero _)
    | succ n ih_3 =>
      intro k x G iv3_0 iv3_1 iv3_2 iv3_3 hm_3
      have g141 : ∀ i : Int, G 141 i = F 141 i := fun i => by rw [iv3_2.1 141 (by decide)]
      refine R_iload_4 hX dX12_sends_3 ?_
      refine R_iflt (tgt := 34) hX dX12_sends_5 (by decide) ⟨by omega, by omega⟩ (fun c_5 => ?_) (fun c_5 => ?_)
      · skip
        obtain ⟨j, hj1, hj2⟩ := onP_sub hT 13 l f hl.2 (by omega) hon
        have w5 : G 137 (3 + f) = vw 0 F 1005 f := by rw [← vw_5 (F := G) (n := f) (by omega)]; exact iv3_3.2 1005 f (by decide)
        have w6 : G 137 (15 + f) = vw 0 F 1006 f := by rw [← vw_6 (F := G) (n := f) (by omega)]; exact iv3_3.2 1006 f (by decide)
        refine R_aload_0 hX dX12_sends_34 ?_
        refine R_getq (v := 137) hX dX12_sends_35 fl_X12_7 o_136 rfl (by omega) ?_
        refine R_iconst hX dX12_sends_38 ?_
        refine R_iload_3 hX dX12_sends_39 ?_
        refine R_iadd hX dX12_sends_40 ?_
        refine R_iald hX dX12_sends_41 a_137 ⟨by omega, by omega⟩ ?_
        refine R_iload_2 hX dX12_sends_42 ?_
        refine R_icmpge (tgt := 57) hX dX12_sends_43 (by decide) (by rw [w5]; constructor <;> omega) ⟨by omega, by omega⟩ (fun c_43 => ?_) (fun c_43 => ?_)
        · skip
          refine R_iload_2 hX dX12_sends_57 ?_
          refine R_istore_4 hX c1_i dX12_sends_58 ?_
          skip
          refine R_aload_0 hX dX12_sends_60 ?_
          refine R_getq (v := 137) hX dX12_sends_61 fl_X12_7 o_136 rfl (by omega) ?_
          refine R_iconst hX dX12_sends_64 ?_
          refine R_iload_3 hX dX12_sends_65 ?_
          refine R_iadd hX dX12_sends_66 ?_
          refine R_dup2 hX c1_i c1_r dX12_sends_67 ?_
          refine R_iald hX dX12_sends_68 a_137 ⟨by omega, by omega⟩ ?_
          refine R_iload_4 hX dX12_sends_69 ?_
          refine R_isub hX dX12_sends_71 ?_
          refine R_iast hX dX12_sends_72 a_137 ⟨by omega, by omega⟩ ?_
          refine R_aload_0 hX dX12_sends_73 ?_
          refine R_getq (v := 137) hX dX12_sends_74 fl_X12_7 o_136 rfl (by omega) ?_
          refine R_bipush hX dX12_sends_77 (by decide) ?_
          refine R_iload_3 hX dX12_sends_79 ?_
          refine R_iadd hX dX12_sends_80 ?_
          refine R_dup2 hX c1_i c1_r dX12_sends_81 ?_
          refine R_iald hX dX12_sends_82 a_137 ⟨by omega, by omega⟩ ?_
          refine R_iload_2 hX dX12_sends_83 ?_
          refine R_iload_4 hX dX12_sends_84 ?_
          refine R_isub hX dX12_sends_86 ?_
          refine R_isub hX dX12_sends_87 ?_
          refine R_iast hX dX12_sends_88 a_137 ⟨by omega, by omega⟩ ?_
          have hfr2 := (iv3_2.up (j := 3 + f) (x := vw 0 F 1005 f - min (vw 0 F 1005 f) c) (by omega)).up (j := 15 + f) (x := vw 0 F 1006 f - (c - min (vw 0 F 1005 f) c)) (by omega)
          have hcut : ∀ i : Int, onP (F 141) 13 l i = true → x < i := fun i z => by have := onP_le hT _ _ _ hl.2 z; omega
          refine R.eq rfl rfl (show _ = up (up G 137 (3 + f) (vw 0 F 1005 f - min (vw 0 F 1005 f) c)) 137 (15 + f) (vw 0 F 1006 f - (c - min (vw 0 F 1005 f) c)) by rw [up_i (show (15 : Int) + f ≠ 3 + f by omega), w5, w6]; congr 1; congr 1; omega; omega) ?_
          have h3in : (∀ i : Int, vw 0 (up (up G 137 (3 + f) (vw 0 F 1005 f - min (vw 0 F 1005 f) c)) 137 (15 + f) (vw 0 F 1006 f - (c - min (vw 0 F 1005 f) c))) 1007 i = if onP (F 141) 13 l i = true then vw 0 F 1007 i - c else vw 0 F 1007 i) ∧ (∀ i : Int, vw 0 (up (up G 137 (3 + f) (vw 0 F 1005 f - min (vw 0 F 1005 f) c)) 137 (15 + f) (vw 0 F 1006 f - (c - min (vw 0 F 1005 f) c))) 1005 i = if i = f ∨ (F 141 f < i ∧ i < f ∧ onP (F 141) 13 l i = true) then vw 0 F 1005 i - min (vw 0 F 1005 i) c else vw 0 F 1005 i) ∧ (∀ i : Int, vw 0 (up (up G 137 (3 + f) (vw 0 F 1005 f - min (vw 0 F 1005 f) c)) 137 (15 + f) (vw 0 F 1006 f - (c - min (vw 0 F 1005 f) c))) 1006 i = if i = f then vw 0 F 1006 i - (c - min (vw 0 F 1005 f) c) else vw 0 F 1006 i) ∧ (∀ (a i : Int), a ≠ 1005 → a ≠ 1006 → a ≠ 1007 → vw 0 (up (up G 137 (3 + f) (vw 0 F 1005 f - min (vw 0 F 1005 f) c)) 137 (15 + f) (vw 0 F 1006 f - (c - min (vw 0 F 1005 f) c))) a i = vw 0 F a i) := by
            rw [vu_6 (by omega), vu_5 (by omega)]
            refine ⟨fun i => ?_, fun i => ?_, fun i => ?_, fun a i z1 z2 z3 => ?_⟩
            · rw [up_k (by decide), up_k (by decide), iv3_3.1]
              by_cases o : onP (F 141) 13 l i = true
              · rw [if_pos ⟨hcut i o, o⟩, if_pos o]
              · rw [if_neg (fun z => o z.2), if_neg o]
            · rw [up_k (by decide)]
              by_cases q : i = f
              · subst q; rw [up_s, if_pos (Or.inl rfl)]
              · rw [up_i q, iv3_3.2 1005 i (by decide), if_neg]
                intro z
                rcases z with z | z
                · exact q z
                · have := (onP_step hT hf.1 (by omega) hj1 hj2).2.1 i z.1 z.2.1
                  rw [this] at z; exact absurd z.2.2 (by decide)
            · by_cases q : i = f
              · subst q; rw [up_s, if_pos rfl]
              · rw [up_i q, up_k (by decide), iv3_3.2 1006 i (by decide), if_neg q]
            · rw [up_k z2, up_k z1]; exact iv3_3.2 a i z3
          refine R_aload_0 hX dX12_sends_89 ?_
          refine R_getq (v := 141) hX dX12_sends_90 fl_X12_31 o_136 rfl (by omega) ?_
          refine R_iload_3 hX dX12_sends_93 ?_
          refine R_iald hX dX12_sends_94 a_141 ⟨by omega, by omega⟩ ?_
          simp (disch := omega) only [up_k, g141]
          refine R_istore_5 hX c1_i dX12_sends_95 ?_
          have lp_97 : ∀ (n : Nat) (k : Nat) (x : Int) (G : Hp), (-2 ≤ x ∧ x < F 136 3 ∧ x < k ∧ x < f) → (∀ i : Int, i ≤ x → onP (F 141) 13 l i = onP (F 141) k x i) → (Fr F G) → ((∀ i : Int, vw 0 G 1007 i = if onP (F 141) 13 l i = true then vw 0 F 1007 i - c else vw 0 F 1007 i) ∧ (∀ i : Int, vw 0 G 1005 i = if i = f ∨ (x < i ∧ i < f ∧ onP (F 141) 13 l i = true) then vw 0 F 1005 i - min (vw 0 F 1005 i) c else vw 0 F 1005 i) ∧ (∀ i : Int, vw 0 G 1006 i = if i = f then vw 0 F 1006 i - (c - min (vw 0 F 1005 f) c) else vw 0 F 1006 i) ∧ (∀ (a i : Int), a ≠ 1005 → a ≠ 1006 → a ≠ 1007 → vw 0 G a i = vw 0 F a i)) → (x + 3).toNat < n → R X SH 0 0 97 [some (vr (xV X) 136), some (vi l), some (vi c), some (vi f), none, some (vi x)] [] G (Zq X SH 0 (fun r F' => vw 0 F' = sndS 1000 1100 l f c (vw 0 F) ∧ Fr F F') 0 0) := by
            intro n
            induction n with
            | zero => intro k x G iv97_0 iv97_1 iv97_2 iv97_3 hm; exact absurd hm (Nat.not_lt_zero _)
            | succ n ih_97 =>
              intro k x G iv97_0 iv97_1 iv97_2 iv97_3 hm_97
              have g141 : ∀ i : Int, G 141 i = F 141 i := fun i => by rw [iv97_2.1 141 (by decide)]
              refine R_iload_5 hX dX12_sends_97 ?_
              refine R_iflt (tgt := 151) hX dX12_sends_99 (by decide) ⟨by omega, by omega⟩ (fun c_99 => ?_) (fun c_99 => ?_)
              · skip
                have hP : vw 0 G = payS 1000 1100 l f c (vw 0 F) := ref_pay hT hl.2 hon vw_1102 iv97_3.1 (fun i => by rw [iv97_3.2.1]; by_cases o : onP (F 141) 13 l i = true ∧ i ≤ f; (rw [if_pos o, if_pos (by by_cases q : i = f; exact Or.inl q; exact Or.inr ⟨by have := onP_le hT _ _ _ hl.2 o.1; omega, by omega, o.1⟩)]); (rw [if_neg o, if_neg (fun z => by rcases z with z | z; (subst z; exact o ⟨hon, Int.le_refl _⟩); exact o ⟨z.2.2, by omega⟩)])) iv97_3.2.2.1 iv97_3.2.2.2
                have g14 : G 137 (39 + l) = vw 0 G 1014 l := (vw_14 (by omega)).symm
                have g15 : G 137 (51 + l) = vw 0 G 1015 l := (vw_15 (by omega)).symm
                have g16 : G 137 (63 + l) = vw 0 G 1016 l := (vw_16 (by omega)).symm
                have g17 : G 137 (75 + f) = vw 0 G 1017 f := (vw_17 (by omega)).symm
                have hG2 : G 137 2 = F 137 2 := by have := congrFun (congrFun hP 1019) 0; rw [payS_r (by omega)] at this; exact this
                have hG0 : G 137 0 = F 137 0 := by have := congrFun (congrFun hP 1000) 1; rw [payS_r (by omega)] at this; exact this
                refine R_iload_3 hX dX12_sends_151 ?_
                refine R_iload_1 hX dX12_sends_152 ?_
                refine R_icmpeq (tgt := 182) hX dX12_sends_153 (by decide) ⟨by omega, by omega⟩ ⟨by omega, by omega⟩ (fun c_153 => ?_) (fun c_153 => ?_)
                · skip
                  refine R_aload_0 hX dX12_sends_182 ?_
                  refine R_getq (v := 137) hX dX12_sends_183 fl_X12_7 o_136 rfl (by omega) ?_
                  refine R_bipush hX dX12_sends_186 (by decide) ?_
                  refine R_iload_1 hX dX12_sends_188 ?_
                  refine R_iadd hX dX12_sends_189 ?_
                  refine R_dup2 hX c1_i c1_r dX12_sends_190 ?_
                  refine R_iald hX dX12_sends_191 a_137 ⟨by omega, by omega⟩ ?_
                  refine R_iload_2 hX dX12_sends_192 ?_
                  refine R_iadd hX dX12_sends_193 ?_
                  refine R_iast hX dX12_sends_194 a_137 ⟨by omega, by omega⟩ ?_
                  refine R_aload_0 hX dX12_sends_195 ?_
                  refine R_getq (v := 137) hX dX12_sends_196 fl_X12_7 o_136 rfl (by omega) ?_
                  refine R_bipush hX dX12_sends_199 (by decide) ?_
                  refine R_iload_1 hX dX12_sends_201 ?_
                  refine R_iadd hX dX12_sends_202 ?_
                  refine R_dup2 hX c1_i c1_r dX12_sends_203 ?_
                  refine R_iald hX dX12_sends_204 a_137 ⟨by omega, by omega⟩ ?_
                  refine R_iconst hX dX12_sends_205 ?_
                  refine R_iadd hX dX12_sends_206 ?_
                  refine R_iast hX dX12_sends_207 a_137 ⟨by omega, by omega⟩ ?_
                  refine R.gen (fun H hH => ?_)
                  have hfrH : Fr F H := by
                    subst hH
                    first | exact (iv97_2.up (by omega)).up (by omega) | exact (((iv97_2.up (by omega)).up (by omega)).up (by omega)).up (by omega)
                  have hH2 : H 137 2 = F 137 2 := by
                    subst hH
                    simp (disch := omega) only [up_i]
                    exact hG2
                  have hH0 : H 137 0 = F 137 0 := by
                    subst hH
                    simp (disch := omega) only [up_i]
                    exact hG0
                  have hvH : vw 0 H = cntS 1000 l f c (payS 1000 1100 l f c (vw 0 F)) := by
                    subst hH
                    simp (disch := omega) only [up_i]
                    rw [vu_15 (by omega), vu_14 (by omega)]
                    unfold cntS
                    first
                      | (rw [if_pos (by omega), g14, g15, hP]; rfl)
                      | (rw [if_neg (by omega), vu_17 (by omega), vu_16 (by omega), g14, g15, g16, g17, hP, up4]; rfl)
                  refine R_aload_0 hX dX12_sends_208 ?_
                  refine R_iload_1 hX dX12_sends_209 ?_
                  refine R_iload_2 hX dX12_sends_210 ?_
                  refine R_iload_3 hX dX12_sends_211 ?_
                  refine R_v3v hX dX12_sends_212 li_X12_258 mk_X12_logs mi_X12_logs rfl o_136 (r_logs (by rw [hH2]; exact hGG)) ⟨⟨by decide, by decide⟩, by decide, by decide, rfl, Nat.le_of_ble_eq_true rfl, rfl⟩ (fun x_212 F_212 h_212 => ?_)
                  subst h_212
                  exact R_vret hX dX12_sends_215 ⟨by show vw 0 (lgR l c f H) = _; rw [vl_log, hvH, hH0]; rfl, hfrH.lg⟩
                · skip
                  refine R_aload_0 hX dX12_sends_156 ?_
                  refine R_getq (v := 137) hX dX12_sends_157 fl_X12_7 o_136 rfl (by omega) ?_
                  refine R_bipush hX dX12_sends_160 (by decide) ?_
                  refine R_iload_1 hX dX12_sends_162 ?_
                  refine R_iadd hX dX12_sends_163 ?_
                  refine R_dup2 hX c1_i c1_r dX12_sends_164 ?_
                  refine R_iald hX dX12_sends_165 a_137 ⟨by omega, by omega⟩ ?_
                  refine R_iload_2 hX dX12_sends_166 ?_
                  refine R_iadd hX dX12_sends_167 ?_
                  refine R_iast hX dX12_sends_168 a_137 ⟨by omega, by omega⟩ ?_
                  refine R_aload_0 hX dX12_sends_169 ?_
                  refine R_getq (v := 137) hX dX12_sends_170 fl_X12_7 o_136 rfl (by omega) ?_
                  refine R_bipush hX dX12_sends_173 (by decide) ?_
                  refine R_iload_3 hX dX12_sends_175 ?_
                  refine R_iadd hX dX12_sends_176 ?_
                  refine R_dup2 hX c1_i c1_r dX12_sends_177 ?_
                  refine R_iald hX dX12_sends_178 a_137 ⟨by omega, by omega⟩ ?_
                  refine R_iload_2 hX dX12_sends_179 ?_
                  refine R_iadd hX dX12_sends_180 ?_
                  refine R_iast hX dX12_sends_181 a_137 ⟨by omega, by omega⟩ ?_
                  refine R_aload_0 hX dX12_sends_182 ?_
                  refine R_getq (v := 137) hX dX12_sends_183 fl_X12_7 o_136 rfl (by omega) ?_
                  refine R_bipush hX dX12_sends_186 (by decide) ?_
                  refine R_iload_1 hX dX12_sends_188 ?_
                  refine R_iadd hX dX12_sends_189 ?_
                  refine R_dup2 hX c1_i c1_r dX12_sends_190 ?_
                  refine R_iald hX dX12_sends_191 a_137 ⟨by omega, by omega⟩ ?_
                  refine R_iload_2 hX dX12_sends_192 ?_
                  refine R_iadd hX dX12_sends_193 ?_
                  refine R_iast hX dX12_sends_194 a_137 ⟨by omega, by omega⟩ ?_
                  refine R_aload_0 hX dX12_sends_195 ?_
                  refine R_getq (v := 137) hX dX12_sends_196 fl_X12_7 o_136 rfl (by omega) ?_
                  refine R_bipush hX dX12_sends_199 (by decide) ?_
                  refine R_iload_1 hX dX12_sends_201 ?_
                  refine R_iadd hX dX12_sends_202 ?_
                  refine R_dup2 hX c1_i c1_r dX12_sends_203 ?_
                  refine R_iald hX dX12_sends_204 a_137 ⟨by omega, by omega⟩ ?_
                  refine R_iconst hX dX12_sends_205 ?_
                  refine R_iadd hX dX12_sends_206 ?_
                  refine R_iast hX dX12_sends_207 a_137 ⟨by omega, by omega⟩ ?_
                  refine R.gen (fun H hH => ?_)
                  have hfrH : Fr F H := by
                    subst hH
                    first | exact (iv97_2.up (by omega)).up (by omega) | exact (((iv97_2.up (by omega)).up (by omega)).up (by omega)).up (by omega)
                  have hH2 : H 137 2 = F 137 2 := by
                    subst hH
                    simp (disch := omega) only [up_i]
                    exact hG2
                  have hH0 : H 137 0 = F 137 0 := by
                    subst hH
                    simp (disch := omega) only [up_i]
                    exact hG0
                  have hvH : vw 0 H = cntS 1000 l f c (payS 1000 1100 l f c (vw 0 F)) := by
                    subst hH
                    simp (disch := omega) only [up_i]
                    rw [vu_15 (by omega), vu_14 (by omega)]
                    unfold cntS
                    first
                      | (rw [if_pos (by omega), g14, g15, hP]; rfl)
                      | (rw [if_neg (by omega), vu_17 (by omega), vu_16 (by omega), g14, g15, g16, g17, hP, up4]; rfl)
                  refine R_aload_0 hX dX12_sends_208 ?_
                  refine R_iload_1 hX dX12_sends_209 ?_
                  refine R_iload_2 hX dX12_sends_210 ?_
                  refine R_iload_3 hX dX12_sends_211 ?_
                  refine R_v3v hX dX12_sends_212 li_X12_258 mk_X12_logs mi_X12_logs rfl o_136 (r_logs (by rw [hH2]; exact hGG)) ⟨⟨by decide, by decide⟩, by decide, by decide, rfl, Nat.le_of_ble_eq_true rfl, rfl⟩ (fun x_212 F_212 h_212 => ?_)
                  subst h_212
                  exact R_vret hX dX12_sends_215 ⟨by show vw 0 (lgR l c f H) = _; rw [vl_log, hvH, hH0]; rfl, hfrH.lg⟩
              · skip
                have hp := hT x (by omega) (by omega)
                have ha := hA x (by omega) (by omega)
                have hs := hSS x (by omega) (by omega)
                have e5 := vw_5 (F := G) (n := x) (by omega)
                have e5c := vw_5 (F := F) (n := x) (by omega)
                have e5b : vw 0 G 1005 x = vw 0 F 1005 x := by rw [iv97_3.2.1, if_neg (by omega)]
                have hnext0 : ∀ y : Int, y = vw 0 F 1005 x - min (vw 0 F 1005 x) c → (∀ i : Int, vw 0 (up G 137 (3 + x) y) 1007 i = if onP (F 141) 13 l i = true then vw 0 F 1007 i - c else vw 0 F 1007 i) ∧ (∀ i : Int, vw 0 (up G 137 (3 + x) y) 1005 i = if i = f ∨ (F 141 x < i ∧ i < f ∧ onP (F 141) 13 l i = true) then vw 0 F 1005 i - min (vw 0 F 1005 i) c else vw 0 F 1005 i) ∧ (∀ i : Int, vw 0 (up G 137 (3 + x) y) 1006 i = if i = f then vw 0 F 1006 i - (c - min (vw 0 F 1005 f) c) else vw 0 F 1006 i) ∧ (∀ (a i : Int), a ≠ 1005 → a ≠ 1006 → a ≠ 1007 → vw 0 (up G 137 (3 + x) y) a i = vw 0 F a i) := by
                  intro y hy
                  rw [vu_5 (by omega), hy]
                  exact ⟨fun i => by rw [up_k (by decide)]; exact iv97_3.1 i, st3 hT (by omega) (by omega) (by omega) (by omega) iv97_1 iv97_3.2.1, fun i => by rw [up_k (by decide)]; exact iv97_3.2.2.1 i, fun a i z1 z2 z3 => by rw [up_k z1]; exact iv97_3.2.2.2 a i z1 z2 z3⟩
                refine R_aload_0 hX dX12_sends_102 ?_
                refine R_getq (v := 137) hX dX12_sends_103 fl_X12_7 o_136 rfl (by omega) ?_
                refine R_iconst hX dX12_sends_106 ?_
                refine R_iload_5 hX dX12_sends_107 ?_
                refine R_iadd hX dX12_sends_109 ?_
                refine R_aload_0 hX dX12_sends_110 ?_
                refine R_getq (v := 137) hX dX12_sends_111 fl_X12_7 o_136 rfl (by omega) ?_
                refine R_iconst hX dX12_sends_114 ?_
                refine R_iload_5 hX dX12_sends_115 ?_
                refine R_iadd hX dX12_sends_117 ?_
                refine R_iald hX dX12_sends_118 a_137 ⟨by omega, by omega⟩ ?_
                refine R_iload_2 hX dX12_sends_119 ?_
                refine R_icmple (tgt := 137) hX dX12_sends_120 (by decide) (by rw [← e5, e5b]; constructor <;> omega) ⟨by omega, by omega⟩ (fun c_120 => ?_) (fun c_120 => ?_)
                · skip
                  refine R_iconst hX dX12_sends_137 ?_
                  refine R_iast hX dX12_sends_138 a_137 ⟨by omega, by omega⟩ ?_
                  have hnext := hnext0 _ (show _ = vw 0 F 1005 x - min (vw 0 F 1005 x) c from by first | (show G 137 (3 + x) - c = _; omega) | (show (0 : Int) = _; omega))
                  refine R_aload_0 hX dX12_sends_139 ?_
                  refine R_getq (v := 141) hX dX12_sends_140 fl_X12_31 o_136 rfl (by omega) ?_
                  refine R_iload_5 hX dX12_sends_143 ?_
                  refine R_iald hX dX12_sends_145 a_141 ⟨by omega, by omega⟩ ?_
                  rw [up_k (by decide), g141]
                  refine R_istore_5 hX c1_n dX12_sends_146 ?_
                  refine R_goto (tgt := 97) hX dX12_sends_148 (by decide) ?_
                  exact ih_97 (k - 1) _ _ (by omega) (onP_step hT (by omega) (by omega) (by omega) iv97_1).2.2 (iv97_2.up (by omega)) hnext (by omega)
                · skip
                  refine R_aload_0 hX dX12_sends_123 ?_
                  refine R_getq (v := 137) hX dX12_sends_124 fl_X12_7 o_136 rfl (by omega) ?_
                  refine R_iconst hX dX12_sends_127 ?_
                  refine R_iload_5 hX dX12_sends_128 ?_
                  refine R_iadd hX dX12_sends_130 ?_
                  refine R_iald hX dX12_sends_131 a_137 ⟨by omega, by omega⟩ ?_
                  refine R_iload_2 hX dX12_sends_132 ?_
                  refine R_isub hX dX12_sends_133 ?_
                  refine R_goto (tgt := 138) hX dX12_sends_134 (by decide) ?_
                  refine R_iast hX dX12_sends_138 a_137 ⟨by omega, by omega⟩ ?_
                  have hnext := hnext0 _ (show _ = vw 0 F 1005 x - min (vw 0 F 1005 x) c from by first | (show G 137 (3 + x) - c = _; omega) | (show (0 : Int) = _; omega))
                  refine R_aload_0 hX dX12_sends_139 ?_
                  refine R_getq (v := 141) hX dX12_sends_140 fl_X12_31 o_136 rfl (by omega) ?_
                  refine R_iload_5 hX dX12_sends_143 ?_
                  refine R_iald hX dX12_sends_145 a_141 ⟨by omega, by omega⟩ ?_
                  rw [up_k (by decide), g141]
                  refine R_istore_5 hX c1_n dX12_sends_146 ?_
                  refine R_goto (tgt := 97) hX dX12_sends_148 (by decide) ?_
                  exact ih_97 (k - 1) _ _ (by omega) (onP_step hT (by omega) (by omega) (by omega) iv97_1).2.2 (iv97_2.up (by omega)) hnext (by omega)
          refine R_drop_4 ?_
          exact lp_97 20 (j - 1) _ _ (by omega) (onP_step hT (by omega) (by omega) hj1 hj2).2.2 hfr2 h3in (by omega)
        · skip
          refine R_aload_0 hX dX12_sends_46 ?_
          refine R_getq (v := 137) hX dX12_sends_47 fl_X12_7 o_136 rfl (by omega) ?_
          refine R_iconst hX dX12_sends_50 ?_
          refine R_iload_3 hX dX12_sends_51 ?_
          refine R_iadd hX dX12_sends_52 ?_
          refine R_iald hX dX12_sends_53 a_137 ⟨by omega, by omega⟩ ?_
          refine R_goto (tgt := 58) hX dX12_sends_54 (by decide) ?_
          refine R_istore_4 hX c1_i dX12_sends_58 ?_
          skip
          refine R_aload_0 hX dX12_sends_60 ?_
          refine R_getq (v := 137) hX dX12_sends_61 fl_X12_7 o_136 rfl (by omega) ?_
          refine R_iconst hX dX12_sends_64 ?_
          refine R_iload_3 hX dX12_sends_65 ?_
          refine R_iadd hX dX12_sends_66 ?_
          refine R_dup2 hX c1_i c1_r dX12_sends_67 ?_
          refine R_iald hX dX12_sends_68 a_137 ⟨by omega, by omega⟩ ?_
          refine R_iload_4 hX dX12_sends_69 ?_
          refine R_isub hX dX12_sends_71 ?_
          refine R_iast hX dX12_sends_72 a_137 ⟨by omega, by omega⟩ ?_
          refine R_aload_0 hX dX12_sends_73 ?_
          refine R_getq (v := 137) hX dX12_sends_74 fl_X12_7 o_136 rfl (by omega) ?_
          refine R_bipush hX dX12_sends_77 (by decide) ?_
          refine R_iload_3 hX dX12_sends_79 ?_
          refine R_iadd hX dX12_sends_80 ?_
          refine R_dup2 hX c1_i c1_r dX12_sends_81 ?_
          refine R_iald hX dX12_sends_82 a_137 ⟨by omega, by omega⟩ ?_
          refine R_iload_2 hX dX12_sends_83 ?_
          refine R_iload_4 hX dX12_sends_84 ?_
          refine R_isub hX dX12_sends_86 ?_
          refine R_isub hX dX12_sends_87 ?_
          refine R_iast hX dX12_sends_88 a_137 ⟨by omega, by omega⟩ ?_
          have hfr2 := (iv3_2.up (j := 3 + f) (x := vw 0 F 1005 f - min (vw 0 F 1005 f) c) (by omega)).up (j := 15 + f) (x := vw 0 F 1006 f - (c - min (vw 0 F 1005 f) c)) (by omega)
          have hcut : ∀ i : Int, onP (F 141) 13 l i = true → x < i := fun i z => by have := onP_le hT _ _ _ hl.2 z; omega
          refine R.eq rfl rfl (show _ = up (up G 137 (3 + f) (vw 0 F 1005 f - min (vw 0 F 1005 f) c)) 137 (15 + f) (vw 0 F 1006 f - (c - min (vw 0 F 1005 f) c)) by rw [up_i (show (15 : Int) + f ≠ 3 + f by omega), w5, w6]; congr 1; congr 1; omega; omega) ?_
          have h3in : (∀ i : Int, vw 0 (up (up G 137 (3 + f) (vw 0 F 1005 f - min (vw 0 F 1005 f) c)) 137 (15 + f) (vw 0 F 1006 f - (c - min (vw 0 F 1005 f) c))) 1007 i = if onP (F 141) 13 l i = true then vw 0 F 1007 i - c else vw 0 F 1007 i) ∧ (∀ i : Int, vw 0 (up (up G 137 (3 + f) (vw 0 F 1005 f - min (vw 0 F 1005 f) c)) 137 (15 + f) (vw 0 F 1006 f - (c - min (vw 0 F 1005 f) c))) 1005 i = if i = f ∨ (F 141 f < i ∧ i < f ∧ onP (F 141) 13 l i = true) then vw 0 F 1005 i - min (vw 0 F 1005 i) c else vw 0 F 1005 i) ∧ (∀ i : Int, vw 0 (up (up G 137 (3 + f) (vw 0 F 1005 f - min (vw 0 F 1005 f) c)) 137 (15 + f) (vw 0 F 1006 f - (c - min (vw 0 F 1005 f) c))) 1006 i = if i = f then vw 0 F 1006 i - (c - min (vw 0 F 1005 f) c) else vw 0 F 1006 i) ∧ (∀ (a i : Int), a ≠ 1005 → a ≠ 1006 → a ≠ 1007 → vw 0 (up (up G 137 (3 + f) (vw 0 F 1005 f - min (vw 0 F 1005 f) c)) 137 (15 + f) (vw 0 F 1006 f - (c - min (vw 0 F 1005 f) c))) a i = vw 0 F a i) := by
            rw [vu_6 (by omega), vu_5 (by omega)]
            refine ⟨fun i => ?_, fun i => ?_, fun i => ?_, fun a i z1 z2 z3 => ?_⟩
            · rw [up_k (by decide), up_k (by decide), iv3_3.1]
              by_cases o : onP (F 141) 13 l i = true
              · rw [if_pos ⟨hcut i o, o⟩, if_pos o]
              · rw [if_neg (fun z => o z.2), if_neg o]
            · rw [up_k (by decide)]
              by_cases q : i = f
              · subst q; rw [up_s, if_pos (Or.inl rfl)]
              · rw [up_i q, iv3_3.2 1005 i (by decide), if_neg]
                intro z
                rcases z with z | z
                · exact q z
                · have := (onP_step hT hf.1 (by omega) hj1 hj2).2.1 i z.1 z.2.1
                  rw [this] at z; exact absurd z.2.2 (by decide)
            · by_cases q : i = f
              · subst q; rw [up_s, if_pos rfl]
              · rw [up_i q, up_k (by decide), iv3_3.2 1006 i (by decide), if_neg q]
            · rw [up_k z2, up_k z1]; exact iv3_3.2 a i z3
          refine R_aload_0 hX dX12_sends_89 ?_
          refine R_getq (v := 141) hX dX12_sends_90 fl_X12_31 o_136 rfl (by omega) ?_
          refine R_iload_3 hX dX12_sends_93 ?_
          refine R_iald hX dX12_sends_94 a_141 ⟨by omega, by omega⟩ ?_
          simp (disch := omega) only [up_k, g141]
          refine R_istore_5 hX c1_i dX12_sends_95 ?_
          have lp_97 : ∀ (n : Nat) (k : Nat) (x : Int) (G : Hp), (-2 ≤ x ∧ x < F 136 3 ∧ x < k ∧ x < f) → (∀ i : Int, i ≤ x → onP (F 141) 13 l i = onP (F 141) k x i) → (Fr F G) → ((∀ i : Int, vw 0 G 1007 i = if onP (F 141) 13 l i = true then vw 0 F 1007 i - c else vw 0 F 1007 i) ∧ (∀ i : Int, vw 0 G 1005 i = if i = f ∨ (x < i ∧ i < f ∧ onP (F 141) 13 l i = true) then vw 0 F 1005 i - min (vw 0 F 1005 i) c else vw 0 F 1005 i) ∧ (∀ i : Int, vw 0 G 1006 i = if i = f then vw 0 F 1006 i - (c - min (vw 0 F 1005 f) c) else vw 0 F 1006 i) ∧ (∀ (a i : Int), a ≠ 1005 → a ≠ 1006 → a ≠ 1007 → vw 0 G a i = vw 0 F a i)) → (x + 3).toNat < n → R X SH 0 0 97 [some (vr (xV X) 136), some (vi l), some (vi c), some (vi f), none, some (vi x)] [] G (Zq X SH 0 (fun r F' => vw 0 F' = sndS 1000 1100 l f c (vw 0 F) ∧ Fr F F') 0 0) := by
            intro n
            induction n with
            | zero => intro k x G iv97_0 iv97_1 iv97_2 iv97_3 hm; exact absurd hm (Nat.not_lt_zero _)
            | succ n ih_97 =>
              intro k x G iv97_0 iv97_1 iv97_2 iv97_3 hm_97
              have g141 : ∀ i : Int, G 141 i = F 141 i := fun i => by rw [iv97_2.1 141 (by decide)]
              refine R_iload_5 hX dX12_sends_97 ?_
              refine R_iflt (tgt := 151) hX dX12_sends_99 (by decide) ⟨by omega, by omega⟩ (fun c_99 => ?_) (fun c_99 => ?_)
              · skip
                have hP : vw 0 G = payS 1000 1100 l f c (vw 0 F) := ref_pay hT hl.2 hon vw_1102 iv97_3.1 (fun i => by rw [iv97_3.2.1]; by_cases o : onP (F 141) 13 l i = true ∧ i ≤ f; (rw [if_pos o, if_pos (by by_cases q : i = f; exact Or.inl q; exact Or.inr ⟨by have := onP_le hT _ _ _ hl.2 o.1; omega, by omega, o.1⟩)]); (rw [if_neg o, if_neg (fun z => by rcases z with z | z; (subst z; exact o ⟨hon, Int.le_refl _⟩); exact o ⟨z.2.2, by omega⟩)])) iv97_3.2.2.1 iv97_3.2.2.2
                have g14 : G 137 (39 + l) = vw 0 G 1014 l := (vw_14 (by omega)).symm
                have g15 : G 137 (51 + l) = vw 0 G 1015 l := (vw_15 (by omega)).symm
                have g16 : G 137 (63 + l) = vw 0 G 1016 l := (vw_16 (by omega)).symm
                have g17 : G 137 (75 + f) = vw 0 G 1017 f := (vw_17 (by omega)).symm
                have hG2 : G 137 2 = F 137 2 := by have := congrFun (congrFun hP 1019) 0; rw [payS_r (by omega)] at this; exact this
                have hG0 : G 137 0 = F 137 0 := by have := congrFun (congrFun hP 1000) 1; rw [payS_r (by omega)] at this; exact this
                refine R_iload_3 hX dX12_sends_151 ?_
                refine R_iload_1 hX dX12_sends_152 ?_
                refine R_icmpeq (tgt := 182) hX dX12_sends_153 (by decide) ⟨by omega, by omega⟩ ⟨by omega, by omega⟩ (fun c_153 => ?_) (fun c_153 => ?_)
                · skip
                  refine R_aload_0 hX dX12_sends_182 ?_
                  refine R_getq (v := 137) hX dX12_sends_183 fl_X12_7 o_136 rfl (by omega) ?_
                  refine R_bipush hX dX12_sends_186 (by decide) ?_
                  refine R_iload_1 hX dX12_sends_188 ?_
                  refine R_iadd hX dX12_sends_189 ?_
                  refine R_dup2 hX c1_i c1_r dX12_sends_190 ?_
                  refine R_iald hX dX12_sends_191 a_137 ⟨by omega, by omega⟩ ?_
                  refine R_iload_2 hX dX12_sends_192 ?_
                  refine R_iadd hX dX12_sends_193 ?_
                  refine R_iast hX dX12_sends_194 a_137 ⟨by omega, by omega⟩ ?_
                  refine R_aload_0 hX dX12_sends_195 ?_
                  refine R_getq (v := 137) hX dX12_sends_196 fl_X12_7 o_136 rfl (by omega) ?_
                  refine R_bipush hX dX12_sends_199 (by decide) ?_
                  refine R_iload_1 hX dX12_sends_201 ?_
                  refine R_iadd hX dX12_sends_202 ?_
                  refine R_dup2 hX c1_i c1_r dX12_sends_203 ?_
                  refine R_iald hX dX12_sends_204 a_137 ⟨by omega, by omega⟩ ?_
                  refine R_iconst hX dX12_sends_205 ?_
                  refine R_iadd hX dX12_sends_206 ?_
                  refine R_iast hX dX12_sends_207 a_137 ⟨by omega, by omega⟩ ?_
                  refine R.gen (fun H hH => ?_)
                  have hfrH : Fr F H := by
                    subst hH
                    first | exact (iv97_2.up (by omega)).up (by omega) | exact (((iv97_2.up (by omega)).up (by omega)).up (by omega)).up (by omega)
                  have hH2 : H 137 2 = F 137 2 := by
                    subst hH
                    simp (disch := omega) only [up_i]
                    exact hG2
                  have hH0 : H 137 0 = F 137 0 := by
                    subst hH
                    simp (disch := omega) only [up_i]
                    exact hG0
                  have hvH : vw 0 H = cntS 1000 l f c (payS 1000 1100 l f c (vw 0 F)) := by
                    subst hH
                    simp (disch := omega) only [up_i]
                    rw [vu_15 (by omega), vu_14 (by omega)]
                    unfold cntS
                    first
                      | (rw [if_pos (by omega), g14, g15, hP]; rfl)
                      | (rw [if_neg (by omega), vu_17 (by omega), vu_16 (by omega), g14, g15, g16, g17, hP, up4]; rfl)
                  refine R_aload_0 hX dX12_sends_208 ?_
                  refine R_iload_1 hX dX12_sends_209 ?_
                  refine R_iload_2 hX dX12_sends_210 ?_
                  refine R_iload_3 hX dX12_sends_211 ?_
                  refine R_v3v hX dX12_sends_212 li_X12_258 mk_X12_logs mi_X12_logs rfl o_136 (r_logs (by rw [hH2]; exact hGG)) ⟨⟨by decide, by decide⟩, by decide, by decide, rfl, Nat.le_of_ble_eq_true rfl, rfl⟩ (fun x_212 F_212 h_212 => ?_)
                  subst h_212
                  exact R_vret hX dX12_sends_215 ⟨by show vw 0 (lgR l c f H) = _; rw [vl_log, hvH, hH0]; rfl, hfrH.lg⟩
                · skip
                  refine R_aload_0 hX dX12_sends_156 ?_
                  refine R_getq (v := 137) hX dX12_sends_157 fl_X12_7 o_136 rfl (by omega) ?_
                  refine R_bipush hX dX12_sends_160 (by decide) ?_
                  refine R_iload_1 hX dX12_sends_162 ?_
                  refine R_iadd hX dX12_sends_163 ?_
                  refine R_dup2 hX c1_i c1_r dX12_sends_164 ?_
                  refine R_iald hX dX12_sends_165 a_137 ⟨by omega, by omega⟩ ?_
                  refine R_iload_2 hX dX12_sends_166 ?_
                  refine R_iadd hX dX12_sends_167 ?_
                  refine R_iast hX dX12_sends_168 a_137 ⟨by omega, by omega⟩ ?_
                  refine R_aload_0 hX dX12_sends_169 ?_
                  refine R_getq (v := 137) hX dX12_sends_170 fl_X12_7 o_136 rfl (by omega) ?_
                  refine R_bipush hX dX12_sends_173 (by decide) ?_
                  refine R_iload_3 hX dX12_sends_175 ?_
                  refine R_iadd hX dX12_sends_176 ?_
                  refine R_dup2 hX c1_i c1_r dX12_sends_177 ?_
                  refine R_iald hX dX12_sends_178 a_137 ⟨by omega, by omega⟩ ?_
                  refine R_iload_2 hX dX12_sends_179 ?_
                  refine R_iadd hX dX12_sends_180 ?_
                  refine R_iast hX dX12_sends_181 a_137 ⟨by omega, by omega⟩ ?_
                  refine R_aload_0 hX dX12_sends_182 ?_
                  refine R_getq (v := 137) hX dX12_sends_183 fl_X12_7 o_136 rfl (by omega) ?_
                  refine R_bipush hX dX12_sends_186 (by decide) ?_
                  refine R_iload_1 hX dX12_sends_188 ?_
                  refine R_iadd hX dX12_sends_189 ?_
                  refine R_dup2 hX c1_i c1_r dX12_sends_190 ?_
                  refine R_iald hX dX12_sends_191 a_137 ⟨by omega, by omega⟩ ?_
                  refine R_iload_2 hX dX12_sends_192 ?_
                  refine R_iadd hX dX12_sends_193 ?_
                  refine R_iast hX dX12_sends_194 a_137 ⟨by omega, by omega⟩ ?_
                  refine R_aload_0 hX dX12_sends_195 ?_
                  refine R_getq (v := 137) hX dX12_sends_196 fl_X12_7 o_136 rfl (by omega) ?_
                  refine R_bipush hX dX12_sends_199 (by decide) ?_
                  refine R_iload_1 hX dX12_sends_201 ?_
                  refine R_iadd hX dX12_sends_202 ?_
                  refine R_dup2 hX c1_i c1_r dX12_sends_203 ?_
                  refine R_iald hX dX12_sends_204 a_137 ⟨by omega, by omega⟩ ?_
                  refine R_iconst hX dX12_sends_205 ?_
                  refine R_iadd hX dX12_sends_206 ?_
                  refine R_iast hX dX12_sends_207 a_137 ⟨by omega, by omega⟩ ?_
                  refine R.gen (fun H hH => ?_)
                  have hfrH : Fr F H := by
                    subst hH
                    first | exact (iv97_2.up (by omega)).up (by omega) | exact (((iv97_2.up (by omega)).up (by omega)).up (by omega)).up (by omega)
                  have hH2 : H 137 2 = F 137 2 := by
                    subst hH
                    simp (disch := omega) only [up_i]
                    exact hG2
                  have hH0 : H 137 0 = F 137 0 := by
                    subst hH
                    simp (disch := omega) only [up_i]
                    exact hG0
                  have hvH : vw 0 H = cntS 1000 l f c (payS 1000 1100 l f c (vw 0 F)) := by
                    subst hH
                    simp (disch := omega) only [up_i]
                    rw [vu_15 (by omega), vu_14 (by omega)]
                    unfold cntS
                    first
                      | (rw [if_pos (by omega), g14, g15, hP]; rfl)
                      | (rw [if_neg (by omega), vu_17 (by omega), vu_16 (by omega), g14, g15, g16, g17, hP, up4]; rfl)
                  refine R_aload_0 hX dX12_sends_208 ?_
                  refine R_iload_1 hX dX12_sends_209 ?_
                  refine R_iload_2 hX dX12_sends_210 ?_
                  refine R_iload_3 hX dX12_sends_211 ?_
                  refine R_v3v hX dX12_sends_212 li_X12_258 mk_X12_logs mi_X12_logs rfl o_136 (r_logs (by rw [hH2]; exact hGG)) ⟨⟨by decide, by decide⟩, by decide, by decide, rfl, Nat.le_of_ble_eq_true rfl, rfl⟩ (fun x_212 F_212 h_212 => ?_)
                  subst h_212
                  exact R_vret hX dX12_sends_215 ⟨by show vw 0 (lgR l c f H) = _; rw [vl_log, hvH, hH0]; rfl, hfrH.lg⟩
              · skip
                have hp := hT x (by omega) (by omega)
                have ha := hA x (by omega) (by omega)
                have hs := hSS x (by omega) (by omega)
                have e5 := vw_5 (F := G) (n := x) (by omega)
                have e5c := vw_5 (F := F) (n := x) (by omega)
                have e5b : vw 0 G 1005 x = vw 0 F 1005 x := by rw [iv97_3.2.1, if_neg (by omega)]
                have hnext0 : ∀ y : Int, y = vw 0 F 1005 x - min (vw 0 F 1005 x) c → (∀ i : Int, vw 0 (up G 137 (3 + x) y) 1007 i = if onP (F 141) 13 l i = true then vw 0 F 1007 i - c else vw 0 F 1007 i) ∧ (∀ i : Int, vw 0 (up G 137 (3 + x) y) 1005 i = if i = f ∨ (F 141 x < i ∧ i < f ∧ onP (F 141) 13 l i = true) then vw 0 F 1005 i - min (vw 0 F 1005 i) c else vw 0 F 1005 i) ∧ (∀ i : Int, vw 0 (up G 137 (3 + x) y) 1006 i = if i = f then vw 0 F 1006 i - (c - min (vw 0 F 1005 f) c) else vw 0 F 1006 i) ∧ (∀ (a i : Int), a ≠ 1005 → a ≠ 1006 → a ≠ 1007 → vw 0 (up G 137 (3 + x) y) a i = vw 0 F a i) := by
                  intro y hy
                  rw [vu_5 (by omega), hy]
                  exact ⟨fun i => by rw [up_k (by decide)]; exact iv97_3.1 i, st3 hT (by omega) (by omega) (by omega) (by omega) iv97_1 iv97_3.2.1, fun i => by rw [up_k (by decide)]; exact iv97_3.2.2.1 i, fun a i z1 z2 z3 => by rw [up_k z1]; exact iv97_3.2.2.2 a i z1 z2 z3⟩
                refine R_aload_0 hX dX12_sends_102 ?_
                refine R_getq (v := 137) hX dX12_sends_103 fl_X12_7 o_136 rfl (by omega) ?_
                refine R_iconst hX dX12_sends_106 ?_
                refine R_iload_5 hX dX12_sends_107 ?_
                refine R_iadd hX dX12_sends_109 ?_
                refine R_aload_0 hX dX12_sends_110 ?_
                refine R_getq (v := 137) hX dX12_sends_111 fl_X12_7 o_136 rfl (by omega) ?_
                refine R_iconst hX dX12_sends_114 ?_
                refine R_iload_5 hX dX12_sends_115 ?_
                refine R_iadd hX dX12_sends_117 ?_
                refine R_iald hX dX12_sends_118 a_137 ⟨by omega, by omega⟩ ?_
                refine R_iload_2 hX dX12_sends_119 ?_
                refine R_icmple (tgt := 137) hX dX12_sends_120 (by decide) (by rw [← e5, e5b]; constructor <;> omega) ⟨by omega, by omega⟩ (fun c_120 => ?_) (fun c_120 => ?_)
                · skip
                  refine R_iconst hX dX12_sends_137 ?_
                  refine R_iast hX dX12_sends_138 a_137 ⟨by omega, by omega⟩ ?_
                  have hnext := hnext0 _ (show _ = vw 0 F 1005 x - min (vw 0 F 1005 x) c from by first | (show G 137 (3 + x) - c = _; omega) | (show (0 : Int) = _; omega))
                  refine R_aload_0 hX dX12_sends_139 ?_
                  refine R_getq (v := 141) hX dX12_sends_140 fl_X12_31 o_136 rfl (by omega) ?_
                  refine R_iload_5 hX dX12_sends_143 ?_
                  refine R_iald hX dX12_sends_145 a_141 ⟨by omega, by omega⟩ ?_
                  rw [up_k (by decide), g141]
                  refine R_istore_5 hX c1_n dX12_sends_146 ?_
                  refine R_goto (tgt := 97) hX dX12_sends_148 (by decide) ?_
                  exact ih_97 (k - 1) _ _ (by omega) (onP_step hT (by omega) (by omega) (by omega) iv97_1).2.2 (iv97_2.up (by omega)) hnext (by omega)
                · skip
                  refine R_aload_0 hX dX12_sends_123 ?_
                  refine R_getq (v := 137) hX dX12_sends_124 fl_X12_7 o_136 rfl (by omega) ?_
                  refine R_iconst hX dX12_sends_127 ?_
                  refine R_iload_5 hX dX12_sends_128 ?_
                  refine R_iadd hX dX12_sends_130 ?_
                  refine R_iald hX dX12_sends_131 a_137 ⟨by omega, by omega⟩ ?_
                  refine R_iload_2 hX dX12_sends_132 ?_
                  refine R_isub hX dX12_sends_133 ?_
                  refine R_goto (tgt := 138) hX dX12_sends_134 (by decide) ?_
                  refine R_iast hX dX12_sends_138 a_137 ⟨by omega, by omega⟩ ?_
                  have hnext := hnext0 _ (show _ = vw 0 F 1005 x - min (vw 0 F 1005 x) c from by first | (show G 137 (3 + x) - c = _; omega) | (show (0 : Int) = _; omega))
                  refine R_aload_0 hX dX12_sends_139 ?_
                  refine R_getq (v := 141) hX dX12_sends_140 fl_X12_31 o_136 rfl (by omega) ?_
                  refine R_iload_5 hX dX12_sends_143 ?_
                  refine R_iald hX dX12_sends_145 a_141 ⟨by omega, by omega⟩ ?_
                  rw [up_k (by decide), g141]
                  refine R_istore_5 hX c1_n dX12_sends_146 ?_
                  refine R_goto (tgt := 97) hX dX12_sends_148 (by decide) ?_
                  exact ih_97 (k - 1) _ _ (by omega) (onP_step hT (by omega) (by omega) (by omega) iv97_1).2.2 (iv97_2.up (by omega)) hnext (by omega)
          refine R_drop_4 ?_
          exact lp_97 20 (j - 1) _ _ (by omega) (onP_step hT (by omega) (by omega) hj1 hj2).2.2 hfr2 h3in (by omega)
      · skip
        have hp := hT x (by omega) (by omega)
        have e7 := vw_7 (F := G) (n := x) (by omega)
        have e7b : vw 0 G 1007 x = vw 0 F 1007 x := by rw [iv3_3.1, if_neg (by omega)]
        have hnext : (∀ i : Int, vw 0 (up G 137 (27 + x) (G 137 (27 + x) - c)) 1007 i = if F 141 x < i ∧ onP (F 141) 13 l i = true then vw 0 F 1007 i - c else vw 0 F 1007 i) ∧ (∀ (a i : Int), a ≠ 1007 → vw 0 (up G 137 (27 + x) (G 137 (27 + x) - c)) a i = vw 0 F a i) := by
          rw [vu_7 (by omega), ← e7, e7b]
          exact ⟨st1 hT (by omega) (by omega) (by omega) iv3_1 iv3_3.1, fun a i z => by rw [up_k z]; exact iv3_3.2 a i z⟩
        refine R_aload_0 hX dX12_sends_8 ?_
        refine R_getq (v := 137) hX dX12_sends_9 fl_X12_7 o_136 rfl (by omega) ?_
        refine R_bipush hX dX12_sends_12 (by decide) ?_
        refine R_iload_4 hX dX12_sends_14 ?_
        refine R_iadd hX dX12_sends_16 ?_
        refine R_dup2 hX c1_i c1_r dX12_sends_17 ?_
        refine R_iald hX dX12_sends_18 a_137 ⟨by omega, by omega⟩ ?_
        refine R_iload_2 hX dX12_sends_19 ?_
        refine R_isub hX dX12_sends_20 ?_
        refine R_iast hX dX12_sends_21 a_137 ⟨by omega, by omega⟩ ?_
        refine R_aload_0 hX dX12_sends_22 ?_
        refine R_getq (v := 141) hX dX12_sends_23 fl_X12_31 o_136 rfl (by omega) ?_
        refine R_iload_4 hX dX12_sends_26 ?_
        refine R_iald hX dX12_sends_28 a_141 ⟨by omega, by omega⟩ ?_
        rw [up_k (by decide), g141]
        refine R_istore_4 hX c1_i dX12_sends_29 ?_
        refine R_goto (tgt := 3) hX dX12_sends_31 (by decide) ?_
        exact ih_3 (k - 1) _ _ (by omega) (onP_step hT (by omega) (by omega) (by omega) iv3_1).2.2 (iv3_2.up (by omega)) hnext (by omega)
  exact lp_3 20 13 _ _ (by omega) (fun i _ => rfl) Fr.rf ⟨fun i => (if_neg (fun z => by have := onP_le hT _ _ _ hl.2 z.2; omega)).symm, fun _ _ _ => rfl⟩ (by omega)
