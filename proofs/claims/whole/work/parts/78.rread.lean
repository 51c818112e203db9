theorem rsS_r {d : Int} {F : Hp} {a i : Int} (h : (a ≠ 136 ∧ a ≠ 148 ∧ a ≠ 149) ∨ (a = 136 ∧ i ≠ 15 ∧ i ≠ 16 ∧ i ≠ 17 ∧ i ≠ 18 ∧ i ≠ 21 ∧ i ≠ 19 ∧ i ≠ 20)) : rsS d F a i = F a i := by
  unfold rsS
  split
  · rw [up_k (by omega)]; unfold rsA; rw [sc_r (by omega), up_k (by omega), mu_r (by omega)]
  · rw [up_k (by omega), rnS_r (by omega)]; unfold rsA; rw [sc_r (by omega), up_k (by omega), mu_r (by omega)]
set_option maxRecDepth 100000 in
set_option maxHeartbeats 4000000 in
theorem r_readsNode {V : VX} {F : Hp} (h : PQ F) (ha : AtQ F)  : Ct V yX12_readsNode cX12_readsNode 5 none 4 89 0 0 SH [vr V 136] F SH 0 (fun r F' => F' = ndS F) := by
  refine Ct.of [some (vr V 136), none, none, none, none] (by decide) (by simp [lg_sl, vi_cat, vl_cat, vr_cat]) rfl (by simp [asc, lv_args, vi_cat, vl_cat, vr_cat]) (fun X hV hX => ?_)
  subst hV
  obtain ⟨h1, h2, h3, h4, h5, h6, h7, h8, h9, h10, h11⟩ := id h
  have nC := Nx.ndC h ha
  have nD := Nx.ndD h ha
  have nE := Nx.ndE h ha
  have nG := Nx.ndG h ha
  have pA : PQ (ndA F) := (h.mu (by omega)).sc
  have pB : PQ (ndB F) := pA.mu (by omega)
  have c21 := nC.1.2.2.2.2.1
  have c22 := nC.1.2.2.2.2.2.1
  refine R_aload_0 hX dX12_readsNode_0 ?_
  refine R_aload_0 hX dX12_readsNode_1 ?_
  refine R_geti hX dX12_readsNode_2 fl_X12_182 o_136 rfl ?_
  try simp (disch := omega) only [up_i, up_k, up_s]
  refine R_bipush hX dX12_readsNode_5 (by decide) ?_
  refine R_icmpge (tgt := 14) hX dX12_readsNode_7 (by decide) (by constructor <;> first | omega | (simp (disch := omega) only [up_k, up_i, up_s]; omega)) (by constructor <;> first | omega | (simp (disch := omega) only [up_k, up_i, up_s]; omega)) (fun c_7 => ?_) (fun c_7 => ?_)
  · skip
    refine R_iconst hX dX12_readsNode_14 ?_
    refine R_iconst hX dX12_readsNode_15 ?_
    refine R_v2v hX dX12_readsNode_16 li_X12_175 mk_X12_must mi_X12_must rfl o_136 (r_must (by constructor <;> omega) (by constructor <;> omega) (by omega)) ⟨⟨by decide, by decide⟩, by decide, by decide, rfl, Nat.le_of_ble_eq_true rfl, rfl⟩ (fun x_16 F_16 h_16 => ?_)
    subst h_16
    refine R.eq rfl rfl (show _ = mu (F 136 22 < 12) 5 F from mu_iff (by omega)) ?_
    refine R_aload_0 hX dX12_readsNode_19 ?_
    refine R_v0v hX dX12_readsNode_20 li_X12_179 mk_X12_scans mi_X12_scans rfl o_136 (r_scans (h.mu (g := F 136 22 < 12) (c := 5) (by omega)).1 (by have z := (h.mu (g := F 136 22 < 12) (c := 5) (by omega)).2.1; constructor <;> omega)) ⟨⟨by decide, by decide⟩, by decide, by decide, rfl, Nat.le_of_ble_eq_true rfl, rfl⟩ (fun x_20 F_20 h_20 => ?_)
    subst h_20
    refine R.eq rfl rfl (show _ = ndA F from rfl) ?_
    refine R_aload_0 hX dX12_readsNode_23 ?_
    refine R_aload_0 hX dX12_readsNode_24 ?_
    refine R_v0i hX dX12_readsNode_25 li_X12_189 mk_X12_isName mi_X12_isName rfl o_136 (r_isName pA) ⟨⟨by decide, by decide⟩, by decide, by decide, rfl, Nat.le_of_ble_eq_true rfl, rfl⟩ (fun x_25 F_25 h_25 => ?_)
    obtain ⟨h_25, e_25⟩ := h_25; replace e_25 := e_25.symm; subst e_25
    refine R_iconst hX dX12_readsNode_28 ?_
    refine R_v2v hX dX12_readsNode_29 li_X12_175 mk_X12_must mi_X12_must rfl o_136 (r_must (by have z := (pA).2.1; constructor <;> omega) (by have z := (pA).2.2.1; constructor <;> omega) (by omega)) ⟨⟨by decide, by decide⟩, by decide, by decide, rfl, Nat.le_of_ble_eq_true rfl, rfl⟩ (fun x_29 F_29 h_29 => ?_)
    subst h_29
    refine R.eq rfl rfl (show _ = ndB F from mu_iff (by omega)) ?_
    refine R_aload_0 hX dX12_readsNode_32 ?_
    refine R_aload_0 hX dX12_readsNode_33 ?_
    refine R_v0i hX dX12_readsNode_34 li_X12_192 mk_X12_here mi_X12_here rfl o_136 (r_here pB) ⟨⟨by decide, by decide⟩, by decide, by decide, rfl, Nat.le_of_ble_eq_true rfl, rfl⟩ (fun x_34 F_34 h_34 => ?_)
    obtain ⟨h_34, e_34⟩ := h_34; replace e_34 := e_34.symm; subst e_34
    subst h_34
    have hhr := fnF_rng (nm := ndB F 140) (w := ndB F 136 21) (N := ndB F 136 22) 12 0
    change hrS (ndB F) = -2 ∨ (0 ≤ hrS (ndB F) ∧ hrS (ndB F) < ndB F 136 22 ∧ _) at hhr
    have b22 := pB.2.2.2.2.2.1
    refine R_bipush hX dX12_readsNode_37 (by decide) ?_
    refine R_icmpne (tgt := 46) hX dX12_readsNode_39 (by decide) (by constructor <;> first | omega | (simp (disch := omega) only [up_k, up_i, up_s]; omega)) (by constructor <;> first | omega | (simp (disch := omega) only [up_k, up_i, up_s]; omega)) (fun c_39 => ?_) (fun c_39 => ?_)
    · skip
      refine R_iconst hX dX12_readsNode_46 ?_
      refine R_iconst hX dX12_readsNode_47 ?_
      refine R_v2v hX dX12_readsNode_48 li_X12_175 mk_X12_must mi_X12_must rfl o_136 (r_must (by have z := (pB).2.1; constructor <;> omega) (by have z := (pB).2.2.1; constructor <;> omega) (by omega)) ⟨⟨by decide, by decide⟩, by decide, by decide, rfl, Nat.le_of_ble_eq_true rfl, rfl⟩ (fun x_48 F_48 h_48 => ?_)
      subst h_48
      refine R.eq rfl rfl (show _ = ndC F from mu_iff (by omega)) ?_
      refine R_aload_0 hX dX12_readsNode_51 ?_
      refine R_v0i hX dX12_readsNode_52 li_X12_112 mk_X12_isGood mi_X12_isGood rfl o_136 (r_isGood (by have z := nC.1.2.1; constructor <;> omega)) ⟨⟨by decide, by decide⟩, by decide, by decide, rfl, Nat.le_of_ble_eq_true rfl, rfl⟩ (fun x_52 F_52 h_52 => ?_)
      obtain ⟨h_52, e_52⟩ := h_52; replace e_52 := e_52.symm; subst e_52
      refine R_ifne (tgt := 59) hX dX12_readsNode_55 (by decide) (by constructor <;> first | omega | (simp (disch := omega) only [up_k, up_i, up_s]; omega)) (fun c_55 => ?_) (fun c_55 => ?_)
      · skip
        have hg0 : ndC F 136 19 = 0 := by omega
        have h12 := nd_22 hg0
        have e22 : ndC F 136 22 = F 136 22 := nC.2.2.2.1
        refine R_aload_0 hX dX12_readsNode_59 ?_
        refine R_geti hX dX12_readsNode_60 fl_X12_182 o_136 rfl ?_
        try simp (disch := omega) only [up_i, up_k, up_s]
        refine R_istore_1 hX c1_r dX12_readsNode_63 ?_
        refine R_aload_0 hX dX12_readsNode_64 ?_
        refine R_getl hX dX12_readsNode_65 fl_X12_132 o_136 rfl ?_
        try simp (disch := omega) only [up_i, up_k, up_s]
        refine R_lstore_2 hX c1_i dX12_readsNode_68 ?_
        refine R_aload_0 hX dX12_readsNode_69 ?_
        refine R_v0v hX dX12_readsNode_70 li_X12_179 mk_X12_scans mi_X12_scans rfl o_136 (r_scans (nC.1).1 (by have z := (nC.1).2.1; constructor <;> omega)) ⟨⟨by decide, by decide⟩, by decide, by decide, rfl, Nat.le_of_ble_eq_true rfl, rfl⟩ (fun x_70 F_70 h_70 => ?_)
        subst h_70
        refine R_aload_0 hX dX12_readsNode_73 ?_
        refine R_iload_1 hX dX12_readsNode_74 ?_
        refine R_v1v hX dX12_readsNode_75 li_X12_199 mk_X12_readsParent mi_X12_readsParent rfl o_136 (r_readsParent nC.1.sc (by omega)) ⟨⟨by decide, by decide⟩, by decide, by decide, rfl, Nat.le_of_ble_eq_true rfl, rfl⟩ (fun x_75 F_75 h_75 => ?_)
        subst h_75
        refine R_aload_0 hX dX12_readsNode_78 ?_
        refine R_getq (v := 140) hX dX12_readsNode_79 fl_X12_28 o_136 rfl (by omega) ?_
        refine R_iload_1 hX dX12_readsNode_82 ?_
        refine R_lload_2 hX dX12_readsNode_83 ?_
        refine R_last hX dX12_readsNode_84 a_140 ⟨by omega, by omega⟩ ?_
        refine R.eq rfl rfl (show _ = ndD F from rfl) ?_
        refine R_iconst hX dX12_readsNode_85 ?_
        refine R_istore_4 hX c1_n dX12_readsNode_86 ?_
        have lp_88 : ∀ (n : Nat) (x : Int), (0 ≤ x ∧ x ≤ 7) → (8 - x).toNat < n → R X SH 0 0 88 [some (vr (xV X) 136), some (vi (ndC F 136 22)), some (vl (ndC F 136 21)), none, some (vi x)] [] (inS (ndC F 136 22) x.toNat (ndD F)) (Zq X SH 0 (fun r F' => F' = ndS F) 0 0) := by
          intro n
          induction n with
          | zero => intro x iv88_0 hm; exact absurd hm (Nat.not_lt_zero _)
          | succ n ih_88 =>
            intro x iv88_0 hm_88
            refine R_iload_4 hX dX12_readsNode_88 ?_
            refine R_bipush hX dX12_readsNode_90 (by decide) ?_
            refine R_icmpge (tgt := 153) hX dX12_readsNode_92 (by decide) (by constructor <;> first | omega | (simp (disch := omega) only [up_k, up_i, up_s]; omega)) (by constructor <;> first | omega | (simp (disch := omega) only [up_k, up_i, up_s]; omega)) (fun c_92 => ?_) (fun c_92 => ?_)
            · skip
              have lp_153 : ∀ (n : Nat) (k : Nat) (G : Hp), (Nx F G) → (lpS (ndC F 136 22) k G = ndE F) → (G 136 14 - G 136 15 < k ∨ ¬ G 136 19 = 0) → k < n → R X SH 0 0 153 [some (vr (xV X) 136), some (vi (ndC F 136 22)), none, none, none] [] G (Zq X SH 0 (fun r F' => F' = ndS F) 0 0) := by
                intro n
                induction n with
                | zero => intro k G iv153_0 iv153_1 iv153_2 hm; exact absurd hm (Nat.not_lt_zero _)
                | succ n ih_153 =>
                  intro k G iv153_0 iv153_1 iv153_2 hm_153
                  refine R_aload_0 hX dX12_readsNode_153 ?_
                  refine R_v0i hX dX12_readsNode_154 li_X12_112 mk_X12_isGood mi_X12_isGood rfl o_136 (r_isGood (by have z := iv153_0.1.2.1; constructor <;> omega)) ⟨⟨by decide, by decide⟩, by decide, by decide, rfl, Nat.le_of_ble_eq_true rfl, rfl⟩ (fun x_154 F_154 h_154 => ?_)
                  obtain ⟨h_154, e_154⟩ := h_154; replace e_154 := e_154.symm; subst e_154
                  refine R_ifeq (tgt := 177) hX dX12_readsNode_157 (by decide) (by constructor <;> first | omega | (simp (disch := omega) only [up_k, up_i, up_s]; omega)) (fun c_157 => ?_) (fun c_157 => ?_)
                  · skip
                    have hGE : G = ndE F := by rw [← iv153_1, lpS_stop (by first | (intro z; exact absurd z.1 (by omega)) | (intro z; exact z.2 (by rw [← h_161]; exact c_166)))]
                    subst hGE
                    have h9E := nE.1.2.2.2.2.2.2.2.2.2.2 (7 * ndC F 136 22 + 1) (by omega) (by omega)
                    refine R_aload_0 hX dX12_readsNode_177 ?_
                    refine R_getq (v := 149) hX dX12_readsNode_178 fl_X12_58 o_136 rfl (by omega) ?_
                    refine R_bipush hX dX12_readsNode_181 (by decide) ?_
                    refine R_iload_1 hX dX12_readsNode_183 ?_
                    refine R_imul hX dX12_readsNode_184 ?_
                    refine R_iconst hX dX12_readsNode_185 ?_
                    refine R_iadd hX dX12_readsNode_186 ?_
                    refine R_zald hX dX12_readsNode_187 a_149 ⟨by omega, by omega⟩ ?_
                    try simp (disch := omega) only [up_i, up_k, up_s]
                    refine R_ifne (tgt := 211) hX dX12_readsNode_188 (by decide) (by constructor <;> first | omega | (simp (disch := omega) only [up_k, up_i, up_s]; omega)) (fun c_188 => ?_) (fun c_188 => ?_)
                    · skip
                      refine R.eq rfl rfl (show _ = ndG F by unfold ndG; first | (rw [if_pos (by omega), Int.add_zero]; done) | (rw [if_pos (by omega)]; done) | (rw [if_neg (by omega)]; done)) ?_
                      refine R_aload_0 hX dX12_readsNode_211 ?_
                      refine R_dup hX c1_r dX12_readsNode_212 ?_
                      refine R_geti hX dX12_readsNode_213 fl_X12_182 o_136 rfl ?_
                      try simp (disch := omega) only [up_i, up_k, up_s]
                      refine R_iconst hX dX12_readsNode_216 ?_
                      refine R_iadd hX dX12_readsNode_217 ?_
                      refine R_puti hX dX12_readsNode_218 fl_X12_182 o_136 rfl ?_
                      exact R_vret hX dX12_readsNode_221 (by unfold ndS; rw [if_pos hg0])
                    · skip
                      refine R_aload_0 hX dX12_readsNode_191 ?_
                      refine R_getq (v := 148) hX dX12_readsNode_192 fl_X12_55 o_136 rfl (by omega) ?_
                      refine R_bipush hX dX12_readsNode_195 (by decide) ?_
                      refine R_iload_1 hX dX12_readsNode_197 ?_
                      refine R_imul hX dX12_readsNode_198 ?_
                      refine R_iconst hX dX12_readsNode_199 ?_
                      refine R_iadd hX dX12_readsNode_200 ?_
                      refine R_aload_0 hX dX12_readsNode_201 ?_
                      refine R_getq (v := 148) hX dX12_readsNode_202 fl_X12_55 o_136 rfl (by omega) ?_
                      refine R_bipush hX dX12_readsNode_205 (by decide) ?_
                      refine R_iload_1 hX dX12_readsNode_207 ?_
                      refine R_imul hX dX12_readsNode_208 ?_
                      refine R_iald hX dX12_readsNode_209 a_148 ⟨by omega, by omega⟩ ?_
                      try simp (disch := omega) only [up_i, up_k, up_s]
                      refine R_iast hX dX12_readsNode_210 a_148 ⟨by omega, by omega⟩ ?_
                      refine R.eq rfl rfl (show _ = ndG F by unfold ndG; first | (rw [if_pos (by omega), Int.add_zero]; done) | (rw [if_pos (by omega)]; done) | (rw [if_neg (by omega)]; done)) ?_
                      refine R_aload_0 hX dX12_readsNode_211 ?_
                      refine R_dup hX c1_r dX12_readsNode_212 ?_
                      refine R_geti hX dX12_readsNode_213 fl_X12_182 o_136 rfl ?_
                      try simp (disch := omega) only [up_i, up_k, up_s]
                      refine R_iconst hX dX12_readsNode_216 ?_
                      refine R_iadd hX dX12_readsNode_217 ?_
                      refine R_puti hX dX12_readsNode_218 fl_X12_182 o_136 rfl ?_
                      exact R_vret hX dX12_readsNode_221 (by unfold ndS; rw [if_pos hg0])
                  · skip
                    refine R_aload_0 hX dX12_readsNode_160 ?_
                    refine R_v0i hX dX12_readsNode_161 li_X12_161 mk_X12_settingHere mi_X12_settingHere rfl o_136 (r_settingHere iv153_0.1) ⟨⟨by decide, by decide⟩, by decide, by decide, rfl, Nat.le_of_ble_eq_true rfl, rfl⟩ (fun x_161 F_161 h_161 => ?_)
                    obtain ⟨h_161, e_161⟩ := h_161; replace e_161 := e_161.symm; subst e_161
                    have hsr := stH_rng G
                    refine R_bipush hX dX12_readsNode_164 (by decide) ?_
                    refine R_icmpeq (tgt := 177) hX dX12_readsNode_166 (by decide) (by constructor <;> first | omega | (simp (disch := omega) only [up_k, up_i, up_s]; omega)) (by constructor <;> first | omega | (simp (disch := omega) only [up_k, up_i, up_s]; omega)) (fun c_166 => ?_) (fun c_166 => ?_)
                    · skip
                      have hGE : G = ndE F := by rw [← iv153_1, lpS_stop (by first | (intro z; exact absurd z.1 (by omega)) | (intro z; exact z.2 (by rw [← h_161]; exact c_166)))]
                      subst hGE
                      have h9E := nE.1.2.2.2.2.2.2.2.2.2.2 (7 * ndC F 136 22 + 1) (by omega) (by omega)
                      refine R_aload_0 hX dX12_readsNode_177 ?_
                      refine R_getq (v := 149) hX dX12_readsNode_178 fl_X12_58 o_136 rfl (by omega) ?_
                      refine R_bipush hX dX12_readsNode_181 (by decide) ?_
                      refine R_iload_1 hX dX12_readsNode_183 ?_
                      refine R_imul hX dX12_readsNode_184 ?_
                      refine R_iconst hX dX12_readsNode_185 ?_
                      refine R_iadd hX dX12_readsNode_186 ?_
                      refine R_zald hX dX12_readsNode_187 a_149 ⟨by omega, by omega⟩ ?_
                      try simp (disch := omega) only [up_i, up_k, up_s]
                      refine R_ifne (tgt := 211) hX dX12_readsNode_188 (by decide) (by constructor <;> first | omega | (simp (disch := omega) only [up_k, up_i, up_s]; omega)) (fun c_188 => ?_) (fun c_188 => ?_)
                      · skip
                        refine R.eq rfl rfl (show _ = ndG F by unfold ndG; first | (rw [if_pos (by omega), Int.add_zero]; done) | (rw [if_pos (by omega)]; done) | (rw [if_neg (by omega)]; done)) ?_
                        refine R_aload_0 hX dX12_readsNode_211 ?_
                        refine R_dup hX c1_r dX12_readsNode_212 ?_
                        refine R_geti hX dX12_readsNode_213 fl_X12_182 o_136 rfl ?_
                        try simp (disch := omega) only [up_i, up_k, up_s]
                        refine R_iconst hX dX12_readsNode_216 ?_
                        refine R_iadd hX dX12_readsNode_217 ?_
                        refine R_puti hX dX12_readsNode_218 fl_X12_182 o_136 rfl ?_
                        exact R_vret hX dX12_readsNode_221 (by unfold ndS; rw [if_pos hg0])
                      · skip
                        refine R_aload_0 hX dX12_readsNode_191 ?_
                        refine R_getq (v := 148) hX dX12_readsNode_192 fl_X12_55 o_136 rfl (by omega) ?_
                        refine R_bipush hX dX12_readsNode_195 (by decide) ?_
                        refine R_iload_1 hX dX12_readsNode_197 ?_
                        refine R_imul hX dX12_readsNode_198 ?_
                        refine R_iconst hX dX12_readsNode_199 ?_
                        refine R_iadd hX dX12_readsNode_200 ?_
                        refine R_aload_0 hX dX12_readsNode_201 ?_
                        refine R_getq (v := 148) hX dX12_readsNode_202 fl_X12_55 o_136 rfl (by omega) ?_
                        refine R_bipush hX dX12_readsNode_205 (by decide) ?_
                        refine R_iload_1 hX dX12_readsNode_207 ?_
                        refine R_imul hX dX12_readsNode_208 ?_
                        refine R_iald hX dX12_readsNode_209 a_148 ⟨by omega, by omega⟩ ?_
                        try simp (disch := omega) only [up_i, up_k, up_s]
                        refine R_iast hX dX12_readsNode_210 a_148 ⟨by omega, by omega⟩ ?_
                        refine R.eq rfl rfl (show _ = ndG F by unfold ndG; first | (rw [if_pos (by omega), Int.add_zero]; done) | (rw [if_pos (by omega)]; done) | (rw [if_neg (by omega)]; done)) ?_
                        refine R_aload_0 hX dX12_readsNode_211 ?_
                        refine R_dup hX c1_r dX12_readsNode_212 ?_
                        refine R_geti hX dX12_readsNode_213 fl_X12_182 o_136 rfl ?_
                        try simp (disch := omega) only [up_i, up_k, up_s]
                        refine R_iconst hX dX12_readsNode_216 ?_
                        refine R_iadd hX dX12_readsNode_217 ?_
                        refine R_puti hX dX12_readsNode_218 fl_X12_182 o_136 rfl ?_
                        exact R_vret hX dX12_readsNode_221 (by unfold ndS; rw [if_pos hg0])
                    · skip
                      have hk0 : 0 < k := by have q1 := iv153_0.1.1.2.2; have q2 := iv153_0.2.1; unfold AtQ at q2; omega
                      refine R_aload_0 hX dX12_readsNode_169 ?_
                      refine R_iload_1 hX dX12_readsNode_170 ?_
                      refine R_v1v hX dX12_readsNode_171 li_X12_202 mk_X12_readsSetting mi_X12_readsSetting rfl o_136 (r_readsSetting iv153_0.1 (by omega) (by rw [← h_161]; exact c_166)) ⟨⟨by decide, by decide⟩, by decide, by decide, rfl, Nat.le_of_ble_eq_true rfl, rfl⟩ (fun x_171 F_171 h_171 => ?_)
                      subst h_171
                      refine R_goto (tgt := 153) hX dX12_readsNode_174 (by decide) ?_
                      exact ih_153 (k - 1) _ iv153_0.rs (by rw [← iv153_1]; exact (lpS_go hk0 ⟨by omega, by rw [← h_161]; exact c_166⟩).symm) (by by_cases z : rsS (ndC F 136 22) G 136 19 = 0; (left; have q0 := rs_at iv153_0.1 iv153_0.2.1 (d := ndC F 136 22) (by omega) (by rw [← h_161]; exact c_166) z; have q3 : rsS (ndC F 136 22) G 136 14 = G 136 14 := rsS_r (by omega); have q1 := iv153_0.1.1.2.2; have q2 := iv153_0.2.1; unfold AtQ at q2; omega); exact Or.inr z) (by omega)
              refine R_drop_2 ?_
              refine R_drop_4 ?_
              have hx7 : x = 7 := by omega
              subst hx7
              have nI := Nx.inn nD (d := ndC F 136 22) 7
              refine R.eq rfl rfl (show _ = inS (ndC F 136 22) 7 (ndD F) from rfl) ?_
              exact lp_153 902 901 _ nI rfl (Or.inl (by have q1 := nI.2.2.1; have q2 := nI.2.1.1; have q3 := h1.1; omega)) (by omega)
            · skip
              refine R_aload_0 hX dX12_readsNode_95 ?_
              refine R_getq (v := 149) hX dX12_readsNode_96 fl_X12_58 o_136 rfl (by omega) ?_
              refine R_bipush hX dX12_readsNode_99 (by decide) ?_
              refine R_iload_1 hX dX12_readsNode_101 ?_
              refine R_imul hX dX12_readsNode_102 ?_
              refine R_iload_4 hX dX12_readsNode_103 ?_
              refine R_iadd hX dX12_readsNode_105 ?_
              refine R_iconst hX dX12_readsNode_106 ?_
              refine R_zast hX dX12_readsNode_107 a_149 ⟨by omega, by omega⟩ (Or.inl rfl) ?_
              refine R_aload_0 hX dX12_readsNode_108 ?_
              refine R_getq (v := 148) hX dX12_readsNode_109 fl_X12_55 o_136 rfl (by omega) ?_
              refine R_bipush hX dX12_readsNode_112 (by decide) ?_
              refine R_iload_1 hX dX12_readsNode_114 ?_
              refine R_imul hX dX12_readsNode_115 ?_
              refine R_iload_4 hX dX12_readsNode_116 ?_
              refine R_iadd hX dX12_readsNode_118 ?_
              refine R_iload_4 hX dX12_readsNode_119 ?_
              refine R_ifeq (tgt := 130) hX dX12_readsNode_121 (by decide) (by constructor <;> first | omega | (simp (disch := omega) only [up_k, up_i, up_s]; omega)) (fun c_121 => ?_) (fun c_121 => ?_)
              · skip
                refine R_iconst hX dX12_readsNode_130 ?_
                refine R_goto (tgt := 146) hX dX12_readsNode_131 (by decide) ?_
                refine R_iast hX dX12_readsNode_146 a_148 ⟨by omega, by omega⟩ ?_
                refine R.eq rfl rfl (show _ = inS (ndC F 136 22) (x + 1).toNat (ndD F) by rw [inS_s (by omega)]; unfold dfK; first | (rw [if_pos (by omega)]; done) | (rw [if_neg (by omega), if_pos (by omega)]; done) | (rw [if_neg (by omega), if_neg (by omega)]; done)) ?_
                refine R_iinc_4 hX c1_n dX12_readsNode_147 ?_
                refine R_goto (tgt := 88) hX dX12_readsNode_150 (by decide) ?_
                exact ih_88 (x + 1) (by omega) (by omega)
              · skip
                refine R_iload_4 hX dX12_readsNode_124 ?_
                refine R_iconst hX dX12_readsNode_126 ?_
                refine R_icmpne (tgt := 134) hX dX12_readsNode_127 (by decide) (by constructor <;> first | omega | (simp (disch := omega) only [up_k, up_i, up_s]; omega)) (by constructor <;> first | omega | (simp (disch := omega) only [up_k, up_i, up_s]; omega)) (fun c_127 => ?_) (fun c_127 => ?_)
                · skip
                  refine R_iload_4 hX dX12_readsNode_134 ?_
                  refine R_iconst hX dX12_readsNode_136 ?_
                  refine R_icmpne (tgt := 145) hX dX12_readsNode_137 (by decide) (by constructor <;> first | omega | (simp (disch := omega) only [up_k, up_i, up_s]; omega)) (by constructor <;> first | omega | (simp (disch := omega) only [up_k, up_i, up_s]; omega)) (fun c_137 => ?_) (fun c_137 => ?_)
                  · skip
                    refine R_iconst hX dX12_readsNode_145 ?_
                    refine R_iast hX dX12_readsNode_146 a_148 ⟨by omega, by omega⟩ ?_
                    refine R.eq rfl rfl (show _ = inS (ndC F 136 22) (x + 1).toNat (ndD F) by rw [inS_s (by omega)]; unfold dfK; first | (rw [if_pos (by omega)]; done) | (rw [if_neg (by omega), if_pos (by omega)]; done) | (rw [if_neg (by omega), if_neg (by omega)]; done)) ?_
                    refine R_iinc_4 hX c1_n dX12_readsNode_147 ?_
                    refine R_goto (tgt := 88) hX dX12_readsNode_150 (by decide) ?_
                    exact ih_88 (x + 1) (by omega) (by omega)
                  · skip
                    refine R_bipush hX dX12_readsNode_140 (by decide) ?_
                    refine R_goto (tgt := 146) hX dX12_readsNode_142 (by decide) ?_
                    refine R_iast hX dX12_readsNode_146 a_148 ⟨by omega, by omega⟩ ?_
                    refine R.eq rfl rfl (show _ = inS (ndC F 136 22) (x + 1).toNat (ndD F) by rw [inS_s (by omega)]; unfold dfK; first | (rw [if_pos (by omega)]; done) | (rw [if_neg (by omega), if_pos (by omega)]; done) | (rw [if_neg (by omega), if_neg (by omega)]; done)) ?_
                    refine R_iinc_4 hX c1_n dX12_readsNode_147 ?_
                    refine R_goto (tgt := 88) hX dX12_readsNode_150 (by decide) ?_
                    exact ih_88 (x + 1) (by omega) (by omega)
                · skip
                  refine R_iconst hX dX12_readsNode_130 ?_
                  refine R_goto (tgt := 146) hX dX12_readsNode_131 (by decide) ?_
                  refine R_iast hX dX12_readsNode_146 a_148 ⟨by omega, by omega⟩ ?_
                  refine R.eq rfl rfl (show _ = inS (ndC F 136 22) (x + 1).toNat (ndD F) by rw [inS_s (by omega)]; unfold dfK; first | (rw [if_pos (by omega)]; done) | (rw [if_neg (by omega), if_pos (by omega)]; done) | (rw [if_neg (by omega), if_neg (by omega)]; done)) ?_
                  refine R_iinc_4 hX c1_n dX12_readsNode_147 ?_
                  refine R_goto (tgt := 88) hX dX12_readsNode_150 (by decide) ?_
                  exact ih_88 (x + 1) (by omega) (by omega)
        exact lp_88 9 0 (by omega) (by omega)
      · skip
        exact R_vret hX dX12_readsNode_58 (by unfold ndS; rw [if_neg (by omega)])
    · skip
      refine R_iconst hX dX12_readsNode_42 ?_
      refine R_goto (tgt := 47) hX dX12_readsNode_43 (by decide) ?_
      refine R_iconst hX dX12_readsNode_47 ?_
      refine R_v2v hX dX12_readsNode_48 li_X12_175 mk_X12_must mi_X12_must rfl o_136 (r_must (by have z := (pB).2.1; constructor <;> omega) (by have z := (pB).2.2.1; constructor <;> omega) (by omega)) ⟨⟨by decide, by decide⟩, by decide, by decide, rfl, Nat.le_of_ble_eq_true rfl, rfl⟩ (fun x_48 F_48 h_48 => ?_)
      subst h_48
      refine R.eq rfl rfl (show _ = ndC F from mu_iff (by omega)) ?_
      refine R_aload_0 hX dX12_readsNode_51 ?_
      refine R_v0i hX dX12_readsNode_52 li_X12_112 mk_X12_isGood mi_X12_isGood rfl o_136 (r_isGood (by have z := nC.1.2.1; constructor <;> omega)) ⟨⟨by decide, by decide⟩, by decide, by decide, rfl, Nat.le_of_ble_eq_true rfl, rfl⟩ (fun x_52 F_52 h_52 => ?_)
      obtain ⟨h_52, e_52⟩ := h_52; replace e_52 := e_52.symm; subst e_52
      refine R_ifne (tgt := 59) hX dX12_readsNode_55 (by decide) (by constructor <;> first | omega | (simp (disch := omega) only [up_k, up_i, up_s]; omega)) (fun c_55 => ?_) (fun c_55 => ?_)
      · skip
        have hg0 : ndC F 136 19 = 0 := by omega
        have h12 := nd_22 hg0
        have e22 : ndC F 136 22 = F 136 22 := nC.2.2.2.1
        refine R_aload_0 hX dX12_readsNode_59 ?_
        refine R_geti hX dX12_readsNode_60 fl_X12_182 o_136 rfl ?_
        try simp (disch := omega) only [up_i, up_k, up_s]
        refine R_istore_1 hX c1_r dX12_readsNode_63 ?_
        refine R_aload_0 hX dX12_readsNode_64 ?_
        refine R_getl hX dX12_readsNode_65 fl_X12_132 o_136 rfl ?_
        try simp (disch := omega) only [up_i, up_k, up_s]
        refine R_lstore_2 hX c1_i dX12_readsNode_68 ?_
        refine R_aload_0 hX dX12_readsNode_69 ?_
        refine R_v0v hX dX12_readsNode_70 li_X12_179 mk_X12_scans mi_X12_scans rfl o_136 (r_scans (nC.1).1 (by have z := (nC.1).2.1; constructor <;> omega)) ⟨⟨by decide, by decide⟩, by decide, by decide, rfl, Nat.le_of_ble_eq_true rfl, rfl⟩ (fun x_70 F_70 h_70 => ?_)
        subst h_70
        refine R_aload_0 hX dX12_readsNode_73 ?_
        refine R_iload_1 hX dX12_readsNode_74 ?_
        refine R_v1v hX dX12_readsNode_75 li_X12_199 mk_X12_readsParent mi_X12_readsParent rfl o_136 (r_readsParent nC.1.sc (by omega)) ⟨⟨by decide, by decide⟩, by decide, by decide, rfl, Nat.le_of_ble_eq_true rfl, rfl⟩ (fun x_75 F_75 h_75 => ?_)
        subst h_75
        refine R_aload_0 hX dX12_readsNode_78 ?_
        refine R_getq (v := 140) hX dX12_readsNode_79 fl_X12_28 o_136 rfl (by omega) ?_
        refine R_iload_1 hX dX12_readsNode_82 ?_
        refine R_lload_2 hX dX12_readsNode_83 ?_
        refine R_last hX dX12_readsNode_84 a_140 ⟨by omega, by omega⟩ ?_
        refine R.eq rfl rfl (show _ = ndD F from rfl) ?_
        refine R_iconst hX dX12_readsNode_85 ?_
        refine R_istore_4 hX c1_n dX12_readsNode_86 ?_
        have lp_88 : ∀ (n : Nat) (x : Int), (0 ≤ x ∧ x ≤ 7) → (8 - x).toNat < n → R X SH 0 0 88 [some (vr (xV X) 136), some (vi (ndC F 136 22)), some (vl (ndC F 136 21)), none, some (vi x)] [] (inS (ndC F 136 22) x.toNat (ndD F)) (Zq X SH 0 (fun r F' => F' = ndS F) 0 0) := by
          intro n
          induction n with
          | zero => intro x iv88_0 hm; exact absurd hm (Nat.not_lt_zero _)
          | succ n ih_88 =>
            intro x iv88_0 hm_88
            refine R_iload_4 hX dX12_readsNode_88 ?_
            refine R_bipush hX dX12_readsNode_90 (by decide) ?_
            refine R_icmpge (tgt := 153) hX dX12_readsNode_92 (by decide) (by constructor <;> first | omega | (simp (disch := omega) only [up_k, up_i, up_s]; omega)) (by constructor <;> first | omega | (simp (disch := omega) only [up_k, up_i, up_s]; omega)) (fun c_92 => ?_) (fun c_92 => ?_)
            · skip
              have lp_153 : ∀ (n : Nat) (k : Nat) (G : Hp), (Nx F G) → (lpS (ndC F 136 22) k G = ndE F) → (G 136 14 - G 136 15 < k ∨ ¬ G 136 19 = 0) → k < n → R X SH 0 0 153 [some (vr (xV X) 136), some (vi (ndC F 136 22)), none, none, none] [] G (Zq X SH 0 (fun r F' => F' = ndS F) 0 0) := by
                intro n
                induction n with
                | zero => intro k G iv153_0 iv153_1 iv153_2 hm; exact absurd hm (Nat.not_lt_zero _)
                | succ n ih_153 =>
                  intro k G iv153_0 iv153_1 iv153_2 hm_153
                  refine R_aload_0 hX dX12_readsNode_153 ?_
                  refine R_v0i hX dX12_readsNode_154 li_X12_112 mk_X12_isGood mi_X12_isGood rfl o_136 (r_isGood (by have z := iv153_0.1.2.1; constructor <;> omega)) ⟨⟨by decide, by decide⟩, by decide, by decide, rfl, Nat.le_of_ble_eq_true rfl, rfl⟩ (fun x_154 F_154 h_154 => ?_)
                  obtain ⟨h_154, e_154⟩ := h_154; replace e_154 := e_154.symm; subst e_154
                  refine R_ifeq (tgt := 177) hX dX12_readsNode_157 (by decide) (by constructor <;> first | omega | (simp (disch := omega) only [up_k, up_i, up_s]; omega)) (fun c_157 => ?_) (fun c_157 => ?_)
                  · skip
                    have hGE : G = ndE F := by rw [← iv153_1, lpS_stop (by first | (intro z; exact absurd z.1 (by omega)) | (intro z; exact z.2 (by rw [← h_161]; exact c_166)))]
                    subst hGE
                    have h9E := nE.1.2.2.2.2.2.2.2.2.2.2 (7 * ndC F 136 22 + 1) (by omega) (by omega)
                    refine R_aload_0 hX dX12_readsNode_177 ?_
                    refine R_getq (v := 149) hX dX12_readsNode_178 fl_X12_58 o_136 rfl (by omega) ?_
                    refine R_bipush hX dX12_readsNode_181 (by decide) ?_
                    refine R_iload_1 hX dX12_readsNode_183 ?_
                    refine R_imul hX dX12_readsNode_184 ?_
                    refine R_iconst hX dX12_readsNode_185 ?_
                    refine R_iadd hX dX12_readsNode_186 ?_
                    refine R_zald hX dX12_readsNode_187 a_149 ⟨by omega, by omega⟩ ?_
                    try simp (disch := omega) only [up_i, up_k, up_s]
                    refine R_ifne (tgt := 211) hX dX12_readsNode_188 (by decide) (by constructor <;> first | omega | (simp (disch := omega) only [up_k, up_i, up_s]; omega)) (fun c_188 => ?_) (fun c_188 => ?_)
                    · skip
                      refine R.eq rfl rfl (show _ = ndG F by unfold ndG; first | (rw [if_pos (by omega), Int.add_zero]; done) | (rw [if_pos (by omega)]; done) | (rw [if_neg (by omega)]; done)) ?_
                      refine R_aload_0 hX dX12_readsNode_211 ?_
                      refine R_dup hX c1_r dX12_readsNode_212 ?_
                      refine R_geti hX dX12_readsNode_213 fl_X12_182 o_136 rfl ?_
                      try simp (disch := omega) only [up_i, up_k, up_s]
                      refine R_iconst hX dX12_readsNode_216 ?_
                      refine R_iadd hX dX12_readsNode_217 ?_
                      refine R_puti hX dX12_readsNode_218 fl_X12_182 o_136 rfl ?_
                      exact R_vret hX dX12_readsNode_221 (by unfold ndS; rw [if_pos hg0])
                    · skip
                      refine R_aload_0 hX dX12_readsNode_191 ?_
                      refine R_getq (v := 148) hX dX12_readsNode_192 fl_X12_55 o_136 rfl (by omega) ?_
                      refine R_bipush hX dX12_readsNode_195 (by decide) ?_
                      refine R_iload_1 hX dX12_readsNode_197 ?_
                      refine R_imul hX dX12_readsNode_198 ?_
                      refine R_iconst hX dX12_readsNode_199 ?_
                      refine R_iadd hX dX12_readsNode_200 ?_
                      refine R_aload_0 hX dX12_readsNode_201 ?_
                      refine R_getq (v := 148) hX dX12_readsNode_202 fl_X12_55 o_136 rfl (by omega) ?_
                      refine R_bipush hX dX12_readsNode_205 (by decide) ?_
                      refine R_iload_1 hX dX12_readsNode_207 ?_
                      refine R_imul hX dX12_readsNode_208 ?_
                      refine R_iald hX dX12_readsNode_209 a_148 ⟨by omega, by omega⟩ ?_
                      try simp (disch := omega) only [up_i, up_k, up_s]
                      refine R_iast hX dX12_readsNode_210 a_148 ⟨by omega, by omega⟩ ?_
                      refine R.eq rfl rfl (show _ = ndG F by unfold ndG; first | (rw [if_pos (by omega), Int.add_zero]; done) | (rw [if_pos (by omega)]; done) | (rw [if_neg (by omega)]; done)) ?_
                      refine R_aload_0 hX dX12_readsNode_211 ?_
                      refine R_dup hX c1_r dX12_readsNode_212 ?_
                      refine R_geti hX dX12_readsNode_213 fl_X12_182 o_136 rfl ?_
                      try simp (disch := omega) only [up_i, up_k, up_s]
                      refine R_iconst hX dX12_readsNode_216 ?_
                      refine R_iadd hX dX12_readsNode_217 ?_
                      refine R_puti hX dX12_readsNode_218 fl_X12_182 o_136 rfl ?_
                      exact R_vret hX dX12_readsNode_221 (by unfold ndS; rw [if_pos hg0])
                  · skip
                    refine R_aload_0 hX dX12_readsNode_160 ?_
                    refine R_v0i hX dX12_readsNode_161 li_X12_161 mk_X12_settingHere mi_X12_settingHere rfl o_136 (r_settingHere iv153_0.1) ⟨⟨by decide, by decide⟩, by decide, by decide, rfl, Nat.le_of_ble_eq_true rfl, rfl⟩ (fun x_161 F_161 h_161 => ?_)
                    obtain ⟨h_161, e_161⟩ := h_161; replace e_161 := e_161.symm; subst e_161
                    have hsr := stH_rng G
                    refine R_bipush hX dX12_readsNode_164 (by decide) ?_
                    refine R_icmpeq (tgt := 177) hX dX12_readsNode_166 (by decide) (by constructor <;> first | omega | (simp (disch := omega) only [up_k, up_i, up_s]; omega)) (by constructor <;> first | omega | (simp (disch := omega) only [up_k, up_i, up_s]; omega)) (fun c_166 => ?_) (fun c_166 => ?_)
                    · skip
                      have hGE : G = ndE F := by rw [← iv153_1, lpS_stop (by first | (intro z; exact absurd z.1 (by omega)) | (intro z; exact z.2 (by rw [← h_161]; exact c_166)))]
                      subst hGE
                      have h9E := nE.1.2.2.2.2.2.2.2.2.2.2 (7 * ndC F 136 22 + 1) (by omega) (by omega)
                      refine R_aload_0 hX dX12_readsNode_177 ?_
                      refine R_getq (v := 149) hX dX12_readsNode_178 fl_X12_58 o_136 rfl (by omega) ?_
                      refine R_bipush hX dX12_readsNode_181 (by decide) ?_
                      refine R_iload_1 hX dX12_readsNode_183 ?_
                      refine R_imul hX dX12_readsNode_184 ?_
                      refine R_iconst hX dX12_readsNode_185 ?_
                      refine R_iadd hX dX12_readsNode_186 ?_
                      refine R_zald hX dX12_readsNode_187 a_149 ⟨by omega, by omega⟩ ?_
                      try simp (disch := omega) only [up_i, up_k, up_s]
                      refine R_ifne (tgt := 211) hX dX12_readsNode_188 (by decide) (by constructor <;> first | omega | (simp (disch := omega) only [up_k, up_i, up_s]; omega)) (fun c_188 => ?_) (fun c_188 => ?_)
                      · skip
                        refine R.eq rfl rfl (show _ = ndG F by unfold ndG; first | (rw [if_pos (by omega), Int.add_zero]; done) | (rw [if_pos (by omega)]; done) | (rw [if_neg (by omega)]; done)) ?_
                        refine R_aload_0 hX dX12_readsNode_211 ?_
                        refine R_dup hX c1_r dX12_readsNode_212 ?_
                        refine R_geti hX dX12_readsNode_213 fl_X12_182 o_136 rfl ?_
                        try simp (disch := omega) only [up_i, up_k, up_s]
                        refine R_iconst hX dX12_readsNode_216 ?_
                        refine R_iadd hX dX12_readsNode_217 ?_
                        refine R_puti hX dX12_readsNode_218 fl_X12_182 o_136 rfl ?_
                        exact R_vret hX dX12_readsNode_221 (by unfold ndS; rw [if_pos hg0])
                      · skip
                        refine R_aload_0 hX dX12_readsNode_191 ?_
                        refine R_getq (v := 148) hX dX12_readsNode_192 fl_X12_55 o_136 rfl (by omega) ?_
                        refine R_bipush hX dX12_readsNode_195 (by decide) ?_
                        refine R_iload_1 hX dX12_readsNode_197 ?_
                        refine R_imul hX dX12_readsNode_198 ?_
                        refine R_iconst hX dX12_readsNode_199 ?_
                        refine R_iadd hX dX12_readsNode_200 ?_
                        refine R_aload_0 hX dX12_readsNode_201 ?_
                        refine R_getq (v := 148) hX dX12_readsNode_202 fl_X12_55 o_136 rfl (by omega) ?_
                        refine R_bipush hX dX12_readsNode_205 (by decide) ?_
                        refine R_iload_1 hX dX12_readsNode_207 ?_
                        refine R_imul hX dX12_readsNode_208 ?_
                        refine R_iald hX dX12_readsNode_209 a_148 ⟨by omega, by omega⟩ ?_
                        try simp (disch := omega) only [up_i, up_k, up_s]
                        refine R_iast hX dX12_readsNode_210 a_148 ⟨by omega, by omega⟩ ?_
                        refine R.eq rfl rfl (show _ = ndG F by unfold ndG; first | (rw [if_pos (by omega), Int.add_zero]; done) | (rw [if_pos (by omega)]; done) | (rw [if_neg (by omega)]; done)) ?_
                        refine R_aload_0 hX dX12_readsNode_211 ?_
                        refine R_dup hX c1_r dX12_readsNode_212 ?_
                        refine R_geti hX dX12_readsNode_213 fl_X12_182 o_136 rfl ?_
                        try simp (disch := omega) only [up_i, up_k, up_s]
                        refine R_iconst hX dX12_readsNode_216 ?_
                        refine R_iadd hX dX12_readsNode_217 ?_
                        refine R_puti hX dX12_readsNode_218 fl_X12_182 o_136 rfl ?_
                        exact R_vret hX dX12_readsNode_221 (by unfold ndS; rw [if_pos hg0])
                    · skip
                      have hk0 : 0 < k := by have q1 := iv153_0.1.1.2.2; have q2 := iv153_0.2.1; unfold AtQ at q2; omega
                      refine R_aload_0 hX dX12_readsNode_169 ?_
                      refine R_iload_1 hX dX12_readsNode_170 ?_
                      refine R_v1v hX dX12_readsNode_171 li_X12_202 mk_X12_readsSetting mi_X12_readsSetting rfl o_136 (r_readsSetting iv153_0.1 (by omega) (by rw [← h_161]; exact c_166)) ⟨⟨by decide, by decide⟩, by decide, by decide, rfl, Nat.le_of_ble_eq_true rfl, rfl⟩ (fun x_171 F_171 h_171 => ?_)
                      subst h_171
                      refine R_goto (tgt := 153) hX dX12_readsNode_174 (by decide) ?_
                      exact ih_153 (k - 1) _ iv153_0.rs (by rw [← iv153_1]; exact (lpS_go hk0 ⟨by omega, by rw [← h_161]; exact c_166⟩).symm) (by by_cases z : rsS (ndC F 136 22) G 136 19 = 0; (left; have q0 := rs_at iv153_0.1 iv153_0.2.1 (d := ndC F 136 22) (by omega) (by rw [← h_161]; exact c_166) z; have q3 : rsS (ndC F 136 22) G 136 14 = G 136 14 := rsS_r (by omega); have q1 := iv153_0.1.1.2.2; have q2 := iv153_0.2.1; unfold AtQ at q2; omega); exact Or.inr z) (by omega)
              refine R_drop_2 ?_
              refine R_drop_4 ?_
              have hx7 : x = 7 := by omega
              subst hx7
              have nI := Nx.inn nD (d := ndC F 136 22) 7
              refine R.eq rfl rfl (show _ = inS (ndC F 136 22) 7 (ndD F) from rfl) ?_
              exact lp_153 902 901 _ nI rfl (Or.inl (by have q1 := nI.2.2.1; have q2 := nI.2.1.1; have q3 := h1.1; omega)) (by omega)
            · skip
              refine R_aload_0 hX dX12_readsNode_95 ?_
              refine R_getq (v := 149) hX dX12_readsNode_96 fl_X12_58 o_136 rfl (by omega) ?_
              refine R_bipush hX dX12_readsNode_99 (by decide) ?_
              refine R_iload_1 hX dX12_readsNode_101 ?_
              refine R_imul hX dX12_readsNode_102 ?_
              refine R_iload_4 hX dX12_readsNode_103 ?_
              refine R_iadd hX dX12_readsNode_105 ?_
              refine R_iconst hX dX12_readsNode_106 ?_
              refine R_zast hX dX12_readsNode_107 a_149 ⟨by omega, by omega⟩ (Or.inl rfl) ?_
              refine R_aload_0 hX dX12_readsNode_108 ?_
              refine R_getq (v := 148) hX dX12_readsNode_109 fl_X12_55 o_136 rfl (by omega) ?_
              refine R_bipush hX dX12_readsNode_112 (by decide) ?_
              refine R_iload_1 hX dX12_readsNode_114 ?_
              refine R_imul hX dX12_readsNode_115 ?_
              refine R_iload_4 hX dX12_readsNode_116 ?_
              refine R_iadd hX dX12_readsNode_118 ?_
              refine R_iload_4 hX dX12_readsNode_119 ?_
              refine R_ifeq (tgt := 130) hX dX12_readsNode_121 (by decide) (by constructor <;> first | omega | (simp (disch := omega) only [up_k, up_i, up_s]; omega)) (fun c_121 => ?_) (fun c_121 => ?_)
              · skip
                refine R_iconst hX dX12_readsNode_130 ?_
                refine R_goto (tgt := 146) hX dX12_readsNode_131 (by decide) ?_
                refine R_iast hX dX12_readsNode_146 a_148 ⟨by omega, by omega⟩ ?_
                refine R.eq rfl rfl (show _ = inS (ndC F 136 22) (x + 1).toNat (ndD F) by rw [inS_s (by omega)]; unfold dfK; first | (rw [if_pos (by omega)]; done) | (rw [if_neg (by omega), if_pos (by omega)]; done) | (rw [if_neg (by omega), if_neg (by omega)]; done)) ?_
                refine R_iinc_4 hX c1_n dX12_readsNode_147 ?_
                refine R_goto (tgt := 88) hX dX12_readsNode_150 (by decide) ?_
                exact ih_88 (x + 1) (by omega) (by omega)
              · skip
                refine R_iload_4 hX dX12_readsNode_124 ?_
                refine R_iconst hX dX12_readsNode_126 ?_
                refine R_icmpne (tgt := 134) hX dX12_readsNode_127 (by decide) (by constructor <;> first | omega | (simp (disch := omega) only [up_k, up_i, up_s]; omega)) (by constructor <;> first | omega | (simp (disch := omega) only [up_k, up_i, up_s]; omega)) (fun c_127 => ?_) (fun c_127 => ?_)
                · skip
                  refine R_iload_4 hX dX12_readsNode_134 ?_
                  refine R_iconst hX dX12_readsNode_136 ?_
                  refine R_icmpne (tgt := 145) hX dX12_readsNode_137 (by decide) (by constructor <;> first | omega | (simp (disch := omega) only [up_k, up_i, up_s]; omega)) (by constructor <;> first | omega | (simp (disch := omega) only [up_k, up_i, up_s]; omega)) (fun c_137 => ?_) (fun c_137 => ?_)
                  · skip
                    refine R_iconst hX dX12_readsNode_145 ?_
                    refine R_iast hX dX12_readsNode_146 a_148 ⟨by omega, by omega⟩ ?_
                    refine R.eq rfl rfl (show _ = inS (ndC F 136 22) (x + 1).toNat (ndD F) by rw [inS_s (by omega)]; unfold dfK; first | (rw [if_pos (by omega)]; done) | (rw [if_neg (by omega), if_pos (by omega)]; done) | (rw [if_neg (by omega), if_neg (by omega)]; done)) ?_
                    refine R_iinc_4 hX c1_n dX12_readsNode_147 ?_
                    refine R_goto (tgt := 88) hX dX12_readsNode_150 (by decide) ?_
                    exact ih_88 (x + 1) (by omega) (by omega)
                  · skip
                    refine R_bipush hX dX12_readsNode_140 (by decide) ?_
                    refine R_goto (tgt := 146) hX dX12_readsNode_142 (by decide) ?_
                    refine R_iast hX dX12_readsNode_146 a_148 ⟨by omega, by omega⟩ ?_
                    refine R.eq rfl rfl (show _ = inS (ndC F 136 22) (x + 1).toNat (ndD F) by rw [inS_s (by omega)]; unfold dfK; first | (rw [if_pos (by omega)]; done) | (rw [if_neg (by omega), if_pos (by omega)]; done) | (rw [if_neg (by omega), if_neg (by omega)]; done)) ?_
                    refine R_iinc_4 hX c1_n dX12_readsNode_147 ?_
                    refine R_goto (tgt := 88) hX dX12_readsNode_150 (by decide) ?_
                    exact ih_88 (x + 1) (by omega) (by omega)
                · skip
                  refine R_iconst hX dX12_readsNode_130 ?_
                  refine R_goto (tgt := 146) hX dX12_readsNode_131 (by decide) ?_
                  refine R_iast hX dX12_readsNode_146 a_148 ⟨by omega, by omega⟩ ?_
                  refine R.eq rfl rfl (show _ = inS (ndC F 136 22) (x + 1).toNat (ndD F) by rw [inS_s (by omega)]; unfold dfK; first | (rw [if_pos (by omega)]; done) | (rw [if_neg (by omega), if_pos (by omega)]; done) | (rw [if_neg (by omega), if_neg (by omega)]; done)) ?_
                  refine R_iinc_4 hX c1_n dX12_readsNode_147 ?_
                  refine R_goto (tgt := 88) hX dX12_readsNode_150 (by decide) ?_
                  exact ih_88 (x + 1) (by omega) (by omega)
        exact lp_88 9 0 (by omega) (by omega)
      · skip
        exact R_vret hX dX12_readsNode_58 (by unfold ndS; rw [if_neg (by omega)])
  · skip
    refine R_iconst hX dX12_readsNode_10 ?_
    refine R_goto (tgt := 15) hX dX12_readsNode_11 (by decide) ?_
    refine R_iconst hX dX12_readsNode_15 ?_
    refine R_v2v hX dX12_readsNode_16 li_X12_175 mk_X12_must mi_X12_must rfl o_136 (r_must (by constructor <;> omega) (by constructor <;> omega) (by omega)) ⟨⟨by decide, by decide⟩, by decide, by decide, rfl, Nat.le_of_ble_eq_true rfl, rfl⟩ (fun x_16 F_16 h_16 => ?_)
    subst h_16
    refine R.eq rfl rfl (show _ = mu (F 136 22 < 12) 5 F from mu_iff (by omega)) ?_
    refine R_aload_0 hX dX12_readsNode_19 ?_
    refine R_v0v hX dX12_readsNode_20 li_X12_179 mk_X12_scans mi_X12_scans rfl o_136 (r_scans (h.mu (g := F 136 22 < 12) (c := 5) (by omega)).1 (by have z := (h.mu (g := F 136 22 < 12) (c := 5) (by omega)).2.1; constructor <;> omega)) ⟨⟨by decide, by decide⟩, by decide, by decide, rfl, Nat.le_of_ble_eq_true rfl, rfl⟩ (fun x_20 F_20 h_20 => ?_)
    subst h_20
    refine R.eq rfl rfl (show _ = ndA F from rfl) ?_
    refine R_aload_0 hX dX12_readsNode_23 ?_
    refine R_aload_0 hX dX12_readsNode_24 ?_
    refine R_v0i hX dX12_readsNode_25 li_X12_189 mk_X12_isName mi_X12_isName rfl o_136 (r_isName pA) ⟨⟨by decide, by decide⟩, by decide, by decide, rfl, Nat.le_of_ble_eq_true rfl, rfl⟩ (fun x_25 F_25 h_25 => ?_)
    obtain ⟨h_25, e_25⟩ := h_25; replace e_25 := e_25.symm; subst e_25
    refine R_iconst hX dX12_readsNode_28 ?_
    refine R_v2v hX dX12_readsNode_29 li_X12_175 mk_X12_must mi_X12_must rfl o_136 (r_must (by have z := (pA).2.1; constructor <;> omega) (by have z := (pA).2.2.1; constructor <;> omega) (by omega)) ⟨⟨by decide, by decide⟩, by decide, by decide, rfl, Nat.le_of_ble_eq_true rfl, rfl⟩ (fun x_29 F_29 h_29 => ?_)
    subst h_29
    refine R.eq rfl rfl (show _ = ndB F from mu_iff (by omega)) ?_
    refine R_aload_0 hX dX12_readsNode_32 ?_
    refine R_aload_0 hX dX12_readsNode_33 ?_
    refine R_v0i hX dX12_readsNode_34 li_X12_192 mk_X12_here mi_X12_here rfl o_136 (r_here pB) ⟨⟨by decide, by decide⟩, by decide, by decide, rfl, Nat.le_of_ble_eq_true rfl, rfl⟩ (fun x_34 F_34 h_34 => ?_)
    obtain ⟨h_34, e_34⟩ := h_34; replace e_34 := e_34.symm; subst e_34
    subst h_34
    have hhr := fnF_rng (nm := ndB F 140) (w := ndB F 136 21) (N := ndB F 136 22) 12 0
    change hrS (ndB F) = -2 ∨ (0 ≤ hrS (ndB F) ∧ hrS (ndB F) < ndB F 136 22 ∧ _) at hhr
    have b22 := pB.2.2.2.2.2.1
    refine R_bipush hX dX12_readsNode_37 (by decide) ?_
    refine R_icmpne (tgt := 46) hX dX12_readsNode_39 (by decide) (by constructor <;> first | omega | (simp (disch := omega) only [up_k, up_i, up_s]; omega)) (by constructor <;> first | omega | (simp (disch := omega) only [up_k, up_i, up_s]; omega)) (fun c_39 => ?_) (fun c_39 => ?_)
    · skip
      refine R_iconst hX dX12_readsNode_46 ?_
      refine R_iconst hX dX12_readsNode_47 ?_
      refine R_v2v hX dX12_readsNode_48 li_X12_175 mk_X12_must mi_X12_must rfl o_136 (r_must (by have z := (pB).2.1; constructor <;> omega) (by have z := (pB).2.2.1; constructor <;> omega) (by omega)) ⟨⟨by decide, by decide⟩, by decide, by decide, rfl, Nat.le_of_ble_eq_true rfl, rfl⟩ (fun x_48 F_48 h_48 => ?_)
      subst h_48
      refine R.eq rfl rfl (show _ = ndC F from mu_iff (by omega)) ?_
      refine R_aload_0 hX dX12_readsNode_51 ?_
      refine R_v0i hX dX12_readsNode_52 li_X12_112 mk_X12_isGood mi_X12_isGood rfl o_136 (r_isGood (by have z := nC.1.2.1; constructor <;> omega)) ⟨⟨by decide, by decide⟩, by decide, by decide, rfl, Nat.le_of_ble_eq_true rfl, rfl⟩ (fun x_52 F_52 h_52 => ?_)
      obtain ⟨h_52, e_52⟩ := h_52; replace e_52 := e_52.symm; subst e_52
      refine R_ifne (tgt := 59) hX dX12_readsNode_55 (by decide) (by constructor <;> first | omega | (simp (disch := omega) only [up_k, up_i, up_s]; omega)) (fun c_55 => ?_) (fun c_55 => ?_)
      · skip
        have hg0 : ndC F 136 19 = 0 := by omega
        have h12 := nd_22 hg0
        have e22 : ndC F 136 22 = F 136 22 := nC.2.2.2.1
        refine R_aload_0 hX dX12_readsNode_59 ?_
        refine R_geti hX dX12_readsNode_60 fl_X12_182 o_136 rfl ?_
        try simp (disch := omega) only [up_i, up_k, up_s]
        refine R_istore_1 hX c1_r dX12_readsNode_63 ?_
        refine R_aload_0 hX dX12_readsNode_64 ?_
        refine R_getl hX dX12_readsNode_65 fl_X12_132 o_136 rfl ?_
        try simp (disch := omega) only [up_i, up_k, up_s]
        refine R_lstore_2 hX c1_i dX12_readsNode_68 ?_
        refine R_aload_0 hX dX12_readsNode_69 ?_
        refine R_v0v hX dX12_readsNode_70 li_X12_179 mk_X12_scans mi_X12_scans rfl o_136 (r_scans (nC.1).1 (by have z := (nC.1).2.1; constructor <;> omega)) ⟨⟨by decide, by decide⟩, by decide, by decide, rfl, Nat.le_of_ble_eq_true rfl, rfl⟩ (fun x_70 F_70 h_70 => ?_)
        subst h_70
        refine R_aload_0 hX dX12_readsNode_73 ?_
        refine R_iload_1 hX dX12_readsNode_74 ?_
        refine R_v1v hX dX12_readsNode_75 li_X12_199 mk_X12_readsParent mi_X12_readsParent rfl o_136 (r_readsParent nC.1.sc (by omega)) ⟨⟨by decide, by decide⟩, by decide, by decide, rfl, Nat.le_of_ble_eq_true rfl, rfl⟩ (fun x_75 F_75 h_75 => ?_)
        subst h_75
        refine R_aload_0 hX dX12_readsNode_78 ?_
        refine R_getq (v := 140) hX dX12_readsNode_79 fl_X12_28 o_136 rfl (by omega) ?_
        refine R_iload_1 hX dX12_readsNode_82 ?_
        refine R_lload_2 hX dX12_readsNode_83 ?_
        refine R_last hX dX12_readsNode_84 a_140 ⟨by omega, by omega⟩ ?_
        refine R.eq rfl rfl (show _ = ndD F from rfl) ?_
        refine R_iconst hX dX12_readsNode_85 ?_
        refine R_istore_4 hX c1_n dX12_readsNode_86 ?_
        have lp_88 : ∀ (n : Nat) (x : Int), (0 ≤ x ∧ x ≤ 7) → (8 - x).toNat < n → R X SH 0 0 88 [some (vr (xV X) 136), some (vi (ndC F 136 22)), some (vl (ndC F 136 21)), none, some (vi x)] [] (inS (ndC F 136 22) x.toNat (ndD F)) (Zq X SH 0 (fun r F' => F' = ndS F) 0 0) := by
          intro n
          induction n with
          | zero => intro x iv88_0 hm; exact absurd hm (Nat.not_lt_zero _)
          | succ n ih_88 =>
            intro x iv88_0 hm_88
            refine R_iload_4 hX dX12_readsNode_88 ?_
            refine R_bipush hX dX12_readsNode_90 (by decide) ?_
            refine R_icmpge (tgt := 153) hX dX12_readsNode_92 (by decide) (by constructor <;> first | omega | (simp (disch := omega) only [up_k, up_i, up_s]; omega)) (by constructor <;> first | omega | (simp (disch := omega) only [up_k, up_i, up_s]; omega)) (fun c_92 => ?_) (fun c_92 => ?_)
            · skip
              have lp_153 : ∀ (n : Nat) (k : Nat) (G : Hp), (Nx F G) → (lpS (ndC F 136 22) k G = ndE F) → (G 136 14 - G 136 15 < k ∨ ¬ G 136 19 = 0) → k < n → R X SH 0 0 153 [some (vr (xV X) 136), some (vi (ndC F 136 22)), none, none, none] [] G (Zq X SH 0 (fun r F' => F' = ndS F) 0 0) := by
                intro n
                induction n with
                | zero => intro k G iv153_0 iv153_1 iv153_2 hm; exact absurd hm (Nat.not_lt_zero _)
                | succ n ih_153 =>
                  intro k G iv153_0 iv153_1 iv153_2 hm_153
                  refine R_aload_0 hX dX12_readsNode_153 ?_
                  refine R_v0i hX dX12_readsNode_154 li_X12_112 mk_X12_isGood mi_X12_isGood rfl o_136 (r_isGood (by have z := iv153_0.1.2.1; constructor <;> omega)) ⟨⟨by decide, by decide⟩, by decide, by decide, rfl, Nat.le_of_ble_eq_true rfl, rfl⟩ (fun x_154 F_154 h_154 => ?_)
                  obtain ⟨h_154, e_154⟩ := h_154; replace e_154 := e_154.symm; subst e_154
                  refine R_ifeq (tgt := 177) hX dX12_readsNode_157 (by decide) (by constructor <;> first | omega | (simp (disch := omega) only [up_k, up_i, up_s]; omega)) (fun c_157 => ?_) (fun c_157 => ?_)
                  · skip
                    have hGE : G = ndE F := by rw [← iv153_1, lpS_stop (by first | (intro z; exact absurd z.1 (by omega)) | (intro z; exact z.2 (by rw [← h_161]; exact c_166)))]
                    subst hGE
                    have h9E := nE.1.2.2.2.2.2.2.2.2.2.2 (7 * ndC F 136 22 + 1) (by omega) (by omega)
                    refine R_aload_0 hX dX12_readsNode_177 ?_
                    refine R_getq (v := 149) hX dX12_readsNode_178 fl_X12_58 o_136 rfl (by omega) ?_
                    refine R_bipush hX dX12_readsNode_181 (by decide) ?_
                    refine R_iload_1 hX dX12_readsNode_183 ?_
                    refine R_imul hX dX12_readsNode_184 ?_
                    refine R_iconst hX dX12_readsNode_185 ?_
                    refine R_iadd hX dX12_readsNode_186 ?_
                    refine R_zald hX dX12_readsNode_187 a_149 ⟨by omega, by omega⟩ ?_
                    try simp (disch := omega) only [up_i, up_k, up_s]
                    refine R_ifne (tgt := 211) hX dX12_readsNode_188 (by decide) (by constructor <;> first | omega | (simp (disch := omega) only [up_k, up_i, up_s]; omega)) (fun c_188 => ?_) (fun c_188 => ?_)
                    · skip
                      refine R.eq rfl rfl (show _ = ndG F by unfold ndG; first | (rw [if_pos (by omega), Int.add_zero]; done) | (rw [if_pos (by omega)]; done) | (rw [if_neg (by omega)]; done)) ?_
                      refine R_aload_0 hX dX12_readsNode_211 ?_
                      refine R_dup hX c1_r dX12_readsNode_212 ?_
                      refine R_geti hX dX12_readsNode_213 fl_X12_182 o_136 rfl ?_
                      try simp (disch := omega) only [up_i, up_k, up_s]
                      refine R_iconst hX dX12_readsNode_216 ?_
                      refine R_iadd hX dX12_readsNode_217 ?_
                      refine R_puti hX dX12_readsNode_218 fl_X12_182 o_136 rfl ?_
                      exact R_vret hX dX12_readsNode_221 (by unfold ndS; rw [if_pos hg0])
                    · skip
                      refine R_aload_0 hX dX12_readsNode_191 ?_
                      refine R_getq (v := 148) hX dX12_readsNode_192 fl_X12_55 o_136 rfl (by omega) ?_
                      refine R_bipush hX dX12_readsNode_195 (by decide) ?_
                      refine R_iload_1 hX dX12_readsNode_197 ?_
                      refine R_imul hX dX12_readsNode_198 ?_
                      refine R_iconst hX dX12_readsNode_199 ?_
                      refine R_iadd hX dX12_readsNode_200 ?_
                      refine R_aload_0 hX dX12_readsNode_201 ?_
                      refine R_getq (v := 148) hX dX12_readsNode_202 fl_X12_55 o_136 rfl (by omega) ?_
                      refine R_bipush hX dX12_readsNode_205 (by decide) ?_
                      refine R_iload_1 hX dX12_readsNode_207 ?_
                      refine R_imul hX dX12_readsNode_208 ?_
                      refine R_iald hX dX12_readsNode_209 a_148 ⟨by omega, by omega⟩ ?_
                      try simp (disch := omega) only [up_i, up_k, up_s]
                      refine R_iast hX dX12_readsNode_210 a_148 ⟨by omega, by omega⟩ ?_
                      refine R.eq rfl rfl (show _ = ndG F by unfold ndG; first | (rw [if_pos (by omega), Int.add_zero]; done) | (rw [if_pos (by omega)]; done) | (rw [if_neg (by omega)]; done)) ?_
                      refine R_aload_0 hX dX12_readsNode_211 ?_
                      refine R_dup hX c1_r dX12_readsNode_212 ?_
                      refine R_geti hX dX12_readsNode_213 fl_X12_182 o_136 rfl ?_
                      try simp (disch := omega) only [up_i, up_k, up_s]
                      refine R_iconst hX dX12_readsNode_216 ?_
                      refine R_iadd hX dX12_readsNode_217 ?_
                      refine R_puti hX dX12_readsNode_218 fl_X12_182 o_136 rfl ?_
                      exact R_vret hX dX12_readsNode_221 (by unfold ndS; rw [if_pos hg0])
                  · skip
                    refine R_aload_0 hX dX12_readsNode_160 ?_
                    refine R_v0i hX dX12_readsNode_161 li_X12_161 mk_X12_settingHere mi_X12_settingHere rfl o_136 (r_settingHere iv153_0.1) ⟨⟨by decide, by decide⟩, by decide, by decide, rfl, Nat.le_of_ble_eq_true rfl, rfl⟩ (fun x_161 F_161 h_161 => ?_)
                    obtain ⟨h_161, e_161⟩ := h_161; replace e_161 := e_161.symm; subst e_161
                    have hsr := stH_rng G
                    refine R_bipush hX dX12_readsNode_164 (by decide) ?_
                    refine R_icmpeq (tgt := 177) hX dX12_readsNode_166 (by decide) (by constructor <;> first | omega | (simp (disch := omega) only [up_k, up_i, up_s]; omega)) (by constructor <;> first | omega | (simp (disch := omega) only [up_k, up_i, up_s]; omega)) (fun c_166 => ?_) (fun c_166 => ?_)
                    · skip
                      have hGE : G = ndE F := by rw [← iv153_1, lpS_stop (by first | (intro z; exact absurd z.1 (by omega)) | (intro z; exact z.2 (by rw [← h_161]; exact c_166)))]
                      subst hGE
                      have h9E := nE.1.2.2.2.2.2.2.2.2.2.2 (7 * ndC F 136 22 + 1) (by omega) (by omega)
                      refine R_aload_0 hX dX12_readsNode_177 ?_
                      refine R_getq (v := 149) hX dX12_readsNode_178 fl_X12_58 o_136 rfl (by omega) ?_
                      refine R_bipush hX dX12_readsNode_181 (by decide) ?_
                      refine R_iload_1 hX dX12_readsNode_183 ?_
                      refine R_imul hX dX12_readsNode_184 ?_
                      refine R_iconst hX dX12_readsNode_185 ?_
                      refine R_iadd hX dX12_readsNode_186 ?_
                      refine R_zald hX dX12_readsNode_187 a_149 ⟨by omega, by omega⟩ ?_
                      try simp (disch := omega) only [up_i, up_k, up_s]
                      refine R_ifne (tgt := 211) hX dX12_readsNode_188 (by decide) (by constructor <;> first | omega | (simp (disch := omega) only [up_k, up_i, up_s]; omega)) (fun c_188 => ?_) (fun c_188 => ?_)
                      · skip
                        refine R.eq rfl rfl (show _ = ndG F by unfold ndG; first | (rw [if_pos (by omega), Int.add_zero]; done) | (rw [if_pos (by omega)]; done) | (rw [if_neg (by omega)]; done)) ?_
                        refine R_aload_0 hX dX12_readsNode_211 ?_
                        refine R_dup hX c1_r dX12_readsNode_212 ?_
                        refine R_geti hX dX12_readsNode_213 fl_X12_182 o_136 rfl ?_
                        try simp (disch := omega) only [up_i, up_k, up_s]
                        refine R_iconst hX dX12_readsNode_216 ?_
                        refine R_iadd hX dX12_readsNode_217 ?_
                        refine R_puti hX dX12_readsNode_218 fl_X12_182 o_136 rfl ?_
                        exact R_vret hX dX12_readsNode_221 (by unfold ndS; rw [if_pos hg0])
                      · skip
                        refine R_aload_0 hX dX12_readsNode_191 ?_
                        refine R_getq (v := 148) hX dX12_readsNode_192 fl_X12_55 o_136 rfl (by omega) ?_
                        refine R_bipush hX dX12_readsNode_195 (by decide) ?_
                        refine R_iload_1 hX dX12_readsNode_197 ?_
                        refine R_imul hX dX12_readsNode_198 ?_
                        refine R_iconst hX dX12_readsNode_199 ?_
                        refine R_iadd hX dX12_readsNode_200 ?_
                        refine R_aload_0 hX dX12_readsNode_201 ?_
                        refine R_getq (v := 148) hX dX12_readsNode_202 fl_X12_55 o_136 rfl (by omega) ?_
                        refine R_bipush hX dX12_readsNode_205 (by decide) ?_
                        refine R_iload_1 hX dX12_readsNode_207 ?_
                        refine R_imul hX dX12_readsNode_208 ?_
                        refine R_iald hX dX12_readsNode_209 a_148 ⟨by omega, by omega⟩ ?_
                        try simp (disch := omega) only [up_i, up_k, up_s]
                        refine R_iast hX dX12_readsNode_210 a_148 ⟨by omega, by omega⟩ ?_
                        refine R.eq rfl rfl (show _ = ndG F by unfold ndG; first | (rw [if_pos (by omega), Int.add_zero]; done) | (rw [if_pos (by omega)]; done) | (rw [if_neg (by omega)]; done)) ?_
                        refine R_aload_0 hX dX12_readsNode_211 ?_
                        refine R_dup hX c1_r dX12_readsNode_212 ?_
                        refine R_geti hX dX12_readsNode_213 fl_X12_182 o_136 rfl ?_
                        try simp (disch := omega) only [up_i, up_k, up_s]
                        refine R_iconst hX dX12_readsNode_216 ?_
                        refine R_iadd hX dX12_readsNode_217 ?_
                        refine R_puti hX dX12_readsNode_218 fl_X12_182 o_136 rfl ?_
                        exact R_vret hX dX12_readsNode_221 (by unfold ndS; rw [if_pos hg0])
                    · skip
                      have hk0 : 0 < k := by have q1 := iv153_0.1.1.2.2; have q2 := iv153_0.2.1; unfold AtQ at q2; omega
                      refine R_aload_0 hX dX12_readsNode_169 ?_
                      refine R_iload_1 hX dX12_readsNode_170 ?_
                      refine R_v1v hX dX12_readsNode_171 li_X12_202 mk_X12_readsSetting mi_X12_readsSetting rfl o_136 (r_readsSetting iv153_0.1 (by omega) (by rw [← h_161]; exact c_166)) ⟨⟨by decide, by decide⟩, by decide, by decide, rfl, Nat.le_of_ble_eq_true rfl, rfl⟩ (fun x_171 F_171 h_171 => ?_)
                      subst h_171
                      refine R_goto (tgt := 153) hX dX12_readsNode_174 (by decide) ?_
                      exact ih_153 (k - 1) _ iv153_0.rs (by rw [← iv153_1]; exact (lpS_go hk0 ⟨by omega, by rw [← h_161]; exact c_166⟩).symm) (by by_cases z : rsS (ndC F 136 22) G 136 19 = 0; (left; have q0 := rs_at iv153_0.1 iv153_0.2.1 (d := ndC F 136 22) (by omega) (by rw [← h_161]; exact c_166) z; have q3 : rsS (ndC F 136 22) G 136 14 = G 136 14 := rsS_r (by omega); have q1 := iv153_0.1.1.2.2; have q2 := iv153_0.2.1; unfold AtQ at q2; omega); exact Or.inr z) (by omega)
              refine R_drop_2 ?_
              refine R_drop_4 ?_
              have hx7 : x = 7 := by omega
              subst hx7
              have nI := Nx.inn nD (d := ndC F 136 22) 7
              refine R.eq rfl rfl (show _ = inS (ndC F 136 22) 7 (ndD F) from rfl) ?_
              exact lp_153 902 901 _ nI rfl (Or.inl (by have q1 := nI.2.2.1; have q2 := nI.2.1.1; have q3 := h1.1; omega)) (by omega)
            · skip
              refine R_aload_0 hX dX12_readsNode_95 ?_
              refine R_getq (v := 149) hX dX12_readsNode_96 fl_X12_58 o_136 rfl (by omega) ?_
              refine R_bipush hX dX12_readsNode_99 (by decide) ?_
              refine R_iload_1 hX dX12_readsNode_101 ?_
              refine R_imul hX dX12_readsNode_102 ?_
              refine R_iload_4 hX dX12_readsNode_103 ?_
              refine R_iadd hX dX12_readsNode_105 ?_
              refine R_iconst hX dX12_readsNode_106 ?_
              refine R_zast hX dX12_readsNode_107 a_149 ⟨by omega, by omega⟩ (Or.inl rfl) ?_
              refine R_aload_0 hX dX12_readsNode_108 ?_
              refine R_getq (v := 148) hX dX12_readsNode_109 fl_X12_55 o_136 rfl (by omega) ?_
              refine R_bipush hX dX12_readsNode_112 (by decide) ?_
              refine R_iload_1 hX dX12_readsNode_114 ?_
              refine R_imul hX dX12_readsNode_115 ?_
              refine R_iload_4 hX dX12_readsNode_116 ?_
              refine R_iadd hX dX12_readsNode_118 ?_
              refine R_iload_4 hX dX12_readsNode_119 ?_
              refine R_ifeq (tgt := 130) hX dX12_readsNode_121 (by decide) (by constructor <;> first | omega | (simp (disch := omega) only [up_k, up_i, up_s]; omega)) (fun c_121 => ?_) (fun c_121 => ?_)
              · skip
                refine R_iconst hX dX12_readsNode_130 ?_
                refine R_goto (tgt := 146) hX dX12_readsNode_131 (by decide) ?_
                refine R_iast hX dX12_readsNode_146 a_148 ⟨by omega, by omega⟩ ?_
                refine R.eq rfl rfl (show _ = inS (ndC F 136 22) (x + 1).toNat (ndD F) by rw [inS_s (by omega)]; unfold dfK; first | (rw [if_pos (by omega)]; done) | (rw [if_neg (by omega), if_pos (by omega)]; done) | (rw [if_neg (by omega), if_neg (by omega)]; done)) ?_
                refine R_iinc_4 hX c1_n dX12_readsNode_147 ?_
                refine R_goto (tgt := 88) hX dX12_readsNode_150 (by decide) ?_
                exact ih_88 (x + 1) (by omega) (by omega)
              · skip
                refine R_iload_4 hX dX12_readsNode_124 ?_
                refine R_iconst hX dX12_readsNode_126 ?_
                refine R_icmpne (tgt := 134) hX dX12_readsNode_127 (by decide) (by constructor <;> first | omega | (simp (disch := omega) only [up_k, up_i, up_s]; omega)) (by constructor <;> first | omega | (simp (disch := omega) only [up_k, up_i, up_s]; omega)) (fun c_127 => ?_) (fun c_127 => ?_)
                · skip
                  refine R_iload_4 hX dX12_readsNode_134 ?_
                  refine R_iconst hX dX12_readsNode_136 ?_
                  refine R_icmpne (tgt := 145) hX dX12_readsNode_137 (by decide) (by constructor <;> first | omega | (simp (disch := omega) only [up_k, up_i, up_s]; omega)) (by constructor <;> first | omega | (simp (disch := omega) only [up_k, up_i, up_s]; omega)) (fun c_137 => ?_) (fun c_137 => ?_)
                  · skip
                    refine R_iconst hX dX12_readsNode_145 ?_
                    refine R_iast hX dX12_readsNode_146 a_148 ⟨by omega, by omega⟩ ?_
                    refine R.eq rfl rfl (show _ = inS (ndC F 136 22) (x + 1).toNat (ndD F) by rw [inS_s (by omega)]; unfold dfK; first | (rw [if_pos (by omega)]; done) | (rw [if_neg (by omega), if_pos (by omega)]; done) | (rw [if_neg (by omega), if_neg (by omega)]; done)) ?_
                    refine R_iinc_4 hX c1_n dX12_readsNode_147 ?_
                    refine R_goto (tgt := 88) hX dX12_readsNode_150 (by decide) ?_
                    exact ih_88 (x + 1) (by omega) (by omega)
                  · skip
                    refine R_bipush hX dX12_readsNode_140 (by decide) ?_
                    refine R_goto (tgt := 146) hX dX12_readsNode_142 (by decide) ?_
                    refine R_iast hX dX12_readsNode_146 a_148 ⟨by omega, by omega⟩ ?_
                    refine R.eq rfl rfl (show _ = inS (ndC F 136 22) (x + 1).toNat (ndD F) by rw [inS_s (by omega)]; unfold dfK; first | (rw [if_pos (by omega)]; done) | (rw [if_neg (by omega), if_pos (by omega)]; done) | (rw [if_neg (by omega), if_neg (by omega)]; done)) ?_
                    refine R_iinc_4 hX c1_n dX12_readsNode_147 ?_
                    refine R_goto (tgt := 88) hX dX12_readsNode_150 (by decide) ?_
                    exact ih_88 (x + 1) (by omega) (by omega)
                · skip
                  refine R_iconst hX dX12_readsNode_130 ?_
                  refine R_goto (tgt := 146) hX dX12_readsNode_131 (by decide) ?_
                  refine R_iast hX dX12_readsNode_146 a_148 ⟨by omega, by omega⟩ ?_
                  refine R.eq rfl rfl (show _ = inS (ndC F 136 22) (x + 1).toNat (ndD F) by rw [inS_s (by omega)]; unfold dfK; first | (rw [if_pos (by omega)]; done) | (rw [if_neg (by omega), if_pos (by omega)]; done) | (rw [if_neg (by omega), if_neg (by omega)]; done)) ?_
                  refine R_iinc_4 hX c1_n dX12_readsNode_147 ?_
                  refine R_goto (tgt := 88) hX dX12_readsNode_150 (by decide) ?_
                  exact ih_88 (x + 1) (by omega) (by omega)
        exact lp_88 9 0 (by omega) (by omega)
      · skip
        exact R_vret hX dX12_readsNode_58 (by unfold ndS; rw [if_neg (by omega)])
    · skip
      refine R_iconst hX dX12_readsNode_42 ?_
      refine R_goto (tgt := 47) hX dX12_readsNode_43 (by decide) ?_
      refine R_iconst hX dX12_readsNode_47 ?_
      refine R_v2v hX dX12_readsNode_48 li_X12_175 mk_X12_must mi_X12_must rfl o_136 (r_must (by have z := (pB).2.1; constructor <;> omega) (by have z := (pB).2.2.1; constructor <;> omega) (by omega)) ⟨⟨by decide, by decide⟩, by decide, by decide, rfl, Nat.le_of_ble_eq_true rfl, rfl⟩ (fun x_48 F_48 h_48 => ?_)
      subst h_48
      refine R.eq rfl rfl (show _ = ndC F from mu_iff (by omega)) ?_
      refine R_aload_0 hX dX12_readsNode_51 ?_
      refine R_v0i hX dX12_readsNode_52 li_X12_112 mk_X12_isGood mi_X12_isGood rfl o_136 (r_isGood (by have z := nC.1.2.1; constructor <;> omega)) ⟨⟨by decide, by decide⟩, by decide, by decide, rfl, Nat.le_of_ble_eq_true rfl, rfl⟩ (fun x_52 F_52 h_52 => ?_)
      obtain ⟨h_52, e_52⟩ := h_52; replace e_52 := e_52.symm; subst e_52
      refine R_ifne (tgt := 59) hX dX12_readsNode_55 (by decide) (by constructor <;> first | omega | (simp (disch := omega) only [up_k, up_i, up_s]; omega)) (fun c_55 => ?_) (fun c_55 => ?_)
      · skip
        have hg0 : ndC F 136 19 = 0 := by omega
        have h12 := nd_22 hg0
        have e22 : ndC F 136 22 = F 136 22 := nC.2.2.2.1
        refine R_aload_0 hX dX12_readsNode_59 ?_
        refine R_geti hX dX12_readsNode_60 fl_X12_182 o_136 rfl ?_
        try simp (disch := omega) only [up_i, up_k, up_s]
        refine R_istore_1 hX c1_r dX12_readsNode_63 ?_
        refine R_aload_0 hX dX12_readsNode_64 ?_
        refine R_getl hX dX12_readsNode_65 fl_X12_132 o_136 rfl ?_
        try simp (disch := omega) only [up_i, up_k, up_s]
        refine R_lstore_2 hX c1_i dX12_readsNode_68 ?_
        refine R_aload_0 hX dX12_readsNode_69 ?_
        refine R_v0v hX dX12_readsNode_70 li_X12_179 mk_X12_scans mi_X12_scans rfl o_136 (r_scans (nC.1).1 (by have z := (nC.1).2.1; constructor <;> omega)) ⟨⟨by decide, by decide⟩, by decide, by decide, rfl, Nat.le_of_ble_eq_true rfl, rfl⟩ (fun x_70 F_70 h_70 => ?_)
        subst h_70
        refine R_aload_0 hX dX12_readsNode_73 ?_
        refine R_iload_1 hX dX12_readsNode_74 ?_
        refine R_v1v hX dX12_readsNode_75 li_X12_199 mk_X12_readsParent mi_X12_readsParent rfl o_136 (r_readsParent nC.1.sc (by omega)) ⟨⟨by decide, by decide⟩, by decide, by decide, rfl, Nat.le_of_ble_eq_true rfl, rfl⟩ (fun x_75 F_75 h_75 => ?_)
        subst h_75
        refine R_aload_0 hX dX12_readsNode_78 ?_
        refine R_getq (v := 140) hX dX12_readsNode_79 fl_X12_28 o_136 rfl (by omega) ?_
        refine R_iload_1 hX dX12_readsNode_82 ?_
        refine R_lload_2 hX dX12_readsNode_83 ?_
        refine R_last hX dX12_readsNode_84 a_140 ⟨by omega, by omega⟩ ?_
        refine R.eq rfl rfl (show _ = ndD F from rfl) ?_
        refine R_iconst hX dX12_readsNode_85 ?_
        refine R_istore_4 hX c1_n dX12_readsNode_86 ?_
        have lp_88 : ∀ (n : Nat) (x : Int), (0 ≤ x ∧ x ≤ 7) → (8 - x).toNat < n → R X SH 0 0 88 [some (vr (xV X) 136), some (vi (ndC F 136 22)), some (vl (ndC F 136 21)), none, some (vi x)] [] (inS (ndC F 136 22) x.toNat (ndD F)) (Zq X SH 0 (fun r F' => F' = ndS F) 0 0) := by
          intro n
          induction n with
          | zero => intro x iv88_0 hm; exact absurd hm (Nat.not_lt_zero _)
          | succ n ih_88 =>
            intro x iv88_0 hm_88
            refine R_iload_4 hX dX12_readsNode_88 ?_
            refine R_bipush hX dX12_readsNode_90 (by decide) ?_
            refine R_icmpge (tgt := 153) hX dX12_readsNode_92 (by decide) (by constructor <;> first | omega | (simp (disch := omega) only [up_k, up_i, up_s]; omega)) (by constructor <;> first | omega | (simp (disch := omega) only [up_k, up_i, up_s]; omega)) (fun c_92 => ?_) (fun c_92 => ?_)
            · skip
              have lp_153 : ∀ (n : Nat) (k : Nat) (G : Hp), (Nx F G) → (lpS (ndC F 136 22) k G = ndE F) → (G 136 14 - G 136 15 < k ∨ ¬ G 136 19 = 0) → k < n → R X SH 0 0 153 [some (vr (xV X) 136), some (vi (ndC F 136 22)), none, none, none] [] G (Zq X SH 0 (fun r F' => F' = ndS F) 0 0) := by
                intro n
                induction n with
                | zero => intro k G iv153_0 iv153_1 iv153_2 hm; exact absurd hm (Nat.not_lt_zero _)
                | succ n ih_153 =>
                  intro k G iv153_0 iv153_1 iv153_2 hm_153
                  refine R_aload_0 hX dX12_readsNode_153 ?_
                  refine R_v0i hX dX12_readsNode_154 li_X12_112 mk_X12_isGood mi_X12_isGood rfl o_136 (r_isGood (by have z := iv153_0.1.2.1; constructor <;> omega)) ⟨⟨by decide, by decide⟩, by decide, by decide, rfl, Nat.le_of_ble_eq_true rfl, rfl⟩ (fun x_154 F_154 h_154 => ?_)
                  obtain ⟨h_154, e_154⟩ := h_154; replace e_154 := e_154.symm; subst e_154
                  refine R_ifeq (tgt := 177) hX dX12_readsNode_157 (by decide) (by constructor <;> first | omega | (simp (disch := omega) only [up_k, up_i, up_s]; omega)) (fun c_157 => ?_) (fun c_157 => ?_)
                  · skip
                    have hGE : G = ndE F := by rw [← iv153_1, lpS_stop (by first | (intro z; exact absurd z.1 (by omega)) | (intro z; exact z.2 (by rw [← h_161]; exact c_166)))]
                    subst hGE
                    have h9E := nE.1.2.2.2.2.2.2.2.2.2.2 (7 * ndC F 136 22 + 1) (by omega) (by omega)
                    refine R_aload_0 hX dX12_readsNode_177 ?_
                    refine R_getq (v := 149) hX dX12_readsNode_178 fl_X12_58 o_136 rfl (by omega) ?_
                    refine R_bipush hX dX12_readsNode_181 (by decide) ?_
                    refine R_iload_1 hX dX12_readsNode_183 ?_
                    refine R_imul hX dX12_readsNode_184 ?_
                    refine R_iconst hX dX12_readsNode_185 ?_
                    refine R_iadd hX dX12_readsNode_186 ?_
                    refine R_zald hX dX12_readsNode_187 a_149 ⟨by omega, by omega⟩ ?_
                    try simp (disch := omega) only [up_i, up_k, up_s]
                    refine R_ifne (tgt := 211) hX dX12_readsNode_188 (by decide) (by constructor <;> first | omega | (simp (disch := omega) only [up_k, up_i, up_s]; omega)) (fun c_188 => ?_) (fun c_188 => ?_)
                    · skip
                      refine R.eq rfl rfl (show _ = ndG F by unfold ndG; first | (rw [if_pos (by omega), Int.add_zero]; done) | (rw [if_pos (by omega)]; done) | (rw [if_neg (by omega)]; done)) ?_
                      refine R_aload_0 hX dX12_readsNode_211 ?_
                      refine R_dup hX c1_r dX12_readsNode_212 ?_
                      refine R_geti hX dX12_readsNode_213 fl_X12_182 o_136 rfl ?_
                      try simp (disch := omega) only [up_i, up_k, up_s]
                      refine R_iconst hX dX12_readsNode_216 ?_
                      refine R_iadd hX dX12_readsNode_217 ?_
                      refine R_puti hX dX12_readsNode_218 fl_X12_182 o_136 rfl ?_
                      exact R_vret hX dX12_readsNode_221 (by unfold ndS; rw [if_pos hg0])
                    · skip
                      refine R_aload_0 hX dX12_readsNode_191 ?_
                      refine R_getq (v := 148) hX dX12_readsNode_192 fl_X12_55 o_136 rfl (by omega) ?_
                      refine R_bipush hX dX12_readsNode_195 (by decide) ?_
                      refine R_iload_1 hX dX12_readsNode_197 ?_
                      refine R_imul hX dX12_readsNode_198 ?_
                      refine R_iconst hX dX12_readsNode_199 ?_
                      refine R_iadd hX dX12_readsNode_200 ?_
                      refine R_aload_0 hX dX12_readsNode_201 ?_
                      refine R_getq (v := 148) hX dX12_readsNode_202 fl_X12_55 o_136 rfl (by omega) ?_
                      refine R_bipush hX dX12_readsNode_205 (by decide) ?_
                      refine R_iload_1 hX dX12_readsNode_207 ?_
                      refine R_imul hX dX12_readsNode_208 ?_
                      refine R_iald hX dX12_readsNode_209 a_148 ⟨by omega, by omega⟩ ?_
                      try simp (disch := omega) only [up_i, up_k, up_s]
                      refine R_iast hX dX12_readsNode_210 a_148 ⟨by omega, by omega⟩ ?_
                      refine R.eq rfl rfl (show _ = ndG F by unfold ndG; first | (rw [if_pos (by omega), Int.add_zero]; done) | (rw [if_pos (by omega)]; done) | (rw [if_neg (by omega)]; done)) ?_
                      refine R_aload_0 hX dX12_readsNode_211 ?_
                      refine R_dup hX c1_r dX12_readsNode_212 ?_
                      refine R_geti hX dX12_readsNode_213 fl_X12_182 o_136 rfl ?_
                      try simp (disch := omega) only [up_i, up_k, up_s]
                      refine R_iconst hX dX12_readsNode_216 ?_
                      refine R_iadd hX dX12_readsNode_217 ?_
                      refine R_puti hX dX12_readsNode_218 fl_X12_182 o_136 rfl ?_
                      exact R_vret hX dX12_readsNode_221 (by unfold ndS; rw [if_pos hg0])
                  · skip
                    refine R_aload_0 hX dX12_readsNode_160 ?_
                    refine R_v0i hX dX12_readsNode_161 li_X12_161 mk_X12_settingHere mi_X12_settingHere rfl o_136 (r_settingHere iv153_0.1) ⟨⟨by decide, by decide⟩, by decide, by decide, rfl, Nat.le_of_ble_eq_true rfl, rfl⟩ (fun x_161 F_161 h_161 => ?_)
                    obtain ⟨h_161, e_161⟩ := h_161; replace e_161 := e_161.symm; subst e_161
                    have hsr := stH_rng G
                    refine R_bipush hX dX12_readsNode_164 (by decide) ?_
                    refine R_icmpeq (tgt := 177) hX dX12_readsNode_166 (by decide) (by constructor <;> first | omega | (simp (disch := omega) only [up_k, up_i, up_s]; omega)) (by constructor <;> first | omega | (simp (disch := omega) only [up_k, up_i, up_s]; omega)) (fun c_166 => ?_) (fun c_166 => ?_)
                    · skip
                      have hGE : G = ndE F := by rw [← iv153_1, lpS_stop (by first | (intro z; exact absurd z.1 (by omega)) | (intro z; exact z.2 (by rw [← h_161]; exact c_166)))]
                      subst hGE
                      have h9E := nE.1.2.2.2.2.2.2.2.2.2.2 (7 * ndC F 136 22 + 1) (by omega) (by omega)
                      refine R_aload_0 hX dX12_readsNode_177 ?_
                      refine R_getq (v := 149) hX dX12_readsNode_178 fl_X12_58 o_136 rfl (by omega) ?_
                      refine R_bipush hX dX12_readsNode_181 (by decide) ?_
                      refine R_iload_1 hX dX12_readsNode_183 ?_
                      refine R_imul hX dX12_readsNode_184 ?_
                      refine R_iconst hX dX12_readsNode_185 ?_
                      refine R_iadd hX dX12_readsNode_186 ?_
                      refine R_zald hX dX12_readsNode_187 a_149 ⟨by omega, by omega⟩ ?_
                      try simp (disch := omega) only [up_i, up_k, up_s]
                      refine R_ifne (tgt := 211) hX dX12_readsNode_188 (by decide) (by constructor <;> first | omega | (simp (disch := omega) only [up_k, up_i, up_s]; omega)) (fun c_188 => ?_) (fun c_188 => ?_)
                      · skip
                        refine R.eq rfl rfl (show _ = ndG F by unfold ndG; first | (rw [if_pos (by omega), Int.add_zero]; done) | (rw [if_pos (by omega)]; done) | (rw [if_neg (by omega)]; done)) ?_
                        refine R_aload_0 hX dX12_readsNode_211 ?_
                        refine R_dup hX c1_r dX12_readsNode_212 ?_
                        refine R_geti hX dX12_readsNode_213 fl_X12_182 o_136 rfl ?_
                        try simp (disch := omega) only [up_i, up_k, up_s]
                        refine R_iconst hX dX12_readsNode_216 ?_
                        refine R_iadd hX dX12_readsNode_217 ?_
                        refine R_puti hX dX12_readsNode_218 fl_X12_182 o_136 rfl ?_
                        exact R_vret hX dX12_readsNode_221 (by unfold ndS; rw [if_pos hg0])
                      · skip
                        refine R_aload_0 hX dX12_readsNode_191 ?_
                        refine R_getq (v := 148) hX dX12_readsNode_192 fl_X12_55 o_136 rfl (by omega) ?_
                        refine R_bipush hX dX12_readsNode_195 (by decide) ?_
                        refine R_iload_1 hX dX12_readsNode_197 ?_
                        refine R_imul hX dX12_readsNode_198 ?_
                        refine R_iconst hX dX12_readsNode_199 ?_
                        refine R_iadd hX dX12_readsNode_200 ?_
                        refine R_aload_0 hX dX12_readsNode_201 ?_
                        refine R_getq (v := 148) hX dX12_readsNode_202 fl_X12_55 o_136 rfl (by omega) ?_
                        refine R_bipush hX dX12_readsNode_205 (by decide) ?_
                        refine R_iload_1 hX dX12_readsNode_207 ?_
                        refine R_imul hX dX12_readsNode_208 ?_
                        refine R_iald hX dX12_readsNode_209 a_148 ⟨by omega, by omega⟩ ?_
                        try simp (disch := omega) only [up_i, up_k, up_s]
                        refine R_iast hX dX12_readsNode_210 a_148 ⟨by omega, by omega⟩ ?_
                        refine R.eq rfl rfl (show _ = ndG F by unfold ndG; first | (rw [if_pos (by omega), Int.add_zero]; done) | (rw [if_pos (by omega)]; done) | (rw [if_neg (by omega)]; done)) ?_
                        refine R_aload_0 hX dX12_readsNode_211 ?_
                        refine R_dup hX c1_r dX12_readsNode_212 ?_
                        refine R_geti hX dX12_readsNode_213 fl_X12_182 o_136 rfl ?_
                        try simp (disch := omega) only [up_i, up_k, up_s]
                        refine R_iconst hX dX12_readsNode_216 ?_
                        refine R_iadd hX dX12_readsNode_217 ?_
                        refine R_puti hX dX12_readsNode_218 fl_X12_182 o_136 rfl ?_
                        exact R_vret hX dX12_readsNode_221 (by unfold ndS; rw [if_pos hg0])
                    · skip
                      have hk0 : 0 < k := by have q1 := iv153_0.1.1.2.2; have q2 := iv153_0.2.1; unfold AtQ at q2; omega
                      refine R_aload_0 hX dX12_readsNode_169 ?_
                      refine R_iload_1 hX dX12_readsNode_170 ?_
                      refine R_v1v hX dX12_readsNode_171 li_X12_202 mk_X12_readsSetting mi_X12_readsSetting rfl o_136 (r_readsSetting iv153_0.1 (by omega) (by rw [← h_161]; exact c_166)) ⟨⟨by decide, by decide⟩, by decide, by decide, rfl, Nat.le_of_ble_eq_true rfl, rfl⟩ (fun x_171 F_171 h_171 => ?_)
                      subst h_171
                      refine R_goto (tgt := 153) hX dX12_readsNode_174 (by decide) ?_
                      exact ih_153 (k - 1) _ iv153_0.rs (by rw [← iv153_1]; exact (lpS_go hk0 ⟨by omega, by rw [← h_161]; exact c_166⟩).symm) (by by_cases z : rsS (ndC F 136 22) G 136 19 = 0; (left; have q0 := rs_at iv153_0.1 iv153_0.2.1 (d := ndC F 136 22) (by omega) (by rw [← h_161]; exact c_166) z; have q3 : rsS (ndC F 136 22) G 136 14 = G 136 14 := rsS_r (by omega); have q1 := iv153_0.1.1.2.2; have q2 := iv153_0.2.1; unfold AtQ at q2; omega); exact Or.inr z) (by omega)
              refine R_drop_2 ?_
              refine R_drop_4 ?_
              have hx7 : x = 7 := by omega
              subst hx7
              have nI := Nx.inn nD (d := ndC F 136 22) 7
              refine R.eq rfl rfl (show _ = inS (ndC F 136 22) 7 (ndD F) from rfl) ?_
              exact lp_153 902 901 _ nI rfl (Or.inl (by have q1 := nI.2.2.1; have q2 := nI.2.1.1; have q3 := h1.1; omega)) (by omega)
            · skip
              refine R_aload_0 hX dX12_readsNode_95 ?_
              refine R_getq (v := 149) hX dX12_readsNode_96 fl_X12_58 o_136 rfl (by omega) ?_
              refine R_bipush hX dX12_readsNode_99 (by decide) ?_
              refine R_iload_1 hX dX12_readsNode_101 ?_
              refine R_imul hX dX12_readsNode_102 ?_
              refine R_iload_4 hX dX12_readsNode_103 ?_
              refine R_iadd hX dX12_readsNode_105 ?_
              refine R_iconst hX dX12_readsNode_106 ?_
              refine R_zast hX dX12_readsNode_107 a_149 ⟨by omega, by omega⟩ (Or.inl rfl) ?_
              refine R_aload_0 hX dX12_readsNode_108 ?_
              refine R_getq (v := 148) hX dX12_readsNode_109 fl_X12_55 o_136 rfl (by omega) ?_
              refine R_bipush hX dX12_readsNode_112 (by decide) ?_
              refine R_iload_1 hX dX12_readsNode_114 ?_
              refine R_imul hX dX12_readsNode_115 ?_
              refine R_iload_4 hX dX12_readsNode_116 ?_
              refine R_iadd hX dX12_readsNode_118 ?_
              refine R_iload_4 hX dX12_readsNode_119 ?_
              refine R_ifeq (tgt := 130) hX dX12_readsNode_121 (by decide) (by constructor <;> first | omega | (simp (disch := omega) only [up_k, up_i, up_s]; omega)) (fun c_121 => ?_) (fun c_121 => ?_)
              · skip
                refine R_iconst hX dX12_readsNode_130 ?_
                refine R_goto (tgt := 146) hX dX12_readsNode_131 (by decide) ?_
                refine R_iast hX dX12_readsNode_146 a_148 ⟨by omega, by omega⟩ ?_
                refine R.eq rfl rfl (show _ = inS (ndC F 136 22) (x + 1).toNat (ndD F) by rw [inS_s (by omega)]; unfold dfK; first | (rw [if_pos (by omega)]; done) | (rw [if_neg (by omega), if_pos (by omega)]; done) | (rw [if_neg (by omega), if_neg (by omega)]; done)) ?_
                refine R_iinc_4 hX c1_n dX12_readsNode_147 ?_
                refine R_goto (tgt := 88) hX dX12_readsNode_150 (by decide) ?_
                exact ih_88 (x + 1) (by omega) (by omega)
              · skip
                refine R_iload_4 hX dX12_readsNode_124 ?_
                refine R_iconst hX dX12_readsNode_126 ?_
                refine R_icmpne (tgt := 134) hX dX12_readsNode_127 (by decide) (by constructor <;> first | omega | (simp (disch := omega) only [up_k, up_i, up_s]; omega)) (by constructor <;> first | omega | (simp (disch := omega) only [up_k, up_i, up_s]; omega)) (fun c_127 => ?_) (fun c_127 => ?_)
                · skip
                  refine R_iload_4 hX dX12_readsNode_134 ?_
                  refine R_iconst hX dX12_readsNode_136 ?_
                  refine R_icmpne (tgt := 145) hX dX12_readsNode_137 (by decide) (by constructor <;> first | omega | (simp (disch := omega) only [up_k, up_i, up_s]; omega)) (by constructor <;> first | omega | (simp (disch := omega) only [up_k, up_i, up_s]; omega)) (fun c_137 => ?_) (fun c_137 => ?_)
                  · skip
                    refine R_iconst hX dX12_readsNode_145 ?_
                    refine R_iast hX dX12_readsNode_146 a_148 ⟨by omega, by omega⟩ ?_
                    refine R.eq rfl rfl (show _ = inS (ndC F 136 22) (x + 1).toNat (ndD F) by rw [inS_s (by omega)]; unfold dfK; first | (rw [if_pos (by omega)]; done) | (rw [if_neg (by omega), if_pos (by omega)]; done) | (rw [if_neg (by omega), if_neg (by omega)]; done)) ?_
                    refine R_iinc_4 hX c1_n dX12_readsNode_147 ?_
                    refine R_goto (tgt := 88) hX dX12_readsNode_150 (by decide) ?_
                    exact ih_88 (x + 1) (by omega) (by omega)
                  · skip
                    refine R_bipush hX dX12_readsNode_140 (by decide) ?_
                    refine R_goto (tgt := 146) hX dX12_readsNode_142 (by decide) ?_
                    refine R_iast hX dX12_readsNode_146 a_148 ⟨by omega, by omega⟩ ?_
                    refine R.eq rfl rfl (show _ = inS (ndC F 136 22) (x + 1).toNat (ndD F) by rw [inS_s (by omega)]; unfold dfK; first | (rw [if_pos (by omega)]; done) | (rw [if_neg (by omega), if_pos (by omega)]; done) | (rw [if_neg (by omega), if_neg (by omega)]; done)) ?_
                    refine R_iinc_4 hX c1_n dX12_readsNode_147 ?_
                    refine R_goto (tgt := 88) hX dX12_readsNode_150 (by decide) ?_
                    exact ih_88 (x + 1) (by omega) (by omega)
                · skip
                  refine R_iconst hX dX12_readsNode_130 ?_
                  refine R_goto (tgt := 146) hX dX12_readsNode_131 (by decide) ?_
                  refine R_iast hX dX12_readsNode_146 a_148 ⟨by omega, by omega⟩ ?_
                  refine R.eq rfl rfl (show _ = inS (ndC F 136 22) (x + 1).toNat (ndD F) by rw [inS_s (by omega)]; unfold dfK; first | (rw [if_pos (by omega)]; done) | (rw [if_neg (by omega), if_pos (by omega)]; done) | (rw [if_neg (by omega), if_neg (by omega)]; done)) ?_
                  refine R_iinc_4 hX c1_n dX12_readsNode_147 ?_
                  refine R_goto (tgt := 88) hX dX12_readsNode_150 (by decide) ?_
                  exact ih_88 (x + 1) (by omega) (by omega)
        exact lp_88 9 0 (by omega) (by omega)
      · skip
        exact R_vret hX dX12_readsNode_58 (by unfold ndS; rw [if_neg (by omega)])
