set_option maxRecDepth 100000 in
set_option maxHeartbeats 4000000 in
theorem lw_open {X : KX} {Z : State → Prop} {T : Shp} {cs ss : Nat} {F : Hp} (hX : Ok X RL cL_law 10 (some .boolean) 20 600 600000 7302250) {b : Nat} (hC : CI 40 23 4 0 F) (hn : F 23 0 = 0) (ht0 : F 40 1 = 0) (hc : cs ≤ 600000 ∧ ss ≤ 7302250) (jn_110 : R X (SH T) cs ss 110 [some (.ref b), some (vr (xV X) 0), some (vi 1), none, none, none, none, none, none, none] [] F Z) : R X (SH T) cs ss 8 [some (.ref b), some (vr (xV X) 0), none, none, none, none, none, none, none, none] [] F Z := by
  have hu : isSu 23 := Or.inr rfl
  have hch : chlS 40 23 F = -2 := by
    unfold chlS
    rw [hn]
    rfl
  refine R_aload_1 hX dL_law_8 ?_
  refine R_v0i hX dL_law_9 li_L_136 mk_X11_nodeCount mi_X11_nodeCount rfl o_0 (c_nodeCount rfl hu hC) ⟨⟨by decide, by decide⟩, by omega, by omega, rfl, Nat.le_of_ble_eq_true rfl, rfl⟩ (fun x_9 F_9 h_9 => ?_)
  obtain ⟨h_9, e_9⟩ := h_9; replace e_9 := e_9.symm; subst e_9
  refine R_ifne (tgt := 108) hX dL_law_12 (by decide) ⟨by omega, by omega⟩ (fun c_12 => ?_) (fun c_12 => ?_)
  · exact absurd (h_9.trans hn) c_12
  · skip
    refine R_aload_1 hX dL_law_15 ?_
    refine R_v0i hX dL_law_16 li_L_56 mk_X11_time mi_X11_time rfl o_0 (c_time rfl hu hC) ⟨⟨by decide, by decide⟩, by omega, by omega, rfl, Nat.le_of_ble_eq_true rfl, rfl⟩ (fun x_16 F_16 h_16 => ?_)
    obtain ⟨h_16, e_16⟩ := h_16; replace e_16 := e_16.symm; subst e_16
    refine R_ifne (tgt := 108) hX dL_law_19 (by decide) ⟨by omega, by omega⟩ (fun c_19 => ?_) (fun c_19 => ?_)
    · exact absurd (h_16.trans ht0) c_19
    · skip
      refine R_aload_1 hX dL_law_22 ?_
      refine R_iconst hX dL_law_23 ?_
      refine R_v1i hX dL_law_24 li_L_67 mk_X11_tokens mi_X11_tokens rfl o_0 (c_tokens rfl hu hC ⟨by omega, by omega⟩) ⟨⟨by decide, by decide⟩, by omega, by omega, rfl, Nat.le_of_ble_eq_true rfl, rfl⟩ (fun x_24 F_24 h_24 => ?_)
      obtain ⟨h_24, e_24⟩ := h_24; replace e_24 := e_24.symm; subst e_24
      refine R_iconst hX dL_law_27 ?_
      refine R_icmpneS (tgt := 108) hX dL_law_28 (by decide) (by rw [h_24, if_neg (by omega)]) ?_
      refine R_aload_1 hX dL_law_31 ?_
      refine R_iconst hX dL_law_32 ?_
      refine R_iconst hX dL_law_33 ?_
      refine R_v2i hX dL_law_34 li_L_139 mk_X11_lender mi_X11_lender rfl o_0 (c_lender rfl hu hC ⟨by omega, by omega⟩ ⟨by omega, by omega⟩) ⟨⟨by decide, by decide⟩, by omega, by omega, rfl, Nat.le_of_ble_eq_true rfl, rfl⟩ (fun x_34 F_34 h_34 => ?_)
      obtain ⟨h_34, e_34⟩ := h_34; replace e_34 := e_34.symm; subst e_34
      refine R_iconst hX dL_law_37 ?_
      refine R_icmpneS (tgt := 108) hX dL_law_38 (by decide) (by rw [h_34, if_neg (by omega)]) ?_
      refine R_aload_1 hX dL_law_41 ?_
      refine R_iconst hX dL_law_42 ?_
      refine R_iconst hX dL_law_43 ?_
      refine R_v2i hX dL_law_44 li_L_143 mk_X11_acquire mi_X11_acquire rfl o_0 (c_acquire rfl hu hC ⟨by omega, by omega⟩ ⟨by omega, by omega⟩) ⟨⟨by decide, by decide⟩, by omega, by omega, rfl, Nat.le_of_ble_eq_true rfl, rfl⟩ (fun x_44 F_44 h_44 => ?_)
      obtain ⟨e1, e2⟩ : x_44 = -1 ∧ F_44 = F := by
        rcases h_44 with ⟨_, e1, e2⟩ | ⟨⟨z, _⟩, _⟩ | ⟨⟨z, _⟩, _⟩
        · exact ⟨e1, e2⟩
        · exact absurd z.2.1 (by omega)
        · exact absurd z.2.1 (by omega)
      subst e1
      replace e2 := e2.symm
      subst e2
      refine R_iconst hX dL_law_47 ?_
      refine R_icmpneS (tgt := 108) hX dL_law_48 (by decide) rfl ?_
      refine R_aload_1 hX dL_law_51 ?_
      refine R_iconst hX dL_law_52 ?_
      refine R_v1i hX dL_law_53 li_L_146 mk_X11_advance mi_X11_advance rfl o_0 (c_advance rfl hu hC ⟨by omega, by omega⟩) ⟨⟨by decide, by decide⟩, by omega, by omega, rfl, Nat.le_of_ble_eq_true rfl, rfl⟩ (fun x_53 F_53 h_53 => ?_)
      obtain ⟨e1, e2⟩ : x_53 = -1 ∧ F_53 = F := by
        rcases h_53 with ⟨_, e1, e2⟩ | ⟨z, _⟩
        · exact ⟨e1, e2⟩
        · exact absurd z.1 (by omega)
      subst e1
      replace e2 := e2.symm
      subst e2
      refine R_iconst hX dL_law_56 ?_
      refine R_icmpneS (tgt := 108) hX dL_law_57 (by decide) rfl ?_
      refine R_aload_1 hX dL_law_60 ?_
      refine R_v0i hX dL_law_61 li_L_61 mk_X11_nextLeaf mi_X11_nextLeaf rfl o_0 (c_nextLeaf rfl hu hC) ⟨⟨by decide, by decide⟩, by omega, by omega, rfl, Nat.le_of_ble_eq_true rfl, rfl⟩ (fun x_61 F_61 h_61 => ?_)
      obtain ⟨h_61, e_61⟩ := h_61; replace e_61 := e_61.symm; subst e_61
      refine R_bipush hX dL_law_64 (by decide) ?_
      refine R_icmpneS (tgt := 108) hX dL_law_66 (by decide) (by rw [h_61, hch]) ?_
      refine R_aload_1 hX dL_law_69 ?_
      refine R_v0i hX dL_law_70 li_L_149 mk_X11_mostServed mi_X11_mostServed rfl o_0 (c_mostServed rfl hu hC) ⟨⟨by decide, by decide⟩, by omega, by omega, rfl, Nat.le_of_ble_eq_true rfl, rfl⟩ (fun x_70 F_70 h_70 => ?_)
      obtain ⟨h_70, e_70⟩ := h_70; replace e_70 := e_70.symm; subst e_70
      refine R_bipush hX dL_law_73 (by decide) ?_
      refine R_icmpneS (tgt := 108) hX dL_law_75 (by decide) (by rw [h_70, hn]; rfl) ?_
      refine R_aload_1 hX dL_law_78 ?_
      refine R_v0i hX dL_law_79 li_L_152 mk_X11_fairness mi_X11_fairness rfl o_0 (c_fairness rfl hu hC (by decide)) ⟨⟨by decide, by decide⟩, by omega, by omega, rfl, Nat.le_of_ble_eq_true rfl, rfl⟩ (fun x_79 F_79 h_79 => ?_)
      obtain ⟨h_79, e_79⟩ := h_79; replace e_79 := e_79.symm; subst e_79
      refine R_iconst hX dL_law_82 ?_
      refine R_icmpneS (tgt := 108) hX dL_law_83 (by decide) (by rw [h_79, if_pos hn]) ?_
      refine R_aload_1 hX dL_law_86 ?_
      refine R_iconst hX dL_law_87 ?_
      refine R_v1i hX dL_law_88 li_L_100 mk_X11_isLeaf mi_X11_isLeaf rfl o_0 (c_isLeaf rfl hu hC ⟨by omega, by omega⟩) ⟨⟨by decide, by decide⟩, by omega, by omega, rfl, Nat.le_of_ble_eq_true rfl, rfl⟩ (fun x_88 F_88 h_88 => ?_)
      obtain ⟨h_88, e_88⟩ := h_88; replace e_88 := e_88.symm; subst e_88
      refine R_ifne (tgt := 108) hX dL_law_91 (by decide) ⟨by omega, by omega⟩ (fun c_91 => ?_) (fun c_91 => ?_)
      · exact absurd (by rcases h_88 with ⟨_, z⟩ | ⟨z, _⟩; exact absurd z.2.1 (by omega); exact z) c_91
      · skip
        refine R_aload_1 hX dL_law_94 ?_
        refine R_iconst hX dL_law_95 ?_
        refine R_iconst hX dL_law_96 ?_
        refine R_v2i hX dL_law_97 li_L_155 mk_X11_setRate mi_X11_setRate rfl o_0 (c_setRate rfl hu hC ⟨by omega, by omega⟩ ⟨by omega, by omega⟩) ⟨⟨by decide, by decide⟩, by omega, by omega, rfl, Nat.le_of_ble_eq_true rfl, rfl⟩ (fun x_97 F_97 h_97 => ?_)
        obtain ⟨e1, e2⟩ : x_97 = -1 ∧ F_97 = F := by
          rcases h_97 with ⟨_, e1, e2⟩ | ⟨z, _⟩
          · exact ⟨e1, e2⟩
          · exact absurd z.1.2 (by omega)
        subst e1
        replace e2 := e2.symm
        subst e2
        refine R_iconst hX dL_law_100 ?_
        refine R_icmpneS (tgt := 108) hX dL_law_101 (by decide) rfl ?_
        refine R_iconst hX dL_law_104 ?_
        refine R_goto (tgt := 109) hX dL_law_105 (by decide) ?_
        refine R_istore_2 hX c1_r dL_law_109 ?_
        exact jn_110
set_option maxRecDepth 100000 in
set_option maxHeartbeats 4000000 in
theorem lw_new {X : KX} {Z : State → Prop} {T : Shp} {cs ss : Nat} {F : Hp} (hX : Ok X RL cL_law 10 (some .boolean) 20 600 600000 7302250) {b Ln : Nat} {f : Nat → Int32} (hA : va_X b Ln f (xs X) (xs X).heap) (hbV : b < vB (xV X)) (hLn : Ln ≤ 260) {turn : Int} (htn : 0 ≤ turn ∧ turn ≤ 4) (hc : cs + 62 ≤ 600000 ∧ ss + 426 ≤ 7302250)
    (jn_150 : ∀ (T1 : Shp) (G : Hp) (d t : Int) (c1 s1 : Nat), (136 ≤ d ∧ d < t) → (c1 ≤ cs + 62 ∧ s1 ≤ ss + 426) → (TrS T1 t ∧ isA (SH T1) d .int 1) → (TrV G t ∧ TB0 G t ∧ TQ T1 G t ∧ G t 20 = 0) → (∀ q : Int, q < 136 → G q = F q) → R X (SH T1) c1 s1 150 [some (.ref b), some (vr (xV X) 0), some (vi 1), some (vi turn), some (vr (xV X) d), some (vr (xV X) t), none, none, none, none] [] G Z) : R X (SH T) cs ss 121 [some (.ref b), some (vr (xV X) 0), some (vi 1), some (vi turn), none, none, none, none, none, none] [] F Z := by
  refine R_iconst hX dL_law_121 ?_
  refine R_newaT (ty := .int) hX rfl (Or.inl rfl) ac_int ⟨by decide, by decide⟩ (m := 1) rfl ⟨by omega, by omega⟩ dL_law_122 (fun n_122 hn_122 => ?_)
  refine R_dup hX c1_r dL_law_124 ?_
  refine R_iconst hX dL_law_125 ?_
  refine R_aload_0_raw hX dL_law_126 ?_
  refine R_iload_3 hX dL_law_127 ?_
  refine R_callSA (As := [.ref b, vi turn]) (kd := 1) hX hA hbV dL_law_128 li_L_158 mk_L_cell ms_L_cell (c_cell hbV hLn ⟨by omega, by omega⟩) ⟨⟨by decide, by decide⟩, by omega, by omega, rfl, rfl, (by simp [vi_cat, vr_cat]), rfl⟩ (fun x_128 F_128 h_128 => ?_)
  obtain ⟨h_128, e_128⟩ := h_128; replace e_128 := e_128.symm; subst e_128
  refine R_iload_3 hX dL_law_131 ?_
  refine R_iadd hX dL_law_132 ?_
  refine R_s1i hX dL_law_133 li_L_8 mk_L_mixed ms_L_mixed (c_mixed) ⟨⟨by decide, by decide⟩, by omega, by omega, rfl, Nat.le_of_ble_eq_true rfl, rfl⟩ (fun x_133 F_133 h_133 => ?_)
  obtain ⟨h_133, e_133⟩ := h_133; replace e_133 := e_133.symm; subst e_133
  refine R_iast hX dL_law_136 (isA.newT (by decide) hn_122) ⟨by omega, by omega⟩ ?_
  refine R_astore_4 hX c1_i dL_law_137 ?_
  refine R_newT hX cf_12 cl_L_34 is_X12 in_RateLimiterLaw_Tree (by decide) ⟨by omega, by omega⟩ dL_law_139 (fun n_139 hn_139 => ?_)
  have h39 : n_139 = n_122 + 1 := by
    simp only [List.length_append, List.length_cons, List.length_nil] at hn_139
    omega
  have hl_139 : n_139 + 1 = 136 + ((((T ++ [.inr (.int, 1)]) ++ [.inl (12, [])]) : Shp).length : Int) := by
    simp only [List.length_append, List.length_cons, List.length_nil]
    omega
  refine R_dup hX c1_r dL_law_142 ?_
  refine R_aload_4 hX dL_law_143 ?_
  refine R_callIE (As := [_]) hX dL_law_145 li_L_162 mk_X12_init mc_X12_init (isO.newT hn_139) (e_iTree hl_139 (by omega) (isO.newT hn_139) (isA.newT (by decide) hn_122).up (by omega) (fun j => by rw [row_s])) ⟨⟨by decide, by decide⟩, by omega, by omega, rfl, rfl, (by simp [vi_cat, vl_cat, vr_cat, rf_cat])⟩ (fun x_145 s_145 F_145 d_145 h_145 hl_145 hd_145 => ?_)
  obtain ⟨g_145, rfl, h_145⟩ := h_145
  obtain ⟨hIT, hIL, hTA⟩ := h_145
  refine R_astore_5 hX c1_r dL_law_148 ?_
  have hV := it_v hIT
  have h19 := (hIL.2.1 hV.1.n.1).2.2
  have hQ := il_q hV.1.n.1 hIL
  have hp : 136 ≤ n_139 := by omega
  refine R_frzT (k := n_139) (ci := 12) (rs := trs n_139) (N := 25) hTA.1 hp rfl rfl (it_frz hIT) ?_
  exact jn_150 _ _ n_122 n_139 _ _ ⟨by omega, by omega⟩ ⟨by omega, by omega⟩ ⟨tra_s hp hTA h19, (isA.newT (by decide) hn_122).up.up.set hp (by omega)⟩ ⟨hV.1, hV.2.1, tq_set hp hQ, hV.2.2⟩ (fun q hq => by rw [hIT.1 q (by omega) (by omega), row_r (by omega), up_r (by omega), row_r (by omega)])
set_option maxRecDepth 100000 in
set_option maxHeartbeats 4000000 in
theorem lw_mid {X : KX} {Z : State → Prop} {T : Shp} {cs ss : Nat} {F : Hp} (hX : Ok X RL cL_law 10 (some .boolean) 20 600 600000 7302250) {b : Nat} {turn d t u v : Int} (hdt : 136 ≤ d ∧ d < t) (hsv : SS u v) (hS : TrS T t) (hV : TrV F t) (hB : TB0 F t) (hQ : TQ T F t) (h20 : F t 20 = 0) (h03 : F 0 3 = u) (h32 : F 3 2 = v) (h11 : F 1 1 = 0) (hc : cs + 170 ≤ 600000 ∧ ss + 310000 ≤ 7302250)
    (jn_186 : ∀ (g : Shp) (G : Hp) (c1 : Nat), c1 ≤ cs + 170 → (Rl v u 0 G t ∧ TrV G t ∧ TQ (T ++ g) G t ∧ G t 20 = 0) → R X (SH (T ++ g)) c1 (ss + 310000) 186 [some (.ref b), some (vr (xV X) 0), some (vi 1), some (vi turn), some (vr (xV X) d), some (vr (xV X) t), some (vi 0), none, none, none] [] G Z) : R X (SH T) cs ss 150 [some (.ref b), some (vr (xV X) 0), some (vi 1), some (vi turn), some (vr (xV X) d), some (vr (xV X) t), none, none, none, none] [] F Z := by
  have hp := hS.p
  have htb := hS.e.ltT.2
  refine R_aload_1 hX dL_law_150 ?_
  refine R_aload_5 hX dL_law_151 ?_
  refine R_callSE (As := [_, _]) hX dL_law_153 li_L_165 mk_L_stands ms_L_stands (e_stands hsv hS hV h20 hB h03 h32 h11 htb) ⟨⟨by decide, by decide⟩, by omega, by omega, rfl, rfl, (by first | decide | exact Nat.zero_le _)⟩ (fun x_153 s_153 F_153 d_153 h_153 hl_153 hd_153 => ?_)
  obtain ⟨g_153, rfl, h_153⟩ := h_153
  obtain ⟨r_153, hR, hq_153⟩ := h_153
  subst r_153
  have hV1 : TrV F_153 t := hV.fr2 (fun a h1 h2 => hq_153 a (by omega) (by omega))
  have hQ1 : TQ (T ++ g_153) F_153 t := by
    refine hQ.up (by rw [hq_153 t (by omega) (by omega)]) (hq_153 _ (by omega) (by omega)) (hq_153 _ (by omega) (by omega)) (fun k k0 k1 => ?_)
    have := (hQ.2.2 k k0 k1).2.1.ltT
    have := (hQ.2.2 k k0 k1).2.1.ge (by omega)
    rw [hq_153 _ (by omega) (by omega)]
  have h201 : F_153 t 20 = 0 := by rw [hq_153 t (by omega) (by omega)]; exact h20
  refine R_ifeq (tgt := 181) hX dL_law_156 (by decide) ⟨by omega, by omega⟩ (fun c_156 => ?_) (fun c_156 => ?_)
  · exact absurd c_156 (by decide)
  · skip
    refine R_aload_1 hX dL_law_159 ?_
    refine R_aload_5 hX dL_law_160 ?_
    refine R_s2i hX dL_law_162 li_L_169 mk_L_tree ms_L_tree (c_tree hR hS.up hV1 hQ1) ⟨⟨by decide, by decide⟩, by omega, by omega, rfl, Nat.le_of_ble_eq_true rfl, rfl⟩ (fun x_162 F_162 h_162 => ?_)
    obtain ⟨h_162, e_162⟩ := h_162; replace e_162 := e_162.symm; subst e_162
    refine R_ifeq (tgt := 181) hX dL_law_165 (by decide) ⟨by omega, by omega⟩ (fun c_165 => ?_) (fun c_165 => ?_)
    · exact absurd c_165 (by omega)
    · skip
      refine R_aload_1 hX dL_law_168 ?_
      refine R_aload_5 hX dL_law_169 ?_
      refine R_s2i hX dL_law_171 li_L_172 mk_L_same ms_L_same (c_same hR hS.up hV1 hQ1) ⟨⟨by decide, by decide⟩, by omega, by omega, rfl, Nat.le_of_ble_eq_true rfl, rfl⟩ (fun x_171 F_171 h_171 => ?_)
      obtain ⟨h_171, e_171⟩ := h_171; replace e_171 := e_171.symm; subst e_171
      refine R_ifeq (tgt := 181) hX dL_law_174 (by decide) ⟨by omega, by omega⟩ (fun c_174 => ?_) (fun c_174 => ?_)
      · exact absurd c_174 (by omega)
      · skip
        refine R_iconst hX dL_law_177 ?_
        refine R_goto (tgt := 182) hX dL_law_178 (by decide) ?_
        refine R_istore_2 hX c1_r dL_law_182 ?_
        refine R_iconst hX dL_law_183 ?_
        refine R_istore_6 hX c1_r dL_law_184 ?_
        exact jn_186 _ _ _ (by omega) ⟨hR, hV1, hQ1, h201⟩
