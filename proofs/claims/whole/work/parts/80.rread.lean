set_option maxRecDepth 100000 in
set_option maxHeartbeats 4000000 in
theorem r_readsStatement {V : VX} {F : Hp} (h : PQ F) (ha : AtQ F)  : Ct V yX12_readsStatement cX12_readsStatement 1 none 5 113 0 0 SH [vr V 136] F SH 0 (fun r F' => F' = stmS F) := by
  refine Ct.of [some (vr V 136)] (by decide) (by simp [lg_sl, vi_cat, vl_cat, vr_cat]) rfl (by simp [asc, lv_args, vi_cat, vl_cat, vr_cat]) (fun X hV hX => ?_)
  subst hV
  obtain ⟨h1, h2, h3, h4, h5, h6, h7, h8, h9, h10, h11⟩ := id h
  have bB := Ny.bd h ha
  have lA := Nx.lmA h ha
  have gA := Nx.agA h ha
  have mW := (Nx.rf h ha).mu (g := wdB 52 F) (c := 1) (by omega)
  have b17 := bB.1.2.2.1
  refine R_aload_0 hX dX12_readsStatement_0 ?_
  refine R_ldc2 (n := 474245) hX k2_X12_165 rfl dX12_readsStatement_1 ?_
  refine R_v1i hX dX12_readsStatement_4 li_X12_185 mk_X12_isWord mi_X12_isWord rfl o_136 (r_isWord h (by constructor <;> omega)) ⟨⟨by decide, by decide⟩, by decide, by decide, rfl, Nat.le_of_ble_eq_true rfl, rfl⟩ (fun x_4 F_4 h_4 => ?_)
  obtain ⟨h_4, e_4⟩ := h_4; replace e_4 := e_4.symm; subst e_4
  refine R_ifeq (tgt := 17) hX dX12_readsStatement_7 (by decide) (by constructor <;> first | omega | (simp (disch := omega) only [up_k, up_i, up_s]; omega)) (fun c_7 => ?_) (fun c_7 => ?_)
  · skip
    refine R_aload_0 hX dX12_readsStatement_17 ?_
    refine R_ldc2 (n := 12891444) hX k2_X12_169 rfl dX12_readsStatement_18 ?_
    refine R_v1i hX dX12_readsStatement_21 li_X12_185 mk_X12_isWord mi_X12_isWord rfl o_136 (r_isWord h (by constructor <;> omega)) ⟨⟨by decide, by decide⟩, by decide, by decide, rfl, Nat.le_of_ble_eq_true rfl, rfl⟩ (fun x_21 F_21 h_21 => ?_)
    obtain ⟨h_21, e_21⟩ := h_21; replace e_21 := e_21.symm; subst e_21
    refine R_ifeq (tgt := 67) hX dX12_readsStatement_24 (by decide) (by constructor <;> first | omega | (simp (disch := omega) only [up_k, up_i, up_s]; omega)) (fun c_24 => ?_) (fun c_24 => ?_)
    · skip
      refine R_aload_0 hX dX12_readsStatement_67 ?_
      refine R_ldc2 (n := 1253) hX k2_X12_171 rfl dX12_readsStatement_68 ?_
      refine R_v1i hX dX12_readsStatement_71 li_X12_185 mk_X12_isWord mi_X12_isWord rfl o_136 (r_isWord h (by constructor <;> omega)) ⟨⟨by decide, by decide⟩, by decide, by decide, rfl, Nat.le_of_ble_eq_true rfl, rfl⟩ (fun x_71 F_71 h_71 => ?_)
      obtain ⟨h_71, e_71⟩ := h_71; replace e_71 := e_71.symm; subst e_71
      refine R_ifeq (tgt := 118) hX dX12_readsStatement_74 (by decide) (by constructor <;> first | omega | (simp (disch := omega) only [up_k, up_i, up_s]; omega)) (fun c_74 => ?_) (fun c_74 => ?_)
      · skip
        refine R_aload_0 hX dX12_readsStatement_118 ?_
        refine R_aload_0 hX dX12_readsStatement_119 ?_
        refine R_ldc2 (n := 52) hX k2_X12_173 rfl dX12_readsStatement_120 ?_
        refine R_v1i hX dX12_readsStatement_123 li_X12_185 mk_X12_isWord mi_X12_isWord rfl o_136 (r_isWord h (by constructor <;> omega)) ⟨⟨by decide, by decide⟩, by decide, by decide, rfl, Nat.le_of_ble_eq_true rfl, rfl⟩ (fun x_123 F_123 h_123 => ?_)
        obtain ⟨h_123, e_123⟩ := h_123; replace e_123 := e_123.symm; subst e_123
        refine R_iconst hX dX12_readsStatement_126 ?_
        refine R_v2v hX dX12_readsStatement_127 li_X12_175 mk_X12_must mi_X12_must rfl o_136 (r_must (by constructor <;> omega) (by constructor <;> omega) (by omega)) ⟨⟨by decide, by decide⟩, by decide, by decide, rfl, Nat.le_of_ble_eq_true rfl, rfl⟩ (fun x_127 F_127 h_127 => ?_)
        subst h_127
        refine R.eq rfl rfl (show _ = mu (wdB 52 F) 1 F from mu_iff (by omega)) ?_
        refine R_aload_0 hX dX12_readsStatement_130 ?_
        refine R_v0v hX dX12_readsStatement_131 li_X12_230 mk_X12_readsTimed mi_X12_readsTimed rfl o_136 (r_readsTimed mW.1 mW.2.1) ⟨⟨by decide, by decide⟩, by decide, by decide, rfl, Nat.le_of_ble_eq_true rfl, rfl⟩ (fun x_131 F_131 h_131 => ?_)
        subst h_131
        refine R.eq rfl rfl (show _ = bdS F by unfold bdS; rw [if_neg (by omega), if_neg (by omega), if_neg (by omega)]) ?_
        refine R_aload_0 hX dX12_readsStatement_134 ?_
        refine R_aload_0 hX dX12_readsStatement_135 ?_
        refine R_geti hX dX12_readsStatement_136 fl_X12_116 o_136 rfl ?_
        try simp (disch := omega) only [up_i, up_k, up_s]
        refine R_iconst hX dX12_readsStatement_139 ?_
        refine R_icmpne (tgt := 147) hX dX12_readsStatement_140 (by decide) (by constructor <;> first | omega | (simp (disch := omega) only [up_k, up_i, up_s]; omega)) (by constructor <;> first | omega | (simp (disch := omega) only [up_k, up_i, up_s]; omega)) (fun c_140 => ?_) (fun c_140 => ?_)
        · skip
          refine R_iconst hX dX12_readsStatement_147 ?_
          refine R_iconst hX dX12_readsStatement_148 ?_
          refine R_v2v hX dX12_readsStatement_149 li_X12_175 mk_X12_must mi_X12_must rfl o_136 (r_must (by have z := (bB.1).2.1; constructor <;> omega) (by have z := (bB.1).2.2.1; constructor <;> omega) (by omega)) ⟨⟨by decide, by decide⟩, by decide, by decide, rfl, Nat.le_of_ble_eq_true rfl, rfl⟩ (fun x_149 F_149 h_149 => ?_)
          subst h_149
          refine R.eq rfl rfl (show _ = mu (bdS F 136 17 = 3) 1 (bdS F) from mu_iff (by omega)) ?_
          refine R_aload_0 hX dX12_readsStatement_152 ?_
          refine R_v0v hX dX12_readsStatement_153 li_X12_179 mk_X12_scans mi_X12_scans rfl o_136 (r_scans (bB.1.mu (g := bdS F 136 17 = 3) (c := 1) (by omega)).1 (by have z := (bB.1.mu (g := bdS F 136 17 = 3) (c := 1) (by omega)).2.1; constructor <;> omega)) ⟨⟨by decide, by decide⟩, by decide, by decide, rfl, Nat.le_of_ble_eq_true rfl, rfl⟩ (fun x_153 F_153 h_153 => ?_)
          subst h_153
          exact R_vret hX dX12_readsStatement_156 rfl
        · skip
          refine R_iconst hX dX12_readsStatement_143 ?_
          refine R_goto (tgt := 148) hX dX12_readsStatement_144 (by decide) ?_
          refine R_iconst hX dX12_readsStatement_148 ?_
          refine R_v2v hX dX12_readsStatement_149 li_X12_175 mk_X12_must mi_X12_must rfl o_136 (r_must (by have z := (bB.1).2.1; constructor <;> omega) (by have z := (bB.1).2.2.1; constructor <;> omega) (by omega)) ⟨⟨by decide, by decide⟩, by decide, by decide, rfl, Nat.le_of_ble_eq_true rfl, rfl⟩ (fun x_149 F_149 h_149 => ?_)
          subst h_149
          refine R.eq rfl rfl (show _ = mu (bdS F 136 17 = 3) 1 (bdS F) from mu_iff (by omega)) ?_
          refine R_aload_0 hX dX12_readsStatement_152 ?_
          refine R_v0v hX dX12_readsStatement_153 li_X12_179 mk_X12_scans mi_X12_scans rfl o_136 (r_scans (bB.1.mu (g := bdS F 136 17 = 3) (c := 1) (by omega)).1 (by have z := (bB.1.mu (g := bdS F 136 17 = 3) (c := 1) (by omega)).2.1; constructor <;> omega)) ⟨⟨by decide, by decide⟩, by decide, by decide, rfl, Nat.le_of_ble_eq_true rfl, rfl⟩ (fun x_153 F_153 h_153 => ?_)
          subst h_153
          exact R_vret hX dX12_readsStatement_156 rfl
      · skip
        refine R_aload_0 hX dX12_readsStatement_77 ?_
        refine R_aload_0 hX dX12_readsStatement_78 ?_
        refine R_getz hX dX12_readsStatement_79 fl_X12_224 o_136 rfl ?_
        try simp (disch := omega) only [up_i, up_k, up_s]
        refine R_ifne (tgt := 89) hX dX12_readsStatement_82 (by decide) (by constructor <;> first | omega | (simp (disch := omega) only [up_k, up_i, up_s]; omega)) (fun c_82 => ?_) (fun c_82 => ?_)
        · skip
          refine R_iconst hX dX12_readsStatement_89 ?_
          refine R_iconst hX dX12_readsStatement_90 ?_
          refine R_v2v hX dX12_readsStatement_91 li_X12_175 mk_X12_must mi_X12_must rfl o_136 (r_must (by constructor <;> omega) (by constructor <;> omega) (by omega)) ⟨⟨by decide, by decide⟩, by decide, by decide, rfl, Nat.le_of_ble_eq_true rfl, rfl⟩ (fun x_91 F_91 h_91 => ?_)
          subst h_91
          refine R.eq rfl rfl (show _ = mu (F 136 26 = 0) 4 F from mu_iff (by omega)) ?_
          refine R_aload_0 hX dX12_readsStatement_94 ?_
          refine R_iconst hX dX12_readsStatement_95 ?_
          refine R_putz hX dX12_readsStatement_96 fl_X12_224 o_136 rfl (by omega) ?_
          refine R_aload_0 hX dX12_readsStatement_99 ?_
          refine R_v0v hX dX12_readsStatement_100 li_X12_179 mk_X12_scans mi_X12_scans rfl o_136 (r_scans ((h.mu (g := F 136 26 = 0) (c := 4) (by omega)).u25 (i := 26) (x := 1) (by omega) (by omega)).1 (by have z := ((h.mu (g := F 136 26 = 0) (c := 4) (by omega)).u25 (i := 26) (x := 1) (by omega) (by omega)).2.1; constructor <;> omega)) ⟨⟨by decide, by decide⟩, by decide, by decide, rfl, Nat.le_of_ble_eq_true rfl, rfl⟩ (fun x_100 F_100 h_100 => ?_)
          subst h_100
          refine R.eq rfl rfl (show _ = agA F from rfl) ?_
          refine R_aload_0 hX dX12_readsStatement_103 ?_
          refine R_aload_0 hX dX12_readsStatement_104 ?_
          refine R_iconst hX dX12_readsStatement_105 ?_
          refine R_sipush hX dX12_readsStatement_106 (by decide) ?_
          refine R_v2i hX dX12_readsStatement_109 li_X12_195 mk_X12_readsNumber mi_X12_readsNumber rfl o_136 (r_readsNumber gA.1 (by constructor <;> omega) (by constructor <;> omega)) ⟨⟨by decide, by decide⟩, by decide, by decide, rfl, Nat.le_of_ble_eq_true rfl, rfl⟩ (fun x_109 F_109 h_109 => ?_)
          obtain ⟨hx, hF⟩ := h_109
          subst hx
          subst hF
          refine R_puti hX dX12_readsStatement_112 fl_X12_227 o_136 rfl ?_
          refine R.eq rfl rfl (show _ = bdS F by unfold bdS; rw [if_neg (by omega), if_neg (by omega), if_pos (by omega)]) ?_
          refine R_goto (tgt := 134) hX dX12_readsStatement_115 (by decide) ?_
          refine R_aload_0 hX dX12_readsStatement_134 ?_
          refine R_aload_0 hX dX12_readsStatement_135 ?_
          refine R_geti hX dX12_readsStatement_136 fl_X12_116 o_136 rfl ?_
          try simp (disch := omega) only [up_i, up_k, up_s]
          refine R_iconst hX dX12_readsStatement_139 ?_
          refine R_icmpne (tgt := 147) hX dX12_readsStatement_140 (by decide) (by constructor <;> first | omega | (simp (disch := omega) only [up_k, up_i, up_s]; omega)) (by constructor <;> first | omega | (simp (disch := omega) only [up_k, up_i, up_s]; omega)) (fun c_140 => ?_) (fun c_140 => ?_)
          · skip
            refine R_iconst hX dX12_readsStatement_147 ?_
            refine R_iconst hX dX12_readsStatement_148 ?_
            refine R_v2v hX dX12_readsStatement_149 li_X12_175 mk_X12_must mi_X12_must rfl o_136 (r_must (by have z := (bB.1).2.1; constructor <;> omega) (by have z := (bB.1).2.2.1; constructor <;> omega) (by omega)) ⟨⟨by decide, by decide⟩, by decide, by decide, rfl, Nat.le_of_ble_eq_true rfl, rfl⟩ (fun x_149 F_149 h_149 => ?_)
            subst h_149
            refine R.eq rfl rfl (show _ = mu (bdS F 136 17 = 3) 1 (bdS F) from mu_iff (by omega)) ?_
            refine R_aload_0 hX dX12_readsStatement_152 ?_
            refine R_v0v hX dX12_readsStatement_153 li_X12_179 mk_X12_scans mi_X12_scans rfl o_136 (r_scans (bB.1.mu (g := bdS F 136 17 = 3) (c := 1) (by omega)).1 (by have z := (bB.1.mu (g := bdS F 136 17 = 3) (c := 1) (by omega)).2.1; constructor <;> omega)) ⟨⟨by decide, by decide⟩, by decide, by decide, rfl, Nat.le_of_ble_eq_true rfl, rfl⟩ (fun x_153 F_153 h_153 => ?_)
            subst h_153
            exact R_vret hX dX12_readsStatement_156 rfl
          · skip
            refine R_iconst hX dX12_readsStatement_143 ?_
            refine R_goto (tgt := 148) hX dX12_readsStatement_144 (by decide) ?_
            refine R_iconst hX dX12_readsStatement_148 ?_
            refine R_v2v hX dX12_readsStatement_149 li_X12_175 mk_X12_must mi_X12_must rfl o_136 (r_must (by have z := (bB.1).2.1; constructor <;> omega) (by have z := (bB.1).2.2.1; constructor <;> omega) (by omega)) ⟨⟨by decide, by decide⟩, by decide, by decide, rfl, Nat.le_of_ble_eq_true rfl, rfl⟩ (fun x_149 F_149 h_149 => ?_)
            subst h_149
            refine R.eq rfl rfl (show _ = mu (bdS F 136 17 = 3) 1 (bdS F) from mu_iff (by omega)) ?_
            refine R_aload_0 hX dX12_readsStatement_152 ?_
            refine R_v0v hX dX12_readsStatement_153 li_X12_179 mk_X12_scans mi_X12_scans rfl o_136 (r_scans (bB.1.mu (g := bdS F 136 17 = 3) (c := 1) (by omega)).1 (by have z := (bB.1.mu (g := bdS F 136 17 = 3) (c := 1) (by omega)).2.1; constructor <;> omega)) ⟨⟨by decide, by decide⟩, by decide, by decide, rfl, Nat.le_of_ble_eq_true rfl, rfl⟩ (fun x_153 F_153 h_153 => ?_)
            subst h_153
            exact R_vret hX dX12_readsStatement_156 rfl
        · skip
          refine R_iconst hX dX12_readsStatement_85 ?_
          refine R_goto (tgt := 90) hX dX12_readsStatement_86 (by decide) ?_
          refine R_iconst hX dX12_readsStatement_90 ?_
          refine R_v2v hX dX12_readsStatement_91 li_X12_175 mk_X12_must mi_X12_must rfl o_136 (r_must (by constructor <;> omega) (by constructor <;> omega) (by omega)) ⟨⟨by decide, by decide⟩, by decide, by decide, rfl, Nat.le_of_ble_eq_true rfl, rfl⟩ (fun x_91 F_91 h_91 => ?_)
          subst h_91
          refine R.eq rfl rfl (show _ = mu (F 136 26 = 0) 4 F from mu_iff (by omega)) ?_
          refine R_aload_0 hX dX12_readsStatement_94 ?_
          refine R_iconst hX dX12_readsStatement_95 ?_
          refine R_putz hX dX12_readsStatement_96 fl_X12_224 o_136 rfl (by omega) ?_
          refine R_aload_0 hX dX12_readsStatement_99 ?_
          refine R_v0v hX dX12_readsStatement_100 li_X12_179 mk_X12_scans mi_X12_scans rfl o_136 (r_scans ((h.mu (g := F 136 26 = 0) (c := 4) (by omega)).u25 (i := 26) (x := 1) (by omega) (by omega)).1 (by have z := ((h.mu (g := F 136 26 = 0) (c := 4) (by omega)).u25 (i := 26) (x := 1) (by omega) (by omega)).2.1; constructor <;> omega)) ⟨⟨by decide, by decide⟩, by decide, by decide, rfl, Nat.le_of_ble_eq_true rfl, rfl⟩ (fun x_100 F_100 h_100 => ?_)
          subst h_100
          refine R.eq rfl rfl (show _ = agA F from rfl) ?_
          refine R_aload_0 hX dX12_readsStatement_103 ?_
          refine R_aload_0 hX dX12_readsStatement_104 ?_
          refine R_iconst hX dX12_readsStatement_105 ?_
          refine R_sipush hX dX12_readsStatement_106 (by decide) ?_
          refine R_v2i hX dX12_readsStatement_109 li_X12_195 mk_X12_readsNumber mi_X12_readsNumber rfl o_136 (r_readsNumber gA.1 (by constructor <;> omega) (by constructor <;> omega)) ⟨⟨by decide, by decide⟩, by decide, by decide, rfl, Nat.le_of_ble_eq_true rfl, rfl⟩ (fun x_109 F_109 h_109 => ?_)
          obtain ⟨hx, hF⟩ := h_109
          subst hx
          subst hF
          refine R_puti hX dX12_readsStatement_112 fl_X12_227 o_136 rfl ?_
          refine R.eq rfl rfl (show _ = bdS F by unfold bdS; rw [if_neg (by omega), if_neg (by omega), if_pos (by omega)]) ?_
          refine R_goto (tgt := 134) hX dX12_readsStatement_115 (by decide) ?_
          refine R_aload_0 hX dX12_readsStatement_134 ?_
          refine R_aload_0 hX dX12_readsStatement_135 ?_
          refine R_geti hX dX12_readsStatement_136 fl_X12_116 o_136 rfl ?_
          try simp (disch := omega) only [up_i, up_k, up_s]
          refine R_iconst hX dX12_readsStatement_139 ?_
          refine R_icmpne (tgt := 147) hX dX12_readsStatement_140 (by decide) (by constructor <;> first | omega | (simp (disch := omega) only [up_k, up_i, up_s]; omega)) (by constructor <;> first | omega | (simp (disch := omega) only [up_k, up_i, up_s]; omega)) (fun c_140 => ?_) (fun c_140 => ?_)
          · skip
            refine R_iconst hX dX12_readsStatement_147 ?_
            refine R_iconst hX dX12_readsStatement_148 ?_
            refine R_v2v hX dX12_readsStatement_149 li_X12_175 mk_X12_must mi_X12_must rfl o_136 (r_must (by have z := (bB.1).2.1; constructor <;> omega) (by have z := (bB.1).2.2.1; constructor <;> omega) (by omega)) ⟨⟨by decide, by decide⟩, by decide, by decide, rfl, Nat.le_of_ble_eq_true rfl, rfl⟩ (fun x_149 F_149 h_149 => ?_)
            subst h_149
            refine R.eq rfl rfl (show _ = mu (bdS F 136 17 = 3) 1 (bdS F) from mu_iff (by omega)) ?_
            refine R_aload_0 hX dX12_readsStatement_152 ?_
            refine R_v0v hX dX12_readsStatement_153 li_X12_179 mk_X12_scans mi_X12_scans rfl o_136 (r_scans (bB.1.mu (g := bdS F 136 17 = 3) (c := 1) (by omega)).1 (by have z := (bB.1.mu (g := bdS F 136 17 = 3) (c := 1) (by omega)).2.1; constructor <;> omega)) ⟨⟨by decide, by decide⟩, by decide, by decide, rfl, Nat.le_of_ble_eq_true rfl, rfl⟩ (fun x_153 F_153 h_153 => ?_)
            subst h_153
            exact R_vret hX dX12_readsStatement_156 rfl
          · skip
            refine R_iconst hX dX12_readsStatement_143 ?_
            refine R_goto (tgt := 148) hX dX12_readsStatement_144 (by decide) ?_
            refine R_iconst hX dX12_readsStatement_148 ?_
            refine R_v2v hX dX12_readsStatement_149 li_X12_175 mk_X12_must mi_X12_must rfl o_136 (r_must (by have z := (bB.1).2.1; constructor <;> omega) (by have z := (bB.1).2.2.1; constructor <;> omega) (by omega)) ⟨⟨by decide, by decide⟩, by decide, by decide, rfl, Nat.le_of_ble_eq_true rfl, rfl⟩ (fun x_149 F_149 h_149 => ?_)
            subst h_149
            refine R.eq rfl rfl (show _ = mu (bdS F 136 17 = 3) 1 (bdS F) from mu_iff (by omega)) ?_
            refine R_aload_0 hX dX12_readsStatement_152 ?_
            refine R_v0v hX dX12_readsStatement_153 li_X12_179 mk_X12_scans mi_X12_scans rfl o_136 (r_scans (bB.1.mu (g := bdS F 136 17 = 3) (c := 1) (by omega)).1 (by have z := (bB.1.mu (g := bdS F 136 17 = 3) (c := 1) (by omega)).2.1; constructor <;> omega)) ⟨⟨by decide, by decide⟩, by decide, by decide, rfl, Nat.le_of_ble_eq_true rfl, rfl⟩ (fun x_153 F_153 h_153 => ?_)
            subst h_153
            exact R_vret hX dX12_readsStatement_156 rfl
    · skip
      refine R_aload_0 hX dX12_readsStatement_27 ?_
      refine R_aload_0 hX dX12_readsStatement_28 ?_
      refine R_getz hX dX12_readsStatement_29 fl_X12_217 o_136 rfl ?_
      try simp (disch := omega) only [up_i, up_k, up_s]
      refine R_ifne (tgt := 39) hX dX12_readsStatement_32 (by decide) (by constructor <;> first | omega | (simp (disch := omega) only [up_k, up_i, up_s]; omega)) (fun c_32 => ?_) (fun c_32 => ?_)
      · skip
        refine R_iconst hX dX12_readsStatement_39 ?_
        refine R_iconst hX dX12_readsStatement_40 ?_
        refine R_v2v hX dX12_readsStatement_41 li_X12_175 mk_X12_must mi_X12_must rfl o_136 (r_must (by constructor <;> omega) (by constructor <;> omega) (by omega)) ⟨⟨by decide, by decide⟩, by decide, by decide, rfl, Nat.le_of_ble_eq_true rfl, rfl⟩ (fun x_41 F_41 h_41 => ?_)
        subst h_41
        refine R.eq rfl rfl (show _ = mu (F 136 25 = 0) 4 F from mu_iff (by omega)) ?_
        refine R_aload_0 hX dX12_readsStatement_44 ?_
        refine R_iconst hX dX12_readsStatement_45 ?_
        refine R_putz hX dX12_readsStatement_46 fl_X12_217 o_136 rfl (by omega) ?_
        refine R_aload_0 hX dX12_readsStatement_49 ?_
        refine R_v0v hX dX12_readsStatement_50 li_X12_179 mk_X12_scans mi_X12_scans rfl o_136 (r_scans ((h.mu (g := F 136 25 = 0) (c := 4) (by omega)).u25 (i := 25) (x := 1) (by omega) (by omega)).1 (by have z := ((h.mu (g := F 136 25 = 0) (c := 4) (by omega)).u25 (i := 25) (x := 1) (by omega) (by omega)).2.1; constructor <;> omega)) ⟨⟨by decide, by decide⟩, by decide, by decide, rfl, Nat.le_of_ble_eq_true rfl, rfl⟩ (fun x_50 F_50 h_50 => ?_)
        subst h_50
        refine R.eq rfl rfl (show _ = lmA F from rfl) ?_
        refine R_aload_0 hX dX12_readsStatement_53 ?_
        refine R_aload_0 hX dX12_readsStatement_54 ?_
        refine R_iconst hX dX12_readsStatement_55 ?_
        refine R_bipush hX dX12_readsStatement_56 (by decide) ?_
        refine R_v2i hX dX12_readsStatement_58 li_X12_195 mk_X12_readsNumber mi_X12_readsNumber rfl o_136 (r_readsNumber lA.1 (by constructor <;> omega) (by constructor <;> omega)) ⟨⟨by decide, by decide⟩, by decide, by decide, rfl, Nat.le_of_ble_eq_true rfl, rfl⟩ (fun x_58 F_58 h_58 => ?_)
        obtain ⟨hx, hF⟩ := h_58
        subst hx
        subst hF
        refine R_puti hX dX12_readsStatement_61 fl_X12_221 o_136 rfl ?_
        refine R.eq rfl rfl (show _ = bdS F by unfold bdS; rw [if_neg (by omega), if_pos (by omega)]) ?_
        refine R_goto (tgt := 134) hX dX12_readsStatement_64 (by decide) ?_
        refine R_aload_0 hX dX12_readsStatement_134 ?_
        refine R_aload_0 hX dX12_readsStatement_135 ?_
        refine R_geti hX dX12_readsStatement_136 fl_X12_116 o_136 rfl ?_
        try simp (disch := omega) only [up_i, up_k, up_s]
        refine R_iconst hX dX12_readsStatement_139 ?_
        refine R_icmpne (tgt := 147) hX dX12_readsStatement_140 (by decide) (by constructor <;> first | omega | (simp (disch := omega) only [up_k, up_i, up_s]; omega)) (by constructor <;> first | omega | (simp (disch := omega) only [up_k, up_i, up_s]; omega)) (fun c_140 => ?_) (fun c_140 => ?_)
        · skip
          refine R_iconst hX dX12_readsStatement_147 ?_
          refine R_iconst hX dX12_readsStatement_148 ?_
          refine R_v2v hX dX12_readsStatement_149 li_X12_175 mk_X12_must mi_X12_must rfl o_136 (r_must (by have z := (bB.1).2.1; constructor <;> omega) (by have z := (bB.1).2.2.1; constructor <;> omega) (by omega)) ⟨⟨by decide, by decide⟩, by decide, by decide, rfl, Nat.le_of_ble_eq_true rfl, rfl⟩ (fun x_149 F_149 h_149 => ?_)
          subst h_149
          refine R.eq rfl rfl (show _ = mu (bdS F 136 17 = 3) 1 (bdS F) from mu_iff (by omega)) ?_
          refine R_aload_0 hX dX12_readsStatement_152 ?_
          refine R_v0v hX dX12_readsStatement_153 li_X12_179 mk_X12_scans mi_X12_scans rfl o_136 (r_scans (bB.1.mu (g := bdS F 136 17 = 3) (c := 1) (by omega)).1 (by have z := (bB.1.mu (g := bdS F 136 17 = 3) (c := 1) (by omega)).2.1; constructor <;> omega)) ⟨⟨by decide, by decide⟩, by decide, by decide, rfl, Nat.le_of_ble_eq_true rfl, rfl⟩ (fun x_153 F_153 h_153 => ?_)
          subst h_153
          exact R_vret hX dX12_readsStatement_156 rfl
        · skip
          refine R_iconst hX dX12_readsStatement_143 ?_
          refine R_goto (tgt := 148) hX dX12_readsStatement_144 (by decide) ?_
          refine R_iconst hX dX12_readsStatement_148 ?_
          refine R_v2v hX dX12_readsStatement_149 li_X12_175 mk_X12_must mi_X12_must rfl o_136 (r_must (by have z := (bB.1).2.1; constructor <;> omega) (by have z := (bB.1).2.2.1; constructor <;> omega) (by omega)) ⟨⟨by decide, by decide⟩, by decide, by decide, rfl, Nat.le_of_ble_eq_true rfl, rfl⟩ (fun x_149 F_149 h_149 => ?_)
          subst h_149
          refine R.eq rfl rfl (show _ = mu (bdS F 136 17 = 3) 1 (bdS F) from mu_iff (by omega)) ?_
          refine R_aload_0 hX dX12_readsStatement_152 ?_
          refine R_v0v hX dX12_readsStatement_153 li_X12_179 mk_X12_scans mi_X12_scans rfl o_136 (r_scans (bB.1.mu (g := bdS F 136 17 = 3) (c := 1) (by omega)).1 (by have z := (bB.1.mu (g := bdS F 136 17 = 3) (c := 1) (by omega)).2.1; constructor <;> omega)) ⟨⟨by decide, by decide⟩, by decide, by decide, rfl, Nat.le_of_ble_eq_true rfl, rfl⟩ (fun x_153 F_153 h_153 => ?_)
          subst h_153
          exact R_vret hX dX12_readsStatement_156 rfl
      · skip
        refine R_iconst hX dX12_readsStatement_35 ?_
        refine R_goto (tgt := 40) hX dX12_readsStatement_36 (by decide) ?_
        refine R_iconst hX dX12_readsStatement_40 ?_
        refine R_v2v hX dX12_readsStatement_41 li_X12_175 mk_X12_must mi_X12_must rfl o_136 (r_must (by constructor <;> omega) (by constructor <;> omega) (by omega)) ⟨⟨by decide, by decide⟩, by decide, by decide, rfl, Nat.le_of_ble_eq_true rfl, rfl⟩ (fun x_41 F_41 h_41 => ?_)
        subst h_41
        refine R.eq rfl rfl (show _ = mu (F 136 25 = 0) 4 F from mu_iff (by omega)) ?_
        refine R_aload_0 hX dX12_readsStatement_44 ?_
        refine R_iconst hX dX12_readsStatement_45 ?_
        refine R_putz hX dX12_readsStatement_46 fl_X12_217 o_136 rfl (by omega) ?_
        refine R_aload_0 hX dX12_readsStatement_49 ?_
        refine R_v0v hX dX12_readsStatement_50 li_X12_179 mk_X12_scans mi_X12_scans rfl o_136 (r_scans ((h.mu (g := F 136 25 = 0) (c := 4) (by omega)).u25 (i := 25) (x := 1) (by omega) (by omega)).1 (by have z := ((h.mu (g := F 136 25 = 0) (c := 4) (by omega)).u25 (i := 25) (x := 1) (by omega) (by omega)).2.1; constructor <;> omega)) ⟨⟨by decide, by decide⟩, by decide, by decide, rfl, Nat.le_of_ble_eq_true rfl, rfl⟩ (fun x_50 F_50 h_50 => ?_)
        subst h_50
        refine R.eq rfl rfl (show _ = lmA F from rfl) ?_
        refine R_aload_0 hX dX12_readsStatement_53 ?_
        refine R_aload_0 hX dX12_readsStatement_54 ?_
        refine R_iconst hX dX12_readsStatement_55 ?_
        refine R_bipush hX dX12_readsStatement_56 (by decide) ?_
        refine R_v2i hX dX12_readsStatement_58 li_X12_195 mk_X12_readsNumber mi_X12_readsNumber rfl o_136 (r_readsNumber lA.1 (by constructor <;> omega) (by constructor <;> omega)) ⟨⟨by decide, by decide⟩, by decide, by decide, rfl, Nat.le_of_ble_eq_true rfl, rfl⟩ (fun x_58 F_58 h_58 => ?_)
        obtain ⟨hx, hF⟩ := h_58
        subst hx
        subst hF
        refine R_puti hX dX12_readsStatement_61 fl_X12_221 o_136 rfl ?_
        refine R.eq rfl rfl (show _ = bdS F by unfold bdS; rw [if_neg (by omega), if_pos (by omega)]) ?_
        refine R_goto (tgt := 134) hX dX12_readsStatement_64 (by decide) ?_
        refine R_aload_0 hX dX12_readsStatement_134 ?_
        refine R_aload_0 hX dX12_readsStatement_135 ?_
        refine R_geti hX dX12_readsStatement_136 fl_X12_116 o_136 rfl ?_
        try simp (disch := omega) only [up_i, up_k, up_s]
        refine R_iconst hX dX12_readsStatement_139 ?_
        refine R_icmpne (tgt := 147) hX dX12_readsStatement_140 (by decide) (by constructor <;> first | omega | (simp (disch := omega) only [up_k, up_i, up_s]; omega)) (by constructor <;> first | omega | (simp (disch := omega) only [up_k, up_i, up_s]; omega)) (fun c_140 => ?_) (fun c_140 => ?_)
        · skip
          refine R_iconst hX dX12_readsStatement_147 ?_
          refine R_iconst hX dX12_readsStatement_148 ?_
          refine R_v2v hX dX12_readsStatement_149 li_X12_175 mk_X12_must mi_X12_must rfl o_136 (r_must (by have z := (bB.1).2.1; constructor <;> omega) (by have z := (bB.1).2.2.1; constructor <;> omega) (by omega)) ⟨⟨by decide, by decide⟩, by decide, by decide, rfl, Nat.le_of_ble_eq_true rfl, rfl⟩ (fun x_149 F_149 h_149 => ?_)
          subst h_149
          refine R.eq rfl rfl (show _ = mu (bdS F 136 17 = 3) 1 (bdS F) from mu_iff (by omega)) ?_
          refine R_aload_0 hX dX12_readsStatement_152 ?_
          refine R_v0v hX dX12_readsStatement_153 li_X12_179 mk_X12_scans mi_X12_scans rfl o_136 (r_scans (bB.1.mu (g := bdS F 136 17 = 3) (c := 1) (by omega)).1 (by have z := (bB.1.mu (g := bdS F 136 17 = 3) (c := 1) (by omega)).2.1; constructor <;> omega)) ⟨⟨by decide, by decide⟩, by decide, by decide, rfl, Nat.le_of_ble_eq_true rfl, rfl⟩ (fun x_153 F_153 h_153 => ?_)
          subst h_153
          exact R_vret hX dX12_readsStatement_156 rfl
        · skip
          refine R_iconst hX dX12_readsStatement_143 ?_
          refine R_goto (tgt := 148) hX dX12_readsStatement_144 (by decide) ?_
          refine R_iconst hX dX12_readsStatement_148 ?_
          refine R_v2v hX dX12_readsStatement_149 li_X12_175 mk_X12_must mi_X12_must rfl o_136 (r_must (by have z := (bB.1).2.1; constructor <;> omega) (by have z := (bB.1).2.2.1; constructor <;> omega) (by omega)) ⟨⟨by decide, by decide⟩, by decide, by decide, rfl, Nat.le_of_ble_eq_true rfl, rfl⟩ (fun x_149 F_149 h_149 => ?_)
          subst h_149
          refine R.eq rfl rfl (show _ = mu (bdS F 136 17 = 3) 1 (bdS F) from mu_iff (by omega)) ?_
          refine R_aload_0 hX dX12_readsStatement_152 ?_
          refine R_v0v hX dX12_readsStatement_153 li_X12_179 mk_X12_scans mi_X12_scans rfl o_136 (r_scans (bB.1.mu (g := bdS F 136 17 = 3) (c := 1) (by omega)).1 (by have z := (bB.1.mu (g := bdS F 136 17 = 3) (c := 1) (by omega)).2.1; constructor <;> omega)) ⟨⟨by decide, by decide⟩, by decide, by decide, rfl, Nat.le_of_ble_eq_true rfl, rfl⟩ (fun x_153 F_153 h_153 => ?_)
          subst h_153
          exact R_vret hX dX12_readsStatement_156 rfl
  · skip
    refine R_aload_0 hX dX12_readsStatement_10 ?_
    refine R_v0v hX dX12_readsStatement_11 li_X12_214 mk_X12_readsNode mi_X12_readsNode rfl o_136 (r_readsNode h ha) ⟨⟨by decide, by decide⟩, by decide, by decide, rfl, Nat.le_of_ble_eq_true rfl, rfl⟩ (fun x_11 F_11 h_11 => ?_)
    subst h_11
    refine R.eq rfl rfl (show _ = bdS F by unfold bdS; rw [if_pos (by omega)]) ?_
    refine R_goto (tgt := 134) hX dX12_readsStatement_14 (by decide) ?_
    refine R_aload_0 hX dX12_readsStatement_134 ?_
    refine R_aload_0 hX dX12_readsStatement_135 ?_
    refine R_geti hX dX12_readsStatement_136 fl_X12_116 o_136 rfl ?_
    try simp (disch := omega) only [up_i, up_k, up_s]
    refine R_iconst hX dX12_readsStatement_139 ?_
    refine R_icmpne (tgt := 147) hX dX12_readsStatement_140 (by decide) (by constructor <;> first | omega | (simp (disch := omega) only [up_k, up_i, up_s]; omega)) (by constructor <;> first | omega | (simp (disch := omega) only [up_k, up_i, up_s]; omega)) (fun c_140 => ?_) (fun c_140 => ?_)
    · skip
      refine R_iconst hX dX12_readsStatement_147 ?_
      refine R_iconst hX dX12_readsStatement_148 ?_
      refine R_v2v hX dX12_readsStatement_149 li_X12_175 mk_X12_must mi_X12_must rfl o_136 (r_must (by have z := (bB.1).2.1; constructor <;> omega) (by have z := (bB.1).2.2.1; constructor <;> omega) (by omega)) ⟨⟨by decide, by decide⟩, by decide, by decide, rfl, Nat.le_of_ble_eq_true rfl, rfl⟩ (fun x_149 F_149 h_149 => ?_)
      subst h_149
      refine R.eq rfl rfl (show _ = mu (bdS F 136 17 = 3) 1 (bdS F) from mu_iff (by omega)) ?_
      refine R_aload_0 hX dX12_readsStatement_152 ?_
      refine R_v0v hX dX12_readsStatement_153 li_X12_179 mk_X12_scans mi_X12_scans rfl o_136 (r_scans (bB.1.mu (g := bdS F 136 17 = 3) (c := 1) (by omega)).1 (by have z := (bB.1.mu (g := bdS F 136 17 = 3) (c := 1) (by omega)).2.1; constructor <;> omega)) ⟨⟨by decide, by decide⟩, by decide, by decide, rfl, Nat.le_of_ble_eq_true rfl, rfl⟩ (fun x_153 F_153 h_153 => ?_)
      subst h_153
      exact R_vret hX dX12_readsStatement_156 rfl
    · skip
      refine R_iconst hX dX12_readsStatement_143 ?_
      refine R_goto (tgt := 148) hX dX12_readsStatement_144 (by decide) ?_
      refine R_iconst hX dX12_readsStatement_148 ?_
      refine R_v2v hX dX12_readsStatement_149 li_X12_175 mk_X12_must mi_X12_must rfl o_136 (r_must (by have z := (bB.1).2.1; constructor <;> omega) (by have z := (bB.1).2.2.1; constructor <;> omega) (by omega)) ⟨⟨by decide, by decide⟩, by decide, by decide, rfl, Nat.le_of_ble_eq_true rfl, rfl⟩ (fun x_149 F_149 h_149 => ?_)
      subst h_149
      refine R.eq rfl rfl (show _ = mu (bdS F 136 17 = 3) 1 (bdS F) from mu_iff (by omega)) ?_
      refine R_aload_0 hX dX12_readsStatement_152 ?_
      refine R_v0v hX dX12_readsStatement_153 li_X12_179 mk_X12_scans mi_X12_scans rfl o_136 (r_scans (bB.1.mu (g := bdS F 136 17 = 3) (c := 1) (by omega)).1 (by have z := (bB.1.mu (g := bdS F 136 17 = 3) (c := 1) (by omega)).2.1; constructor <;> omega)) ⟨⟨by decide, by decide⟩, by decide, by decide, rfl, Nat.le_of_ble_eq_true rfl, rfl⟩ (fun x_153 F_153 h_153 => ?_)
      subst h_153
      exact R_vret hX dX12_readsStatement_156 rfl
