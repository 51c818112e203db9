theorem RI.of {K : Int} {F : Hp} (h : StA 1000 1100 K (vw 0 F)) : RI K F := h
theorem StA.refk {b u K : Int} {F : Hp} (hd : dj b u) (h : StA b u K F) (k : Nat) (hk : (k : Int) ≤ F u 0) : StA b u K (refS b u k F) := by
  have e : ∀ a : Int, a ≠ b + 5 ∧ a ≠ b + 6 ∧ a ≠ b + 7 → refS b u k F a = F a := fun a z => refS_r z _ _
  refine ⟨?_, AcI.ref hd h.2.1 h.1 k hk, ?_, ?_, ?_⟩
  · have := h.1
    unfold SuI at this ⊢
    rw [e u (by omega), e (u + 2) (by omega), e (u + 3) (by omega), e (u + 4) (by omega), e (u + 5) (by omega), e (u + 6) (by omega), e (u + 7) (by omega), e (u + 8) (by omega), e (u + 9) (by omega), e (u + 10) (by omega), e (u + 11) (by omega), e (u + 12) (by omega), e (u + 13) (by omega), e (u + 14) (by omega), e (u + 15) (by omega), e (u + 16) (by omega)]
    exact this
  · have := h.2.2.1
    unfold QuI at this ⊢
    rw [e b (by omega), e u (by omega), e (u + 4) (by omega), e (b + 9) (by omega), e (b + 11) (by omega), e (b + 12) (by omega)]
    exact this
  · have := h.2.2.2.1
    unfold LoI at this ⊢
    rw [e (b + 19) (by omega), e (b + 23) (by omega), e (b + 21) (by omega), e b (by omega)]
    exact this
  · have := h.2.2.2.2
    unfold BdS at this ⊢
    rw [e u (by omega), e (b + 14) (by omega), e (b + 9) (by omega)]
    exact this
theorem dj1 : dj 1000 1100 := by unfold dj; omega
theorem rf1v {F G : Hp} {x v1 v2 v3 : Int} (hx : 0 ≤ x ∧ x < 12) (g2 : G 142 x = F 142 x) (g3 : G 143 x = F 143 x) (h1 : v1 = G 137 (3 + x) + G 137 (99 + x) - max 0 (G 137 (3 + x) + G 137 (99 + x) - F 142 x)) (h2 : v2 = min (F 143 x) (G 137 (15 + x) + max 0 (G 137 (3 + x) + G 137 (99 + x) - F 142 x))) (h3 : v3 = min (F 142 x) (G 137 (27 + x) + G 137 (111 + x))) : vw 0 (up (up (up G 137 (3 + x) v1) 137 (15 + x) v2) 137 (27 + x) v3) = rfS1 1000 1100 x (vw 0 G) := by
  rw [vu_7 hx, vu_6 hx, vu_5 hx]
  unfold rfS1
  rw [show (1000 : Int) + 5 = 1005 from rfl, show (1000 : Int) + 6 = 1006 from rfl, show (1000 : Int) + 7 = 1007 from rfl, show (1000 : Int) + 1 = 1001 from rfl, show (1000 : Int) + 2 = 1002 from rfl, show (1100 : Int) + 7 = 1107 from rfl, show (1100 : Int) + 8 = 1108 from rfl, vw_1107, vw_1108, vw_5 hx, vw_6 hx, vw_7 hx, vw_1 hx, vw_2 hx, g2, g3, h1, h2, h3]
theorem ch1v {F G : Hp} {x : Int} (hG : Fr F G) (hw : 0 ≤ F 151 x ∧ F 151 x < 12) : chS1 1000 1100 x (vw 0 G) = if F 150 x = G 137 0 then vw 0 (up G 137 (87 + 12 * plc (F 152 x) + F 151 x) (F 153 x)) else vw 0 G := by
  have hp : plc (F 152 x) = 1 ∨ plc (F 152 x) = 2 ∨ plc (F 152 x) = 3 := by unfold plc; split; (left; rfl); (split; (right; left; rfl); (right; right; rfl))
  unfold chS1
  rw [show (1100 : Int) + 13 = 1113 from rfl, show (1100 : Int) + 14 = 1114 from rfl, show (1100 : Int) + 15 = 1115 from rfl, show (1100 : Int) + 16 = 1116 from rfl, vw_1113, vw_1114, vw_1115, vw_1116, vw_t, hG.1 150 (by decide), hG.1 151 (by decide), hG.1 152 (by decide), hG.1 153 (by decide)]
  split
  · rcases hp with hp | hp | hp <;> rw [hp]
    · rw [show (87 : Int) + 12 * 1 = 99 from rfl, vu_1 hw]
      rfl
    · rw [show (87 : Int) + 12 * 2 = 111 from rfl, vu_2 hw]
      rfl
    · rw [show (87 : Int) + 12 * 3 = 123 from rfl, vu_3 hw]
      rfl
  · rfl
set_option maxRecDepth 100000 in
set_option maxHeartbeats 4000000 in
theorem r_placeOf {V : VX} {F : Hp} {w : Int} (hw : I32 w) : Ct V yX12_placeOf cX12_placeOf 1 (some .int) 0 0 0 0 SH [vi w] F SH 1 (fun r F' => r = 87 + 12 * plc w ∧ F' = F) := by
  refine Ct.of [some (vi w)] (by decide) (by simp [lg_sl, vi_cat, vl_cat, vr_cat]) rfl (by simp [asc, lv_args, vi_cat, vl_cat, vr_cat]) (fun X hV hX => ?_)
  subst hV
  refine R_iload_0 hX dX12_placeOf_0 ?_
  refine R_ifne (tgt := 9) hX dX12_placeOf_1 (by decide) hw (fun c_1 => ?_) (fun c_1 => ?_)
  · skip
    refine R_iload_0 hX dX12_placeOf_9 ?_
    refine R_iconst hX dX12_placeOf_10 ?_
    refine R_icmpne (tgt := 19) hX dX12_placeOf_11 (by decide) (by constructor <;> first | omega | (simp (disch := omega) only [up_k, up_i, up_s]; omega)) (by constructor <;> first | omega | (simp (disch := omega) only [up_k, up_i, up_s]; omega)) (fun c_11 => ?_) (fun c_11 => ?_)
    · skip
      refine R_bipush hX dX12_placeOf_19 (by decide) ?_
      exact R_iret hX dX12_placeOf_21 ⟨by unfold plc; first | (rw [if_pos (by omega)]; rfl) | (rw [if_neg (by omega), if_pos (by omega)]; rfl) | (rw [if_neg (by omega), if_neg (by omega)]; rfl), rfl⟩
    · skip
      refine R_bipush hX dX12_placeOf_14 (by decide) ?_
      refine R_goto (tgt := 21) hX dX12_placeOf_16 (by decide) ?_
      exact R_iret hX dX12_placeOf_21 ⟨by unfold plc; first | (rw [if_pos (by omega)]; rfl) | (rw [if_neg (by omega), if_pos (by omega)]; rfl) | (rw [if_neg (by omega), if_neg (by omega)]; rfl), rfl⟩
  · skip
    refine R_bipush hX dX12_placeOf_4 (by decide) ?_
    refine R_goto (tgt := 21) hX dX12_placeOf_6 (by decide) ?_
    exact R_iret hX dX12_placeOf_21 ⟨by unfold plc; first | (rw [if_pos (by omega)]; rfl) | (rw [if_neg (by omega), if_pos (by omega)]; rfl) | (rw [if_neg (by omega), if_neg (by omega)]; rfl), rfl⟩
set_option maxRecDepth 100000 in
set_option maxHeartbeats 4000000 in
theorem r_refills {V : VX} {F : Hp} {K : Int} (h : RI K F)  : Ct V yX12_refills cX12_refills 6 none 0 0 0 0 SH [vr V 136] F SH 0 (fun r F' => vw 0 F' = refS 1000 1100 (F 136 3).toNat (vw 0 F) ∧ Fr F F') := by
  refine Ct.of [some (vr V 136), none, none, none, none, none] (by decide) (by simp [lg_sl, vi_cat, vl_cat, vr_cat]) rfl (by simp [asc, lv_args, vi_cat, vl_cat, vr_cat]) (fun X hV hX => ?_)
  subst hV
  have hN := ri_N h
  have hT := ri_T h
  have hSS := ri_S h
  have hN0 : vw 0 F 1100 0 = F 136 3 := vw_1100_0
  refine R_iconst hX dX12_refills_0 ?_
  refine R_istore_1 hX c1_r dX12_refills_1 ?_
  have lp_2 : ∀ (n : Nat) (x : Int) (G : Hp), (0 ≤ x ∧ x ≤ F 136 3) → (vw 0 G = refS 1000 1100 x.toNat (vw 0 F)) → (Fr F G) → (13 - x).toNat < n → R X SH 0 0 2 [some (vr (xV X) 136), some (vi x), none, none, none, none] [] G (Zq X SH 0 (fun r F' => vw 0 F' = refS 1000 1100 (F 136 3).toNat (vw 0 F) ∧ Fr F F') 0 0) := by
    intro n
    induction n with
    | zero => intro x G iv2_0 iv2_1 iv2_2 hm; exact absurd hm (Nat.not_lt_zero _)
    | succ n ih_2 =>
      intro x G iv2_0 iv2_1 iv2_2 hm_2
      have g3 : G 136 3 = F 136 3 := by rw [iv2_2.1 136 (by decide)]
      have g2 : ∀ i : Int, G 142 i = F 142 i := fun i => by rw [iv2_2.1 142 (by decide)]
      have g4 : ∀ i : Int, G 143 i = F 143 i := fun i => by rw [iv2_2.1 143 (by decide)]
      have hG : RI K G := RI.of (by rw [iv2_1]; exact StA.refk dj1 h _ (by rw [hN0]; omega))
      have hGA := ri_A hG
      refine R_iload_1 hX dX12_refills_2 ?_
      refine R_aload_0 hX dX12_refills_3 ?_
      refine R_geti hX dX12_refills_4 fl_X12_91 o_136 rfl ?_
      try simp (disch := omega) only [up_k, up_i, up_s]
      refine R_icmpge (tgt := 165) hX dX12_refills_7 (by decide) (by constructor <;> first | omega | (simp (disch := omega) only [up_k, up_i, up_s]; omega)) (by constructor <;> first | omega | (simp (disch := omega) only [up_k, up_i, up_s]; omega)) (fun c_7 => ?_) (fun c_7 => ?_)
      · skip
        exact R_vret hX dX12_refills_165 ⟨(show F 136 3 = x by omega) ▸ iv2_1, iv2_2⟩
      · skip
        have ha := hGA x (by omega) (by omega)
        have hs := hSS x (by omega) (by omega)
        have g2x := g2 x
        have g4x := g4 x
        have hfin : ∀ v1 v2 v3 : Int, v1 = G 137 (3 + x) + G 137 (99 + x) - max 0 (G 137 (3 + x) + G 137 (99 + x) - F 142 x) → v2 = min (F 143 x) (G 137 (15 + x) + max 0 (G 137 (3 + x) + G 137 (99 + x) - F 142 x)) → v3 = min (F 142 x) (G 137 (27 + x) + G 137 (111 + x)) → vw 0 (up (up (up G 137 (3 + x) v1) 137 (15 + x) v2) 137 (27 + x) v3) = refS 1000 1100 (x + 1).toNat (vw 0 F) := fun v1 v2 v3 q1 q2 q3 => by rw [rf1v (F := F) (by omega) g2x g4x q1 q2 q3, refS_s (by omega), iv2_1]
        refine R_aload_0 hX dX12_refills_10 ?_
        refine R_getq (v := 137) hX dX12_refills_11 fl_X12_7 o_136 rfl (by omega) ?_
        refine R_iconst hX dX12_refills_14 ?_
        refine R_iload_1 hX dX12_refills_15 ?_
        refine R_iadd hX dX12_refills_16 ?_
        refine R_iald hX dX12_refills_17 a_137 ⟨by omega, by omega⟩ ?_
        try simp (disch := omega) only [up_k, up_i, up_s]
        refine R_aload_0 hX dX12_refills_18 ?_
        refine R_getq (v := 137) hX dX12_refills_19 fl_X12_7 o_136 rfl (by omega) ?_
        refine R_bipush hX dX12_refills_22 (by decide) ?_
        refine R_iload_1 hX dX12_refills_24 ?_
        refine R_iadd hX dX12_refills_25 ?_
        refine R_iald hX dX12_refills_26 a_137 ⟨by omega, by omega⟩ ?_
        try simp (disch := omega) only [up_k, up_i, up_s]
        refine R_iadd hX dX12_refills_27 ?_
        refine R_istore_2 hX c1_i dX12_refills_28 ?_
        refine R_iload_2 hX dX12_refills_29 ?_
        refine R_aload_0 hX dX12_refills_30 ?_
        refine R_getq (v := 142) hX dX12_refills_31 fl_X12_34 o_136 rfl (by omega) ?_
        refine R_iload_1 hX dX12_refills_34 ?_
        refine R_iald hX dX12_refills_35 a_142 ⟨by omega, by omega⟩ ?_
        try simp (disch := omega) only [up_k, up_i, up_s]
        refine R_icmple (tgt := 50) hX dX12_refills_36 (by decide) (by constructor <;> first | omega | (simp (disch := omega) only [up_k, up_i, up_s]; omega)) (by constructor <;> first | omega | (simp (disch := omega) only [up_k, up_i, up_s]; omega)) (fun c_36 => ?_) (fun c_36 => ?_)
        · skip
          refine R_iconst hX dX12_refills_50 ?_
          refine R_istore_3 hX c1_i dX12_refills_51 ?_
          refine R_aload_0 hX dX12_refills_52 ?_
          refine R_getq (v := 137) hX dX12_refills_53 fl_X12_7 o_136 rfl (by omega) ?_
          refine R_iconst hX dX12_refills_56 ?_
          refine R_iload_1 hX dX12_refills_57 ?_
          refine R_iadd hX dX12_refills_58 ?_
          refine R_iload_2 hX dX12_refills_59 ?_
          refine R_iload_3 hX dX12_refills_60 ?_
          refine R_isub hX dX12_refills_61 ?_
          refine R_iast hX dX12_refills_62 a_137 ⟨by omega, by omega⟩ ?_
          refine R_aload_0 hX dX12_refills_63 ?_
          refine R_getq (v := 137) hX dX12_refills_64 fl_X12_7 o_136 rfl (by omega) ?_
          refine R_bipush hX dX12_refills_67 (by decide) ?_
          refine R_iload_1 hX dX12_refills_69 ?_
          refine R_iadd hX dX12_refills_70 ?_
          refine R_iald hX dX12_refills_71 a_137 ⟨by omega, by omega⟩ ?_
          try simp (disch := omega) only [up_k, up_i, up_s]
          refine R_iload_3 hX dX12_refills_72 ?_
          refine R_iadd hX dX12_refills_73 ?_
          refine R_istore_4 hX c1_i dX12_refills_74 ?_
          refine R_aload_0 hX dX12_refills_76 ?_
          refine R_getq (v := 137) hX dX12_refills_77 fl_X12_7 o_136 rfl (by omega) ?_
          refine R_bipush hX dX12_refills_80 (by decide) ?_
          refine R_iload_1 hX dX12_refills_82 ?_
          refine R_iadd hX dX12_refills_83 ?_
          refine R_iload_4 hX dX12_refills_84 ?_
          refine R_aload_0 hX dX12_refills_86 ?_
          refine R_getq (v := 143) hX dX12_refills_87 fl_X12_37 o_136 rfl (by omega) ?_
          refine R_iload_1 hX dX12_refills_90 ?_
          refine R_iald hX dX12_refills_91 a_143 ⟨by omega, by omega⟩ ?_
          try simp (disch := omega) only [up_k, up_i, up_s]
          refine R_icmple (tgt := 104) hX dX12_refills_92 (by decide) (by constructor <;> first | omega | (simp (disch := omega) only [up_k, up_i, up_s]; omega)) (by constructor <;> first | omega | (simp (disch := omega) only [up_k, up_i, up_s]; omega)) (fun c_92 => ?_) (fun c_92 => ?_)
          · skip
            refine R_iload_4 hX dX12_refills_104 ?_
            refine R_iast hX dX12_refills_106 a_137 ⟨by omega, by omega⟩ ?_
            refine R_aload_0 hX dX12_refills_107 ?_
            refine R_getq (v := 137) hX dX12_refills_108 fl_X12_7 o_136 rfl (by omega) ?_
            refine R_bipush hX dX12_refills_111 (by decide) ?_
            refine R_iload_1 hX dX12_refills_113 ?_
            refine R_iadd hX dX12_refills_114 ?_
            refine R_iald hX dX12_refills_115 a_137 ⟨by omega, by omega⟩ ?_
            try simp (disch := omega) only [up_k, up_i, up_s]
            refine R_aload_0 hX dX12_refills_116 ?_
            refine R_getq (v := 137) hX dX12_refills_117 fl_X12_7 o_136 rfl (by omega) ?_
            refine R_bipush hX dX12_refills_120 (by decide) ?_
            refine R_iload_1 hX dX12_refills_122 ?_
            refine R_iadd hX dX12_refills_123 ?_
            refine R_iald hX dX12_refills_124 a_137 ⟨by omega, by omega⟩ ?_
            try simp (disch := omega) only [up_k, up_i, up_s]
            refine R_iadd hX dX12_refills_125 ?_
            refine R_istore_5 hX c1_i dX12_refills_126 ?_
            refine R_aload_0 hX dX12_refills_128 ?_
            refine R_getq (v := 137) hX dX12_refills_129 fl_X12_7 o_136 rfl (by omega) ?_
            refine R_bipush hX dX12_refills_132 (by decide) ?_
            refine R_iload_1 hX dX12_refills_134 ?_
            refine R_iadd hX dX12_refills_135 ?_
            refine R_iload_5 hX dX12_refills_136 ?_
            refine R_aload_0 hX dX12_refills_138 ?_
            refine R_getq (v := 142) hX dX12_refills_139 fl_X12_34 o_136 rfl (by omega) ?_
            refine R_iload_1 hX dX12_refills_142 ?_
            refine R_iald hX dX12_refills_143 a_142 ⟨by omega, by omega⟩ ?_
            try simp (disch := omega) only [up_k, up_i, up_s]
            refine R_icmple (tgt := 156) hX dX12_refills_144 (by decide) (by constructor <;> first | omega | (simp (disch := omega) only [up_k, up_i, up_s]; omega)) (by constructor <;> first | omega | (simp (disch := omega) only [up_k, up_i, up_s]; omega)) (fun c_144 => ?_) (fun c_144 => ?_)
            · skip
              refine R_iload_5 hX dX12_refills_156 ?_
              refine R_iast hX dX12_refills_158 a_137 ⟨by omega, by omega⟩ ?_
              refine R_iinc_1 hX c1_r dX12_refills_159 ?_
              refine R_goto (tgt := 2) hX dX12_refills_162 (by decide) ?_
              refine R_drop_2 ?_
              refine R_drop_3 ?_
              refine R_drop_4 ?_
              refine R_drop_5 ?_
              exact ih_2 (x + 1) _ (by omega) (hfin _ _ _ (by omega) (by omega) (by omega)) (((iv2_2.up (by omega)).up (by omega)).up (by omega)) (by omega)
            · skip
              refine R_aload_0 hX dX12_refills_147 ?_
              refine R_getq (v := 142) hX dX12_refills_148 fl_X12_34 o_136 rfl (by omega) ?_
              refine R_iload_1 hX dX12_refills_151 ?_
              refine R_iald hX dX12_refills_152 a_142 ⟨by omega, by omega⟩ ?_
              try simp (disch := omega) only [up_k, up_i, up_s]
              refine R_goto (tgt := 158) hX dX12_refills_153 (by decide) ?_
              refine R_iast hX dX12_refills_158 a_137 ⟨by omega, by omega⟩ ?_
              refine R_iinc_1 hX c1_r dX12_refills_159 ?_
              refine R_goto (tgt := 2) hX dX12_refills_162 (by decide) ?_
              refine R_drop_2 ?_
              refine R_drop_3 ?_
              refine R_drop_4 ?_
              refine R_drop_5 ?_
              exact ih_2 (x + 1) _ (by omega) (hfin _ _ _ (by omega) (by omega) (by omega)) (((iv2_2.up (by omega)).up (by omega)).up (by omega)) (by omega)
          · skip
            refine R_aload_0 hX dX12_refills_95 ?_
            refine R_getq (v := 143) hX dX12_refills_96 fl_X12_37 o_136 rfl (by omega) ?_
            refine R_iload_1 hX dX12_refills_99 ?_
            refine R_iald hX dX12_refills_100 a_143 ⟨by omega, by omega⟩ ?_
            try simp (disch := omega) only [up_k, up_i, up_s]
            refine R_goto (tgt := 106) hX dX12_refills_101 (by decide) ?_
            refine R_iast hX dX12_refills_106 a_137 ⟨by omega, by omega⟩ ?_
            refine R_aload_0 hX dX12_refills_107 ?_
            refine R_getq (v := 137) hX dX12_refills_108 fl_X12_7 o_136 rfl (by omega) ?_
            refine R_bipush hX dX12_refills_111 (by decide) ?_
            refine R_iload_1 hX dX12_refills_113 ?_
            refine R_iadd hX dX12_refills_114 ?_
            refine R_iald hX dX12_refills_115 a_137 ⟨by omega, by omega⟩ ?_
            try simp (disch := omega) only [up_k, up_i, up_s]
            refine R_aload_0 hX dX12_refills_116 ?_
            refine R_getq (v := 137) hX dX12_refills_117 fl_X12_7 o_136 rfl (by omega) ?_
            refine R_bipush hX dX12_refills_120 (by decide) ?_
            refine R_iload_1 hX dX12_refills_122 ?_
            refine R_iadd hX dX12_refills_123 ?_
            refine R_iald hX dX12_refills_124 a_137 ⟨by omega, by omega⟩ ?_
            try simp (disch := omega) only [up_k, up_i, up_s]
            refine R_iadd hX dX12_refills_125 ?_
            refine R_istore_5 hX c1_i dX12_refills_126 ?_
            refine R_aload_0 hX dX12_refills_128 ?_
            refine R_getq (v := 137) hX dX12_refills_129 fl_X12_7 o_136 rfl (by omega) ?_
            refine R_bipush hX dX12_refills_132 (by decide) ?_
            refine R_iload_1 hX dX12_refills_134 ?_
            refine R_iadd hX dX12_refills_135 ?_
            refine R_iload_5 hX dX12_refills_136 ?_
            refine R_aload_0 hX dX12_refills_138 ?_
            refine R_getq (v := 142) hX dX12_refills_139 fl_X12_34 o_136 rfl (by omega) ?_
            refine R_iload_1 hX dX12_refills_142 ?_
            refine R_iald hX dX12_refills_143 a_142 ⟨by omega, by omega⟩ ?_
            try simp (disch := omega) only [up_k, up_i, up_s]
            refine R_icmple (tgt := 156) hX dX12_refills_144 (by decide) (by constructor <;> first | omega | (simp (disch := omega) only [up_k, up_i, up_s]; omega)) (by constructor <;> first | omega | (simp (disch := omega) only [up_k, up_i, up_s]; omega)) (fun c_144 => ?_) (fun c_144 => ?_)
            · skip
              refine R_iload_5 hX dX12_refills_156 ?_
              refine R_iast hX dX12_refills_158 a_137 ⟨by omega, by omega⟩ ?_
              refine R_iinc_1 hX c1_r dX12_refills_159 ?_
              refine R_goto (tgt := 2) hX dX12_refills_162 (by decide) ?_
              refine R_drop_2 ?_
              refine R_drop_3 ?_
              refine R_drop_4 ?_
              refine R_drop_5 ?_
              exact ih_2 (x + 1) _ (by omega) (hfin _ _ _ (by omega) (by omega) (by omega)) (((iv2_2.up (by omega)).up (by omega)).up (by omega)) (by omega)
            · skip
              refine R_aload_0 hX dX12_refills_147 ?_
              refine R_getq (v := 142) hX dX12_refills_148 fl_X12_34 o_136 rfl (by omega) ?_
              refine R_iload_1 hX dX12_refills_151 ?_
              refine R_iald hX dX12_refills_152 a_142 ⟨by omega, by omega⟩ ?_
              try simp (disch := omega) only [up_k, up_i, up_s]
              refine R_goto (tgt := 158) hX dX12_refills_153 (by decide) ?_
              refine R_iast hX dX12_refills_158 a_137 ⟨by omega, by omega⟩ ?_
              refine R_iinc_1 hX c1_r dX12_refills_159 ?_
              refine R_goto (tgt := 2) hX dX12_refills_162 (by decide) ?_
              refine R_drop_2 ?_
              refine R_drop_3 ?_
              refine R_drop_4 ?_
              refine R_drop_5 ?_
              exact ih_2 (x + 1) _ (by omega) (hfin _ _ _ (by omega) (by omega) (by omega)) (((iv2_2.up (by omega)).up (by omega)).up (by omega)) (by omega)
        · skip
          refine R_iload_2 hX dX12_refills_39 ?_
          refine R_aload_0 hX dX12_refills_40 ?_
          refine R_getq (v := 142) hX dX12_refills_41 fl_X12_34 o_136 rfl (by omega) ?_
          refine R_iload_1 hX dX12_refills_44 ?_
          refine R_iald hX dX12_refills_45 a_142 ⟨by omega, by omega⟩ ?_
          try simp (disch := omega) only [up_k, up_i, up_s]
          refine R_isub hX dX12_refills_46 ?_
          refine R_goto (tgt := 51) hX dX12_refills_47 (by decide) ?_
          refine R_istore_3 hX c1_i dX12_refills_51 ?_
          refine R_aload_0 hX dX12_refills_52 ?_
          refine R_getq (v := 137) hX dX12_refills_53 fl_X12_7 o_136 rfl (by omega) ?_
          refine R_iconst hX dX12_refills_56 ?_
          refine R_iload_1 hX dX12_refills_57 ?_
          refine R_iadd hX dX12_refills_58 ?_
          refine R_iload_2 hX dX12_refills_59 ?_
          refine R_iload_3 hX dX12_refills_60 ?_
          refine R_isub hX dX12_refills_61 ?_
          refine R_iast hX dX12_refills_62 a_137 ⟨by omega, by omega⟩ ?_
          refine R_aload_0 hX dX12_refills_63 ?_
          refine R_getq (v := 137) hX dX12_refills_64 fl_X12_7 o_136 rfl (by omega) ?_
          refine R_bipush hX dX12_refills_67 (by decide) ?_
          refine R_iload_1 hX dX12_refills_69 ?_
          refine R_iadd hX dX12_refills_70 ?_
          refine R_iald hX dX12_refills_71 a_137 ⟨by omega, by omega⟩ ?_
          try simp (disch := omega) only [up_k, up_i, up_s]
          refine R_iload_3 hX dX12_refills_72 ?_
          refine R_iadd hX dX12_refills_73 ?_
          refine R_istore_4 hX c1_i dX12_refills_74 ?_
          refine R_aload_0 hX dX12_refills_76 ?_
          refine R_getq (v := 137) hX dX12_refills_77 fl_X12_7 o_136 rfl (by omega) ?_
          refine R_bipush hX dX12_refills_80 (by decide) ?_
          refine R_iload_1 hX dX12_refills_82 ?_
          refine R_iadd hX dX12_refills_83 ?_
          refine R_iload_4 hX dX12_refills_84 ?_
          refine R_aload_0 hX dX12_refills_86 ?_
          refine R_getq (v := 143) hX dX12_refills_87 fl_X12_37 o_136 rfl (by omega) ?_
          refine R_iload_1 hX dX12_refills_90 ?_
          refine R_iald hX dX12_refills_91 a_143 ⟨by omega, by omega⟩ ?_
          try simp (disch := omega) only [up_k, up_i, up_s]
          refine R_icmple (tgt := 104) hX dX12_refills_92 (by decide) (by constructor <;> first | omega | (simp (disch := omega) only [up_k, up_i, up_s]; omega)) (by constructor <;> first | omega | (simp (disch := omega) only [up_k, up_i, up_s]; omega)) (fun c_92 => ?_) (fun c_92 => ?_)
          · skip
            refine R_iload_4 hX dX12_refills_104 ?_
            refine R_iast hX dX12_refills_106 a_137 ⟨by omega, by omega⟩ ?_
            refine R_aload_0 hX dX12_refills_107 ?_
            refine R_getq (v := 137) hX dX12_refills_108 fl_X12_7 o_136 rfl (by omega) ?_
            refine R_bipush hX dX12_refills_111 (by decide) ?_
            refine R_iload_1 hX dX12_refills_113 ?_
            refine R_iadd hX dX12_refills_114 ?_
            refine R_iald hX dX12_refills_115 a_137 ⟨by omega, by omega⟩ ?_
            try simp (disch := omega) only [up_k, up_i, up_s]
            refine R_aload_0 hX dX12_refills_116 ?_
            refine R_getq (v := 137) hX dX12_refills_117 fl_X12_7 o_136 rfl (by omega) ?_
            refine R_bipush hX dX12_refills_120 (by decide) ?_
            refine R_iload_1 hX dX12_refills_122 ?_
            refine R_iadd hX dX12_refills_123 ?_
            refine R_iald hX dX12_refills_124 a_137 ⟨by omega, by omega⟩ ?_
            try simp (disch := omega) only [up_k, up_i, up_s]
            refine R_iadd hX dX12_refills_125 ?_
            refine R_istore_5 hX c1_i dX12_refills_126 ?_
            refine R_aload_0 hX dX12_refills_128 ?_
            refine R_getq (v := 137) hX dX12_refills_129 fl_X12_7 o_136 rfl (by omega) ?_
            refine R_bipush hX dX12_refills_132 (by decide) ?_
            refine R_iload_1 hX dX12_refills_134 ?_
            refine R_iadd hX dX12_refills_135 ?_
            refine R_iload_5 hX dX12_refills_136 ?_
            refine R_aload_0 hX dX12_refills_138 ?_
            refine R_getq (v := 142) hX dX12_refills_139 fl_X12_34 o_136 rfl (by omega) ?_
            refine R_iload_1 hX dX12_refills_142 ?_
            refine R_iald hX dX12_refills_143 a_142 ⟨by omega, by omega⟩ ?_
            try simp (disch := omega) only [up_k, up_i, up_s]
            refine R_icmple (tgt := 156) hX dX12_refills_144 (by decide) (by constructor <;> first | omega | (simp (disch := omega) only [up_k, up_i, up_s]; omega)) (by constructor <;> first | omega | (simp (disch := omega) only [up_k, up_i, up_s]; omega)) (fun c_144 => ?_) (fun c_144 => ?_)
            · skip
              refine R_iload_5 hX dX12_refills_156 ?_
              refine R_iast hX dX12_refills_158 a_137 ⟨by omega, by omega⟩ ?_
              refine R_iinc_1 hX c1_r dX12_refills_159 ?_
              refine R_goto (tgt := 2) hX dX12_refills_162 (by decide) ?_
              refine R_drop_2 ?_
              refine R_drop_3 ?_
              refine R_drop_4 ?_
              refine R_drop_5 ?_
              exact ih_2 (x + 1) _ (by omega) (hfin _ _ _ (by omega) (by omega) (by omega)) (((iv2_2.up (by omega)).up (by omega)).up (by omega)) (by omega)
            · skip
              refine R_aload_0 hX dX12_refills_147 ?_
              refine R_getq (v := 142) hX dX12_refills_148 fl_X12_34 o_136 rfl (by omega) ?_
              refine R_iload_1 hX dX12_refills_151 ?_
              refine R_iald hX dX12_refills_152 a_142 ⟨by omega, by omega⟩ ?_
              try simp (disch := omega) only [up_k, up_i, up_s]
              refine R_goto (tgt := 158) hX dX12_refills_153 (by decide) ?_
              refine R_iast hX dX12_refills_158 a_137 ⟨by omega, by omega⟩ ?_
              refine R_iinc_1 hX c1_r dX12_refills_159 ?_
              refine R_goto (tgt := 2) hX dX12_refills_162 (by decide) ?_
              refine R_drop_2 ?_
              refine R_drop_3 ?_
              refine R_drop_4 ?_
              refine R_drop_5 ?_
              exact ih_2 (x + 1) _ (by omega) (hfin _ _ _ (by omega) (by omega) (by omega)) (((iv2_2.up (by omega)).up (by omega)).up (by omega)) (by omega)
          · skip
            refine R_aload_0 hX dX12_refills_95 ?_
            refine R_getq (v := 143) hX dX12_refills_96 fl_X12_37 o_136 rfl (by omega) ?_
            refine R_iload_1 hX dX12_refills_99 ?_
            refine R_iald hX dX12_refills_100 a_143 ⟨by omega, by omega⟩ ?_
            try simp (disch := omega) only [up_k, up_i, up_s]
            refine R_goto (tgt := 106) hX dX12_refills_101 (by decide) ?_
            refine R_iast hX dX12_refills_106 a_137 ⟨by omega, by omega⟩ ?_
            refine R_aload_0 hX dX12_refills_107 ?_
            refine R_getq (v := 137) hX dX12_refills_108 fl_X12_7 o_136 rfl (by omega) ?_
            refine R_bipush hX dX12_refills_111 (by decide) ?_
            refine R_iload_1 hX dX12_refills_113 ?_
            refine R_iadd hX dX12_refills_114 ?_
            refine R_iald hX dX12_refills_115 a_137 ⟨by omega, by omega⟩ ?_
            try simp (disch := omega) only [up_k, up_i, up_s]
            refine R_aload_0 hX dX12_refills_116 ?_
            refine R_getq (v := 137) hX dX12_refills_117 fl_X12_7 o_136 rfl (by omega) ?_
            refine R_bipush hX dX12_refills_120 (by decide) ?_
            refine R_iload_1 hX dX12_refills_122 ?_
            refine R_iadd hX dX12_refills_123 ?_
            refine R_iald hX dX12_refills_124 a_137 ⟨by omega, by omega⟩ ?_
            try simp (disch := omega) only [up_k, up_i, up_s]
            refine R_iadd hX dX12_refills_125 ?_
            refine R_istore_5 hX c1_i dX12_refills_126 ?_
            refine R_aload_0 hX dX12_refills_128 ?_
            refine R_getq (v := 137) hX dX12_refills_129 fl_X12_7 o_136 rfl (by omega) ?_
            refine R_bipush hX dX12_refills_132 (by decide) ?_
            refine R_iload_1 hX dX12_refills_134 ?_
            refine R_iadd hX dX12_refills_135 ?_
            refine R_iload_5 hX dX12_refills_136 ?_
            refine R_aload_0 hX dX12_refills_138 ?_
            refine R_getq (v := 142) hX dX12_refills_139 fl_X12_34 o_136 rfl (by omega) ?_
            refine R_iload_1 hX dX12_refills_142 ?_
            refine R_iald hX dX12_refills_143 a_142 ⟨by omega, by omega⟩ ?_
            try simp (disch := omega) only [up_k, up_i, up_s]
            refine R_icmple (tgt := 156) hX dX12_refills_144 (by decide) (by constructor <;> first | omega | (simp (disch := omega) only [up_k, up_i, up_s]; omega)) (by constructor <;> first | omega | (simp (disch := omega) only [up_k, up_i, up_s]; omega)) (fun c_144 => ?_) (fun c_144 => ?_)
            · skip
              refine R_iload_5 hX dX12_refills_156 ?_
              refine R_iast hX dX12_refills_158 a_137 ⟨by omega, by omega⟩ ?_
              refine R_iinc_1 hX c1_r dX12_refills_159 ?_
              refine R_goto (tgt := 2) hX dX12_refills_162 (by decide) ?_
              refine R_drop_2 ?_
              refine R_drop_3 ?_
              refine R_drop_4 ?_
              refine R_drop_5 ?_
              exact ih_2 (x + 1) _ (by omega) (hfin _ _ _ (by omega) (by omega) (by omega)) (((iv2_2.up (by omega)).up (by omega)).up (by omega)) (by omega)
            · skip
              refine R_aload_0 hX dX12_refills_147 ?_
              refine R_getq (v := 142) hX dX12_refills_148 fl_X12_34 o_136 rfl (by omega) ?_
              refine R_iload_1 hX dX12_refills_151 ?_
              refine R_iald hX dX12_refills_152 a_142 ⟨by omega, by omega⟩ ?_
              try simp (disch := omega) only [up_k, up_i, up_s]
              refine R_goto (tgt := 158) hX dX12_refills_153 (by decide) ?_
              refine R_iast hX dX12_refills_158 a_137 ⟨by omega, by omega⟩ ?_
              refine R_iinc_1 hX c1_r dX12_refills_159 ?_
              refine R_goto (tgt := 2) hX dX12_refills_162 (by decide) ?_
              refine R_drop_2 ?_
              refine R_drop_3 ?_
              refine R_drop_4 ?_
              refine R_drop_5 ?_
              exact ih_2 (x + 1) _ (by omega) (hfin _ _ _ (by omega) (by omega) (by omega)) (((iv2_2.up (by omega)).up (by omega)).up (by omega)) (by omega)
  exact lp_2 14 0 F (by omega) rfl Fr.rf (by omega)
set_option maxRecDepth 100000 in
set_option maxHeartbeats 4000000 in
theorem r_timedChanges {V : VX} {F : Hp} {K : Int} (h : RI K F)  : Ct V yX12_timedChanges cX12_timedChanges 2 none 1 20 0 0 SH [vr V 136] F SH 0 (fun r F' => vw 0 F' = chgS 1000 1100 (F 136 38).toNat (vw 0 F) ∧ Fr F F') := by
  refine Ct.of [some (vr V 136), none] (by decide) (by simp [lg_sl, vi_cat, vl_cat, vr_cat]) rfl (by simp [asc, lv_args, vi_cat, vl_cat, vr_cat]) (fun X hV hX => ?_)
  subst hV
  have hN := ri_N h
  have hT := ri_T h
  have hSS := ri_S h
  have hL := ri_L h
  have hC := ri_C h
  have hQ := (ri_Q h).1
  refine R_iconst hX dX12_timedChanges_0 ?_
  refine R_istore_1 hX c1_r dX12_timedChanges_1 ?_
  have lp_2 : ∀ (n : Nat) (x : Int) (G : Hp), (0 ≤ x ∧ x ≤ F 136 38) → (vw 0 G = chgS 1000 1100 x.toNat (vw 0 F)) → (Fr F G) → (13 - x).toNat < n → R X SH 0 0 2 [some (vr (xV X) 136), some (vi x)] [] G (Zq X SH 0 (fun r F' => vw 0 F' = chgS 1000 1100 (F 136 38).toNat (vw 0 F) ∧ Fr F F') 0 0) := by
    intro n
    induction n with
    | zero => intro x G iv2_0 iv2_1 iv2_2 hm; exact absurd hm (Nat.not_lt_zero _)
    | succ n ih_2 =>
      intro x G iv2_0 iv2_1 iv2_2 hm_2
      have g3 : G 136 38 = F 136 38 := by rw [iv2_2.1 136 (by decide)]
      have g5 : ∀ i : Int, G 150 i = F 150 i := fun i => by rw [iv2_2.1 150 (by decide)]
      have g6 : ∀ i : Int, G 151 i = F 151 i := fun i => by rw [iv2_2.1 151 (by decide)]
      have g7 : ∀ i : Int, G 152 i = F 152 i := fun i => by rw [iv2_2.1 152 (by decide)]
      have g8 : ∀ i : Int, G 153 i = F 153 i := fun i => by rw [iv2_2.1 153 (by decide)]
      have g0 : G 137 0 = F 137 0 := by have := congrFun (congrFun iv2_1 1000) 1; rw [chgS_r (by omega)] at this; exact this
      refine R_iload_1 hX dX12_timedChanges_2 ?_
      refine R_aload_0 hX dX12_timedChanges_3 ?_
      refine R_geti hX dX12_timedChanges_4 fl_X12_208 o_136 rfl ?_
      refine R_icmpge (tgt := 58) hX dX12_timedChanges_7 (by decide) ⟨by omega, by omega⟩ ⟨by omega, by omega⟩ (fun c_7 => ?_) (fun c_7 => ?_)
      · skip
        exact R_vret hX dX12_timedChanges_58 ⟨(show F 136 38 = x by omega) ▸ iv2_1, iv2_2⟩
      · skip
        have hc := hC x (by omega) (by omega)
        have hfin : chgS 1000 1100 (x + 1).toNat (vw 0 F) = if F 150 x = G 137 0 then vw 0 (up G 137 (87 + 12 * plc (F 152 x) + F 151 x) (F 153 x)) else vw 0 G := by rw [chgS_s (by omega), ← iv2_1]; exact ch1v iv2_2 (by omega)
        refine R_aload_0 hX dX12_timedChanges_10 ?_
        refine R_getq (v := 150) hX dX12_timedChanges_11 fl_X12_61 o_136 rfl (by omega) ?_
        refine R_iload_1 hX dX12_timedChanges_14 ?_
        refine R_iald hX dX12_timedChanges_15 a_150 ⟨by omega, by omega⟩ ?_
        rw [g5]
        refine R_aload_0 hX dX12_timedChanges_16 ?_
        refine R_getq (v := 137) hX dX12_timedChanges_17 fl_X12_7 o_136 rfl (by omega) ?_
        refine R_iconst hX dX12_timedChanges_20 ?_
        refine R_iald hX dX12_timedChanges_21 a_137 ⟨by omega, by omega⟩ ?_
        refine R_icmpne (tgt := 52) hX dX12_timedChanges_22 (by decide) ⟨by omega, by omega⟩ ⟨by omega, by omega⟩ (fun c_22 => ?_) (fun c_22 => ?_)
        · skip
          refine R_iinc_1 hX c1_r dX12_timedChanges_52 ?_
          refine R_goto (tgt := 2) hX dX12_timedChanges_55 (by decide) ?_
          exact ih_2 (x + 1) _ (by omega) (by rw [hfin]; first | (rw [if_neg c_22]) | (rw [if_pos (by omega)])) (by first | exact iv2_2.up (by omega) | exact iv2_2) (by omega)
        · skip
          have c_22q : F 150 x = G 137 0 := by omega
          have hp : plc (F 152 x) = 1 ∨ plc (F 152 x) = 2 ∨ plc (F 152 x) = 3 := by unfold plc; split; (left; rfl); (split; (right; left; rfl); (right; right; rfl))
          refine R_aload_0 hX dX12_timedChanges_25 ?_
          refine R_getq (v := 137) hX dX12_timedChanges_26 fl_X12_7 o_136 rfl (by omega) ?_
          refine R_aload_0 hX dX12_timedChanges_29 ?_
          refine R_getq (v := 152) hX dX12_timedChanges_30 fl_X12_67 o_136 rfl (by omega) ?_
          refine R_iload_1 hX dX12_timedChanges_33 ?_
          refine R_iald hX dX12_timedChanges_34 a_152 ⟨by omega, by omega⟩ ?_
          rw [g7]
          refine R_s1i hX dX12_timedChanges_35 li_X12_211 mk_X12_placeOf ms_X12_placeOf (r_placeOf (by constructor <;> omega)) ⟨⟨by decide, by decide⟩, by decide, by decide, rfl, Nat.le_of_ble_eq_true rfl, rfl⟩ (fun x_35 F_35 h_35 => ?_)
          obtain ⟨h_35, e_35⟩ := h_35; replace e_35 := e_35.symm; subst e_35
          rw [h_35]
          refine R_aload_0 hX dX12_timedChanges_38 ?_
          refine R_getq (v := 151) hX dX12_timedChanges_39 fl_X12_64 o_136 rfl (by omega) ?_
          refine R_iload_1 hX dX12_timedChanges_42 ?_
          refine R_iald hX dX12_timedChanges_43 a_151 ⟨by omega, by omega⟩ ?_
          rw [g6]
          refine R_iadd hX dX12_timedChanges_44 ?_
          refine R_aload_0 hX dX12_timedChanges_45 ?_
          refine R_getq (v := 153) hX dX12_timedChanges_46 fl_X12_70 o_136 rfl (by omega) ?_
          refine R_iload_1 hX dX12_timedChanges_49 ?_
          refine R_iald hX dX12_timedChanges_50 a_153 ⟨by omega, by omega⟩ ?_
          rw [g8]
          refine R_iast hX dX12_timedChanges_51 a_137 ⟨by omega, by omega⟩ ?_
          refine R_iinc_1 hX c1_r dX12_timedChanges_52 ?_
          refine R_goto (tgt := 2) hX dX12_timedChanges_55 (by decide) ?_
          exact ih_2 (x + 1) _ (by omega) (by rw [hfin]; first | (rw [if_neg c_22]) | (rw [if_pos (by omega)])) (by first | exact iv2_2.up (by omega) | exact iv2_2) (by omega)
  exact lp_2 14 0 F (by omega) rfl Fr.rf (by omega)
