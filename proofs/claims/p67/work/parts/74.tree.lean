set_option maxRecDepth 100000 in
set_option maxHeartbeats 4000000 in
theorem e_text {V : VX} {T : Shp} {F : Hp} {t : Int} (hS : TrS T t) (hV : TrV F t) (htb : t + 19 < 136 + T.length) : CtE V yX12_text cX12_text 3 (some (.object "java/lang/String")) 6 171 160 300000 (SH T) [vr V t] F 3 (fun r s F' => ∃ g, s = SH (T ++ g) ∧ (St (T ++ g) F' r (txL F t) ∧ ∀ q : Int, q < 136 + T.length → F' q = F q)) := by
  refine CtE.of [some (vr V t), none, none] (by decide) (by simp [lg_sl, vi_cat, vl_cat, vr_cat, rf_cat]) rfl (by simp [asc, lv_args, vi_cat, vl_cat, vr_cat, rf_cat]) (fun X hV hX => ?_)
  subst hV
  have hp := hS.p
  have hn := hV.n
  have htm := hV.tm
  have hlm := hV.2.1
  have hag := hV.2.2.1
  refine R_newT hX cf_14 cl_X12_146 is_J4 in_java_lang_StringBuilder (by decide) ⟨by omega, by omega⟩ dX12_text_0 (fun n_0 hn_0 => ?_)
  refine R_dup hX c1_r dX12_text_3 ?_
  refine R_callIE (As := []) hX dX12_text_4 li_X12_148 mk_J4_init_da8c8 mc_J4_init_da8c8 (isO.newT hn_0) (e_init4 (isO.newT hn_0) (by rw [row_sb]; rfl) (Int.le_refl n_0)) ⟨⟨by decide, by decide⟩, by omega, by omega, rfl, rfl, (by simp [vi_cat, vl_cat, vr_cat, rf_cat])⟩ (fun x_4 s_4 F_4 d_4 h_4 hl_4 hd_4 => ?_)
  obtain ⟨g_4, rfl, h_4⟩ := h_4
  obtain ⟨hB, hq_4⟩ := h_4
  obtain ⟨b, hbn⟩ : ∃ b, b = n_0 := ⟨_, rfl⟩
  rw [← hbn] at hB hq_4 ⊢
  have hbl : b = 136 + T.length := by omega
  have hK : ∀ q : Int, q < b → F_4 q = F q := fun q h => by rw [hq_4 q (by omega) (by rw [List.length_append]; omega), row_r (by omega)]
  clear hbn hn_0 hl_4
  refine R_astore_1 hX c1_r dX12_text_7 ?_
  refine R_iconst hX dX12_text_8 ?_
  refine R_istore_2 hX c1_r dX12_text_9 ?_
  have lp_10 : ∀ (n : Nat) (T1 : Shp) (F1 : Hp) (c : Nat) (w : Nat) (k : Int), (∃ g, T1 = T ++ g) → (TrS T1 t) → (Bd T1 F1 b (nodesL F t k.toNat) b) → (∀ q : Int, q < b → F1 q = F q) → (((nodesL F t k.toNat).length : Int) ≤ 120 * k) → ((c : Int) ≤ 2 + 20 * k) → ((w : Int) ≤ 2100 + 40960 * k) → (0 ≤ k ∧ k ≤ F t 0) → (7 - k).toNat < n → R X (SH T1) c w 10 [some (vr (xV X) t), some (vr (xV X) b), some (vi k)] [] F1 (ZE X 3 (fun r s F' => ∃ g, s = SH (T ++ g) ∧ (St (T ++ g) F' r (txL F t) ∧ ∀ q : Int, q < 136 + T.length → F' q = F q)) 160 300000) := by
    intro n
    induction n with
    | zero => intro T1 F1 c w k iv10_0 iv10_1 iv10_2 iv10_3 iv10_4 iv10_5 iv10_6 iv10_7 hm; exact absurd hm (Nat.not_lt_zero _)
    | succ n ih_10 =>
      intro T1 F1 c w k iv10_0 iv10_1 iv10_2 iv10_3 iv10_4 iv10_5 iv10_6 iv10_7 hm_10
      have hg := iv10_0
      have hS := iv10_1
      have hB := iv10_2
      have hK := iv10_3
      have hN := iv10_4
      have hcc := iv10_5
      have hww := iv10_6
      refine R_iload_2 hX dX12_text_10 ?_
      refine R_aload_0 hX dX12_text_11 ?_
      refine R_geti hX dX12_text_12 fl_X12_72 hS.o rfl ?_
      try simp (disch := omega) only [hK]
      refine R_icmpge (tgt := 170) hX dX12_text_15 (by decide) (by constructor <;> first | omega | (simp (disch := omega) only [hK]; omega)) (by constructor <;> first | omega | (simp (disch := omega) only [hK]; omega)) (fun c_15 => ?_) (fun c_15 => ?_)
      · skip
        have jn_273 : ∀ (T1 : Shp) (F1 : Hp) (c : Nat) (w : Nat), (∃ g, T1 = T ++ g) → (TrS T1 t) → (Bd T1 F1 b (txL F t) b) → (∀ q : Int, q < b → F1 q = F q) → (((txL F t).length : Int) ≤ 820) → ((c : Int) ≤ 122 + 20) → ((w : Int) ≤ 2100 + 245760 + 40960) → R X (SH T1) c w 273 [some (vr (xV X) t), some (vr (xV X) b), none] [] F1 (ZE X 3 (fun r s F' => ∃ g, s = SH (T ++ g) ∧ (St (T ++ g) F' r (txL F t) ∧ ∀ q : Int, q < 136 + T.length → F' q = F q)) 160 300000) := by
          intro T1 F1 c w jv273_0 jv273_1 jv273_2 jv273_3 jv273_4 jv273_5 jv273_6
          have hg := jv273_0
          have hS := jv273_1
          have hB := jv273_2
          have hK := jv273_3
          have hN := jv273_4
          have hcc := jv273_5
          have hww := jv273_6
          refine R_aload_1 hX dX12_text_273 ?_
          refine R_callVE (As := []) hX dX12_text_274 li_X12_187 mk_J4_toString_0e30d mi_J4_toString_0e30d rfl hB.1 (e_toStr hB (by omega)) ⟨⟨by decide, by decide⟩, by omega, by omega, rfl, rfl, (by first | decide | exact Nat.zero_le _)⟩ (fun x_274 s_274 F_274 d_274 h_274 hl_274 hd_274 => ?_)
          obtain ⟨g_274, rfl, h_274⟩ := h_274
          exact R_aretE hX (Or.inl ⟨_, rfl⟩) dX12_text_277 ⟨by omega, by omega⟩ (by obtain ⟨g, hg⟩ := hg; obtain ⟨h1, h2⟩ := h_274; exact ⟨_, (by rw [hg]; simp only [List.append_assoc]; try rfl), by simpa only [hg, List.append_assoc] using h1, fun q h => by rw [h2 q (by rw [hg, List.length_append]; omega), hK q (by omega)]⟩)
        have jn_215 : ∀ (T1 : Shp) (F1 : Hp) (c : Nat) (w : Nat), (∃ g, T1 = T ++ g) → (TrS T1 t) → (Bd T1 F1 b (nodesL F t (F t 0).toNat ++ stl 23 ++ decS (F t 1) ++ stl 22 ++ ageL F t) b) → (∀ q : Int, q < b → F1 q = F q) → (((nodesL F t (F t 0).toNat ++ stl 23 ++ decS (F t 1) ++ stl 22 ++ ageL F t).length : Int) ≤ 770) → ((c : Int) ≤ 122 + 10) → ((w : Int) ≤ 2100 + 245760 + 20480) → R X (SH T1) c w 215 [some (vr (xV X) t), some (vr (xV X) b), none] [] F1 (ZE X 3 (fun r s F' => ∃ g, s = SH (T ++ g) ∧ (St (T ++ g) F' r (txL F t) ∧ ∀ q : Int, q < 136 + T.length → F' q = F q)) 160 300000) := by
          intro T1 F1 c w jv215_0 jv215_1 jv215_2 jv215_3 jv215_4 jv215_5 jv215_6
          have hg := jv215_0
          have hS := jv215_1
          have hB := jv215_2
          have hK := jv215_3
          have hN := jv215_4
          have hcc := jv215_5
          have hww := jv215_6
          refine R_aload_0 hX dX12_text_215 ?_
          refine R_geti hX dX12_text_216 fl_X12_82 hS.o rfl ?_
          try simp (disch := omega) only [hK]
          refine R_aload_0 hX dX12_text_219 ?_
          refine R_geti hX dX12_text_220 fl_X12_123 hS.o rfl ?_
          try simp (disch := omega) only [hK]
          refine R_icmple (tgt := 273) hX dX12_text_223 (by decide) (by constructor <;> first | omega | (simp (disch := omega) only [hK]; omega)) (by constructor <;> first | omega | (simp (disch := omega) only [hK]; omega)) (fun c_223 => ?_) (fun c_223 => ?_)
          · skip
            exact jn_273 _ _ _ _ (by obtain ⟨g, hg⟩ := hg; first | exact ⟨g, hg⟩ | exact ⟨_, by rw [hg]; simp only [List.append_assoc]; try rfl⟩) hS (by unfold txL atL; rw [if_pos c_223]; rw [List.append_nil]; exact hB) hK (by unfold txL atL; rw [if_pos c_223]; rw [List.append_nil]; omega) (by omega) (by omega)
          · skip
            refine R_aload_1 hX dX12_text_226 ?_
            refine R_ldcS hX (hX.2.2.2.2.2.2.1.2.2.2.2.2.2.2.1 25 (by decide)) dX12_text_227 ?_
            refine R_callVE (As := [.ref ((vG (xV X)).2.1 25)]) hX dX12_text_229 li_X12_151 mk_J4_append_15ec4 mi_J4_append_15ec4 rfl hB.1 (e_appS hB (i := 25) (by decide) (lnS hN (by omega) (by decide))) ⟨⟨by decide, by decide⟩, by omega, by omega, rfl, rfl, (by first | decide | exact Nat.zero_le _)⟩ (fun x_229 s_229 F_229 d_229 h_229 hl_229 hd_229 => ?_)
            obtain ⟨g_229, rfl, h_229⟩ := h_229
            obtain ⟨hx_229, hb_229, hq_229⟩ := h_229
            replace hx_229 := hx_229.symm
            subst hx_229
            replace hK : ∀ q : Int, q < b → F_229 q = F q := fun q h => (hq_229 q h).trans (hK q h)
            replace hB := hb_229
            replace hN := lnA hN (show ((stl 25).length : Int) ≤ 10 by decide)
            clear hb_229 hq_229 hl_229
            refine R_aload_0 hX dX12_text_232 ?_
            refine R_geti hX dX12_text_233 fl_X12_82 (hS.o.up) rfl ?_
            try simp (disch := omega) only [hK]
            refine R_callVE (As := [_]) hX dX12_text_236 li_X12_162 mk_J4_append_bf812 mi_J4_append_bf812 rfl hB.1 (e_appI hB ⟨by omega, by omega⟩ (by omega)) ⟨⟨by decide, by decide⟩, by omega, by omega, rfl, rfl, (by first | decide | exact Nat.zero_le _)⟩ (fun x_236 s_236 F_236 d_236 h_236 hl_236 hd_236 => ?_)
            obtain ⟨g_236, rfl, h_236⟩ := h_236
            obtain ⟨hx_236, hb_236, hq_236⟩ := h_236
            replace hx_236 := hx_236.symm
            subst hx_236
            replace hK : ∀ q : Int, q < b → F_236 q = F q := fun q h => (hq_236 q h).trans (hK q h)
            replace hB := hb_236
            replace hN := lnA hN (decS_2 (x := F t 22))
            clear hb_236 hq_236 hl_236
            refine R_ldcS hX (hX.2.2.2.2.2.2.1.2.2.2.2.2.2.2.1 26 (by decide)) dX12_text_239 ?_
            refine R_callVE (As := [.ref ((vG (xV X)).2.1 26)]) hX dX12_text_241 li_X12_151 mk_J4_append_15ec4 mi_J4_append_15ec4 rfl hB.1 (e_appS hB (i := 26) (by decide) (lnS hN (by omega) (by decide))) ⟨⟨by decide, by decide⟩, by omega, by omega, rfl, rfl, (by first | decide | exact Nat.zero_le _)⟩ (fun x_241 s_241 F_241 d_241 h_241 hl_241 hd_241 => ?_)
            obtain ⟨g_241, rfl, h_241⟩ := h_241
            obtain ⟨hx_241, hb_241, hq_241⟩ := h_241
            replace hx_241 := hx_241.symm
            subst hx_241
            replace hK : ∀ q : Int, q < b → F_241 q = F q := fun q h => (hq_241 q h).trans (hK q h)
            replace hB := hb_241
            replace hN := lnA hN (show ((stl 26).length : Int) ≤ 10 by decide)
            clear hb_241 hq_241 hl_241
            refine R_bipush hX dX12_text_244 (by decide) ?_
            refine R_aload_0 hX dX12_text_246 ?_
            refine R_geti hX dX12_text_247 fl_X12_85 (hS.o.up.up.up) rfl ?_
            try simp (disch := omega) only [hK]
            refine R_iadd hX dX12_text_250 ?_
            refine R_i2c hX (by omega) dX12_text_251 ?_
            refine R_callVE (As := [_]) hX dX12_text_252 li_X12_155 mk_J4_append_cf468 mi_J4_append_cf468 rfl hB.1 (e_appC hB ⟨by omega, by omega⟩ (by omega)) ⟨⟨by decide, by decide⟩, by omega, by omega, rfl, rfl, (by first | decide | exact Nat.zero_le _)⟩ (fun x_252 s_252 F_252 d_252 h_252 hl_252 hd_252 => ?_)
            obtain ⟨g_252, rfl, h_252⟩ := h_252
            obtain ⟨hx_252, hb_252, hq_252⟩ := h_252
            replace hx_252 := hx_252.symm
            subst hx_252
            replace hK : ∀ q : Int, q < b → F_252 q = F q := fun q h => (hq_252 q h).trans (hK q h)
            replace hB := hb_252
            replace hN := lnA hN (show (([112 + F t 23] : List Int).length : Int) ≤ 1 from Int.le_refl 1)
            clear hb_252 hq_252 hl_252
            refine R_ldcS hX (hX.2.2.2.2.2.2.1.2.2.2.2.2.2.2.1 15 (by decide)) dX12_text_255 ?_
            refine R_callVE (As := [.ref ((vG (xV X)).2.1 15)]) hX dX12_text_257 li_X12_151 mk_J4_append_15ec4 mi_J4_append_15ec4 rfl hB.1 (e_appS hB (i := 15) (by decide) (lnS hN (by omega) (by decide))) ⟨⟨by decide, by decide⟩, by omega, by omega, rfl, rfl, (by first | decide | exact Nat.zero_le _)⟩ (fun x_257 s_257 F_257 d_257 h_257 hl_257 hd_257 => ?_)
            obtain ⟨g_257, rfl, h_257⟩ := h_257
            obtain ⟨hx_257, hb_257, hq_257⟩ := h_257
            replace hx_257 := hx_257.symm
            subst hx_257
            replace hK : ∀ q : Int, q < b → F_257 q = F q := fun q h => (hq_257 q h).trans (hK q h)
            replace hB := hb_257
            replace hN := lnA hN (show ((stl 15).length : Int) ≤ 10 by decide)
            clear hb_257 hq_257 hl_257
            refine R_aload_0 hX dX12_text_260 ?_
            refine R_geti hX dX12_text_261 fl_X12_88 (hS.o.up.up.up.up.up) rfl ?_
            try simp (disch := omega) only [hK]
            refine R_callVE (As := [_]) hX dX12_text_264 li_X12_162 mk_J4_append_bf812 mi_J4_append_bf812 rfl hB.1 (e_appI hB ⟨by omega, by omega⟩ (by omega)) ⟨⟨by decide, by decide⟩, by omega, by omega, rfl, rfl, (by first | decide | exact Nat.zero_le _)⟩ (fun x_264 s_264 F_264 d_264 h_264 hl_264 hd_264 => ?_)
            obtain ⟨g_264, rfl, h_264⟩ := h_264
            obtain ⟨hx_264, hb_264, hq_264⟩ := h_264
            replace hx_264 := hx_264.symm
            subst hx_264
            replace hK : ∀ q : Int, q < b → F_264 q = F q := fun q h => (hq_264 q h).trans (hK q h)
            replace hB := hb_264
            replace hN := lnA hN (decS_2 (x := F t 24))
            clear hb_264 hq_264 hl_264
            refine R_ldcS hX (hX.2.2.2.2.2.2.1.2.2.2.2.2.2.2.1 22 (by decide)) dX12_text_267 ?_
            refine R_callVE (As := [.ref ((vG (xV X)).2.1 22)]) hX dX12_text_269 li_X12_151 mk_J4_append_15ec4 mi_J4_append_15ec4 rfl hB.1 (e_appS hB (i := 22) (by decide) (lnS hN (by omega) (by decide))) ⟨⟨by decide, by decide⟩, by omega, by omega, rfl, rfl, (by first | decide | exact Nat.zero_le _)⟩ (fun x_269 s_269 F_269 d_269 h_269 hl_269 hd_269 => ?_)
            obtain ⟨g_269, rfl, h_269⟩ := h_269
            obtain ⟨hx_269, hb_269, hq_269⟩ := h_269
            replace hx_269 := hx_269.symm
            subst hx_269
            replace hK : ∀ q : Int, q < b → F_269 q = F q := fun q h => (hq_269 q h).trans (hK q h)
            replace hB := hb_269
            replace hN := lnA hN (show ((stl 22).length : Int) ≤ 10 by decide)
            clear hb_269 hq_269 hl_269
            refine R_pop hX c1_r dX12_text_272 ?_
            exact jn_273 _ _ _ _ (by obtain ⟨g, hg⟩ := hg; first | exact ⟨g, hg⟩ | exact ⟨_, by rw [hg]; simp only [List.append_assoc]; try rfl⟩) hS.up.up.up.up.up.up.up (by unfold txL atL; rw [if_neg c_223]; simpa only [List.append_assoc] using hB) hK (by unfold txL atL; rw [if_neg c_223]; have hN2 := hN; simp only [List.append_assoc] at hN2 ⊢; omega) (by omega) (by omega)
        have hkn : k = F t 0 := by omega
        rw [hkn] at hB hN hcc hww
        refine R_aload_1 hX dX12_text_170 ?_
        refine R_ldcS hX (hX.2.2.2.2.2.2.1.2.2.2.2.2.2.2.1 23 (by decide)) dX12_text_171 ?_
        refine R_callVE (As := [.ref ((vG (xV X)).2.1 23)]) hX dX12_text_173 li_X12_151 mk_J4_append_15ec4 mi_J4_append_15ec4 rfl hB.1 (e_appS hB (i := 23) (by decide) (lnS hN (by omega) (by decide))) ⟨⟨by decide, by decide⟩, by omega, by omega, rfl, rfl, (by first | decide | exact Nat.zero_le _)⟩ (fun x_173 s_173 F_173 d_173 h_173 hl_173 hd_173 => ?_)
        obtain ⟨g_173, rfl, h_173⟩ := h_173
        obtain ⟨hx_173, hb_173, hq_173⟩ := h_173
        replace hx_173 := hx_173.symm
        subst hx_173
        replace hK : ∀ q : Int, q < b → F_173 q = F q := fun q h => (hq_173 q h).trans (hK q h)
        replace hB := hb_173
        replace hN := lnA hN (show ((stl 23).length : Int) ≤ 10 by decide)
        clear hb_173 hq_173 hl_173
        refine R_aload_0 hX dX12_text_176 ?_
        refine R_geti hX dX12_text_177 fl_X12_76 (hS.o.up) rfl ?_
        try simp (disch := omega) only [hK]
        refine R_callVE (As := [_]) hX dX12_text_180 li_X12_162 mk_J4_append_bf812 mi_J4_append_bf812 rfl hB.1 (e_appI hB ⟨by omega, by omega⟩ (by omega)) ⟨⟨by decide, by decide⟩, by omega, by omega, rfl, rfl, (by first | decide | exact Nat.zero_le _)⟩ (fun x_180 s_180 F_180 d_180 h_180 hl_180 hd_180 => ?_)
        obtain ⟨g_180, rfl, h_180⟩ := h_180
        obtain ⟨hx_180, hb_180, hq_180⟩ := h_180
        replace hx_180 := hx_180.symm
        subst hx_180
        replace hK : ∀ q : Int, q < b → F_180 q = F q := fun q h => (hq_180 q h).trans (hK q h)
        replace hB := hb_180
        replace hN := lnA hN (decS_2 (x := F t 1))
        clear hb_180 hq_180 hl_180
        refine R_ldcS hX (hX.2.2.2.2.2.2.1.2.2.2.2.2.2.2.1 22 (by decide)) dX12_text_183 ?_
        refine R_callVE (As := [.ref ((vG (xV X)).2.1 22)]) hX dX12_text_185 li_X12_151 mk_J4_append_15ec4 mi_J4_append_15ec4 rfl hB.1 (e_appS hB (i := 22) (by decide) (lnS hN (by omega) (by decide))) ⟨⟨by decide, by decide⟩, by omega, by omega, rfl, rfl, (by first | decide | exact Nat.zero_le _)⟩ (fun x_185 s_185 F_185 d_185 h_185 hl_185 hd_185 => ?_)
        obtain ⟨g_185, rfl, h_185⟩ := h_185
        obtain ⟨hx_185, hb_185, hq_185⟩ := h_185
        replace hx_185 := hx_185.symm
        subst hx_185
        replace hK : ∀ q : Int, q < b → F_185 q = F q := fun q h => (hq_185 q h).trans (hK q h)
        replace hB := hb_185
        replace hN := lnA hN (show ((stl 22).length : Int) ≤ 10 by decide)
        clear hb_185 hq_185 hl_185
        refine R_pop hX c1_r dX12_text_188 ?_
        refine R_aload_0 hX dX12_text_189 ?_
        refine R_geti hX dX12_text_190 fl_X12_79 (hS.o.up.up.up) rfl ?_
        try simp (disch := omega) only [hK]
        refine R_iflt (tgt := 215) hX dX12_text_193 (by decide) (by constructor <;> first | omega | (simp (disch := omega) only [hK]; omega)) (fun c_193 => ?_) (fun c_193 => ?_)
        · skip
          refine R_drop_2 ?_
          exact jn_215 _ _ _ _ (by obtain ⟨g, hg⟩ := hg; first | exact ⟨g, hg⟩ | exact ⟨_, by rw [hg]; simp only [List.append_assoc]; try rfl⟩) hS.up.up.up (by unfold ageL; rw [if_pos c_193]; rw [List.append_nil]; exact hB) hK (by unfold ageL; rw [if_pos c_193]; rw [List.append_nil]; omega) (by omega) (by omega)
        · skip
          refine R_aload_1 hX dX12_text_196 ?_
          refine R_ldcS hX (hX.2.2.2.2.2.2.1.2.2.2.2.2.2.2.1 24 (by decide)) dX12_text_197 ?_
          refine R_callVE (As := [.ref ((vG (xV X)).2.1 24)]) hX dX12_text_199 li_X12_151 mk_J4_append_15ec4 mi_J4_append_15ec4 rfl hB.1 (e_appS hB (i := 24) (by decide) (lnS hN (by omega) (by decide))) ⟨⟨by decide, by decide⟩, by omega, by omega, rfl, rfl, (by first | decide | exact Nat.zero_le _)⟩ (fun x_199 s_199 F_199 d_199 h_199 hl_199 hd_199 => ?_)
          obtain ⟨g_199, rfl, h_199⟩ := h_199
          obtain ⟨hx_199, hb_199, hq_199⟩ := h_199
          replace hx_199 := hx_199.symm
          subst hx_199
          replace hK : ∀ q : Int, q < b → F_199 q = F q := fun q h => (hq_199 q h).trans (hK q h)
          replace hB := hb_199
          replace hN := lnA hN (show ((stl 24).length : Int) ≤ 10 by decide)
          clear hb_199 hq_199 hl_199
          refine R_aload_0 hX dX12_text_202 ?_
          refine R_geti hX dX12_text_203 fl_X12_79 (hS.o.up.up.up.up) rfl ?_
          try simp (disch := omega) only [hK]
          refine R_callVE (As := [_]) hX dX12_text_206 li_X12_162 mk_J4_append_bf812 mi_J4_append_bf812 rfl hB.1 (e_appI hB ⟨by omega, by omega⟩ (by omega)) ⟨⟨by decide, by decide⟩, by omega, by omega, rfl, rfl, (by first | decide | exact Nat.zero_le _)⟩ (fun x_206 s_206 F_206 d_206 h_206 hl_206 hd_206 => ?_)
          obtain ⟨g_206, rfl, h_206⟩ := h_206
          obtain ⟨hx_206, hb_206, hq_206⟩ := h_206
          replace hx_206 := hx_206.symm
          subst hx_206
          replace hK : ∀ q : Int, q < b → F_206 q = F q := fun q h => (hq_206 q h).trans (hK q h)
          replace hB := hb_206
          replace hN := lnA hN (decS_2 (x := F t 2))
          clear hb_206 hq_206 hl_206
          refine R_ldcS hX (hX.2.2.2.2.2.2.1.2.2.2.2.2.2.2.1 22 (by decide)) dX12_text_209 ?_
          refine R_callVE (As := [.ref ((vG (xV X)).2.1 22)]) hX dX12_text_211 li_X12_151 mk_J4_append_15ec4 mi_J4_append_15ec4 rfl hB.1 (e_appS hB (i := 22) (by decide) (lnS hN (by omega) (by decide))) ⟨⟨by decide, by decide⟩, by omega, by omega, rfl, rfl, (by first | decide | exact Nat.zero_le _)⟩ (fun x_211 s_211 F_211 d_211 h_211 hl_211 hd_211 => ?_)
          obtain ⟨g_211, rfl, h_211⟩ := h_211
          obtain ⟨hx_211, hb_211, hq_211⟩ := h_211
          replace hx_211 := hx_211.symm
          subst hx_211
          replace hK : ∀ q : Int, q < b → F_211 q = F q := fun q h => (hq_211 q h).trans (hK q h)
          replace hB := hb_211
          replace hN := lnA hN (show ((stl 22).length : Int) ≤ 10 by decide)
          clear hb_211 hq_211 hl_211
          refine R_pop hX c1_r dX12_text_214 ?_
          refine R_drop_2 ?_
          exact jn_215 _ _ _ _ (by obtain ⟨g, hg⟩ := hg; first | exact ⟨g, hg⟩ | exact ⟨_, by rw [hg]; simp only [List.append_assoc]; try rfl⟩) hS.up.up.up.up.up.up (by unfold ageL; rw [if_neg c_193]; simpa only [List.append_assoc] using hB) hK (by unfold ageL; rw [if_neg c_193]; have hN2 := hN; simp only [List.append_assoc] at hN2 ⊢; omega) (by omega) (by omega)
      · skip
        have jn_57 : ∀ (T1 : Shp) (F1 : Hp) (c : Nat) (w : Nat), (∃ g, T1 = T ++ g) → (TrS T1 t) → (Bd T1 F1 b (nodesL F t k.toNat ++ hdL F t k) b) → (∀ q : Int, q < b → F1 q = F q) → (((nodesL F t k.toNat ++ hdL F t k).length : Int) ≤ 120 * k + 30) → ((c : Int) ≤ 2 + 20 * k + 4) → ((w : Int) ≤ 2100 + 40960 * k + 8192) → R X (SH T1) c w 57 [some (vr (xV X) t), some (vr (xV X) b), some (vi k)] [] F1 (ZE X 3 (fun r s F' => ∃ g, s = SH (T ++ g) ∧ (St (T ++ g) F' r (txL F t) ∧ ∀ q : Int, q < 136 + T.length → F' q = F q)) 160 300000) := by
          intro T1 F1 c w jv57_0 jv57_1 jv57_2 jv57_3 jv57_4 jv57_5 jv57_6
          have hg := jv57_0
          have hS := jv57_1
          have hB := jv57_2
          have hK := jv57_3
          have hN := jv57_4
          have hcc := jv57_5
          have hww := jv57_6
          have hst := hV.st k (by omega) (by omega)
          refine R_aload_1 hX dX12_text_57 ?_
          refine R_ldcS hX (hX.2.2.2.2.2.2.1.2.2.2.2.2.2.2.1 15 (by decide)) dX12_text_58 ?_
          refine R_callVE (As := [.ref ((vG (xV X)).2.1 15)]) hX dX12_text_60 li_X12_151 mk_J4_append_15ec4 mi_J4_append_15ec4 rfl hB.1 (e_appS hB (i := 15) (by decide) (lnS hN (by omega) (by decide))) ⟨⟨by decide, by decide⟩, by omega, by omega, rfl, rfl, (by first | decide | exact Nat.zero_le _)⟩ (fun x_60 s_60 F_60 d_60 h_60 hl_60 hd_60 => ?_)
          obtain ⟨g_60, rfl, h_60⟩ := h_60
          obtain ⟨hx_60, hb_60, hq_60⟩ := h_60
          replace hx_60 := hx_60.symm
          subst hx_60
          replace hK : ∀ q : Int, q < b → F_60 q = F q := fun q h => (hq_60 q h).trans (hK q h)
          replace hB := hb_60
          replace hN := lnA hN (show ((stl 15).length : Int) ≤ 10 by decide)
          clear hb_60 hq_60 hl_60
          refine R_aload_0 hX dX12_text_63 ?_
          refine R_getq (v := t + 2) hX dX12_text_64 fl_X12_13 (hS.o.up) rfl (by omega) ?_
          refine R_iload_2 hX dX12_text_67 ?_
          refine R_iald hX dX12_text_68 (hS.a2.up) ⟨by omega, by omega⟩ ?_
          try simp (disch := omega) only [hK]
          refine R_callVE (As := [_]) hX dX12_text_69 li_X12_162 mk_J4_append_bf812 mi_J4_append_bf812 rfl hB.1 (e_appI hB ⟨by omega, by omega⟩ (by omega)) ⟨⟨by decide, by decide⟩, by omega, by omega, rfl, rfl, (by first | decide | exact Nat.zero_le _)⟩ (fun x_69 s_69 F_69 d_69 h_69 hl_69 hd_69 => ?_)
          obtain ⟨g_69, rfl, h_69⟩ := h_69
          obtain ⟨hx_69, hb_69, hq_69⟩ := h_69
          replace hx_69 := hx_69.symm
          subst hx_69
          replace hK : ∀ q : Int, q < b → F_69 q = F q := fun q h => (hq_69 q h).trans (hK q h)
          replace hB := hb_69
          replace hN := lnA hN (decS_2 (x := F (t + 2) k))
          clear hb_69 hq_69 hl_69
          refine R_ldcS hX (hX.2.2.2.2.2.2.1.2.2.2.2.2.2.2.1 16 (by decide)) dX12_text_72 ?_
          refine R_callVE (As := [.ref ((vG (xV X)).2.1 16)]) hX dX12_text_74 li_X12_151 mk_J4_append_15ec4 mi_J4_append_15ec4 rfl hB.1 (e_appS hB (i := 16) (by decide) (lnS hN (by omega) (by decide))) ⟨⟨by decide, by decide⟩, by omega, by omega, rfl, rfl, (by first | decide | exact Nat.zero_le _)⟩ (fun x_74 s_74 F_74 d_74 h_74 hl_74 hd_74 => ?_)
          obtain ⟨g_74, rfl, h_74⟩ := h_74
          obtain ⟨hx_74, hb_74, hq_74⟩ := h_74
          replace hx_74 := hx_74.symm
          subst hx_74
          replace hK : ∀ q : Int, q < b → F_74 q = F q := fun q h => (hq_74 q h).trans (hK q h)
          replace hB := hb_74
          replace hN := lnA hN (show ((stl 16).length : Int) ≤ 10 by decide)
          clear hb_74 hq_74 hl_74
          refine R_aload_0 hX dX12_text_77 ?_
          refine R_getq (v := t + 3) hX dX12_text_78 fl_X12_16 (hS.o.up.up.up) rfl (by omega) ?_
          refine R_iload_2 hX dX12_text_81 ?_
          refine R_iald hX dX12_text_82 (hS.a3.up.up.up) ⟨by omega, by omega⟩ ?_
          try simp (disch := omega) only [hK]
          refine R_callVE (As := [_]) hX dX12_text_83 li_X12_162 mk_J4_append_bf812 mi_J4_append_bf812 rfl hB.1 (e_appI hB ⟨by omega, by omega⟩ (by omega)) ⟨⟨by decide, by decide⟩, by omega, by omega, rfl, rfl, (by first | decide | exact Nat.zero_le _)⟩ (fun x_83 s_83 F_83 d_83 h_83 hl_83 hd_83 => ?_)
          obtain ⟨g_83, rfl, h_83⟩ := h_83
          obtain ⟨hx_83, hb_83, hq_83⟩ := h_83
          replace hx_83 := hx_83.symm
          subst hx_83
          replace hK : ∀ q : Int, q < b → F_83 q = F q := fun q h => (hq_83 q h).trans (hK q h)
          replace hB := hb_83
          replace hN := lnA hN (decS_2 (x := F (t + 3) k))
          clear hb_83 hq_83 hl_83
          refine R_ldcS hX (hX.2.2.2.2.2.2.1.2.2.2.2.2.2.2.1 17 (by decide)) dX12_text_86 ?_
          refine R_callVE (As := [.ref ((vG (xV X)).2.1 17)]) hX dX12_text_88 li_X12_151 mk_J4_append_15ec4 mi_J4_append_15ec4 rfl hB.1 (e_appS hB (i := 17) (by decide) (lnS hN (by omega) (by decide))) ⟨⟨by decide, by decide⟩, by omega, by omega, rfl, rfl, (by first | decide | exact Nat.zero_le _)⟩ (fun x_88 s_88 F_88 d_88 h_88 hl_88 hd_88 => ?_)
          obtain ⟨g_88, rfl, h_88⟩ := h_88
          obtain ⟨hx_88, hb_88, hq_88⟩ := h_88
          replace hx_88 := hx_88.symm
          subst hx_88
          replace hK : ∀ q : Int, q < b → F_88 q = F q := fun q h => (hq_88 q h).trans (hK q h)
          replace hB := hb_88
          replace hN := lnA hN (show ((stl 17).length : Int) ≤ 10 by decide)
          clear hb_88 hq_88 hl_88
          refine R_aload_0 hX dX12_text_91 ?_
          refine R_getq (v := t + 4) hX dX12_text_92 fl_X12_19 (hS.o.up.up.up.up.up) rfl (by omega) ?_
          refine R_iload_2 hX dX12_text_95 ?_
          refine R_iald hX dX12_text_96 (hS.a4.up.up.up.up.up) ⟨by omega, by omega⟩ ?_
          try simp (disch := omega) only [hK]
          refine R_callVE (As := [_]) hX dX12_text_97 li_X12_162 mk_J4_append_bf812 mi_J4_append_bf812 rfl hB.1 (e_appI hB ⟨by omega, by omega⟩ (by omega)) ⟨⟨by decide, by decide⟩, by omega, by omega, rfl, rfl, (by first | decide | exact Nat.zero_le _)⟩ (fun x_97 s_97 F_97 d_97 h_97 hl_97 hd_97 => ?_)
          obtain ⟨g_97, rfl, h_97⟩ := h_97
          obtain ⟨hx_97, hb_97, hq_97⟩ := h_97
          replace hx_97 := hx_97.symm
          subst hx_97
          replace hK : ∀ q : Int, q < b → F_97 q = F q := fun q h => (hq_97 q h).trans (hK q h)
          replace hB := hb_97
          replace hN := lnA hN (decS_2 (x := F (t + 4) k))
          clear hb_97 hq_97 hl_97
          refine R_ldcS hX (hX.2.2.2.2.2.2.1.2.2.2.2.2.2.2.1 18 (by decide)) dX12_text_100 ?_
          refine R_callVE (As := [.ref ((vG (xV X)).2.1 18)]) hX dX12_text_102 li_X12_151 mk_J4_append_15ec4 mi_J4_append_15ec4 rfl hB.1 (e_appS hB (i := 18) (by decide) (lnS hN (by omega) (by decide))) ⟨⟨by decide, by decide⟩, by omega, by omega, rfl, rfl, (by first | decide | exact Nat.zero_le _)⟩ (fun x_102 s_102 F_102 d_102 h_102 hl_102 hd_102 => ?_)
          obtain ⟨g_102, rfl, h_102⟩ := h_102
          obtain ⟨hx_102, hb_102, hq_102⟩ := h_102
          replace hx_102 := hx_102.symm
          subst hx_102
          replace hK : ∀ q : Int, q < b → F_102 q = F q := fun q h => (hq_102 q h).trans (hK q h)
          replace hB := hb_102
          replace hN := lnA hN (show ((stl 18).length : Int) ≤ 10 by decide)
          clear hb_102 hq_102 hl_102
          refine R_aload_0 hX dX12_text_105 ?_
          refine R_getq (v := t + 5) hX dX12_text_106 fl_X12_22 (hS.o.up.up.up.up.up.up.up) rfl (by omega) ?_
          refine R_iload_2 hX dX12_text_109 ?_
          refine R_iald hX dX12_text_110 (hS.a5.up.up.up.up.up.up.up) ⟨by omega, by omega⟩ ?_
          try simp (disch := omega) only [hK]
          refine R_callVE (As := [_]) hX dX12_text_111 li_X12_162 mk_J4_append_bf812 mi_J4_append_bf812 rfl hB.1 (e_appI hB ⟨by omega, by omega⟩ (by omega)) ⟨⟨by decide, by decide⟩, by omega, by omega, rfl, rfl, (by first | decide | exact Nat.zero_le _)⟩ (fun x_111 s_111 F_111 d_111 h_111 hl_111 hd_111 => ?_)
          obtain ⟨g_111, rfl, h_111⟩ := h_111
          obtain ⟨hx_111, hb_111, hq_111⟩ := h_111
          replace hx_111 := hx_111.symm
          subst hx_111
          replace hK : ∀ q : Int, q < b → F_111 q = F q := fun q h => (hq_111 q h).trans (hK q h)
          replace hB := hb_111
          replace hN := lnA hN (decS_2 (x := F (t + 5) k))
          clear hb_111 hq_111 hl_111
          refine R_ldcS hX (hX.2.2.2.2.2.2.1.2.2.2.2.2.2.2.1 19 (by decide)) dX12_text_114 ?_
          refine R_callVE (As := [.ref ((vG (xV X)).2.1 19)]) hX dX12_text_116 li_X12_151 mk_J4_append_15ec4 mi_J4_append_15ec4 rfl hB.1 (e_appS hB (i := 19) (by decide) (lnS hN (by omega) (by decide))) ⟨⟨by decide, by decide⟩, by omega, by omega, rfl, rfl, (by first | decide | exact Nat.zero_le _)⟩ (fun x_116 s_116 F_116 d_116 h_116 hl_116 hd_116 => ?_)
          obtain ⟨g_116, rfl, h_116⟩ := h_116
          obtain ⟨hx_116, hb_116, hq_116⟩ := h_116
          replace hx_116 := hx_116.symm
          subst hx_116
          replace hK : ∀ q : Int, q < b → F_116 q = F q := fun q h => (hq_116 q h).trans (hK q h)
          replace hB := hb_116
          replace hN := lnA hN (show ((stl 19).length : Int) ≤ 10 by decide)
          clear hb_116 hq_116 hl_116
          refine R_aload_0 hX dX12_text_119 ?_
          refine R_getq (v := t + 6) hX dX12_text_120 fl_X12_25 (hS.o.up.up.up.up.up.up.up.up.up) rfl (by omega) ?_
          refine R_iload_2 hX dX12_text_123 ?_
          refine R_iald hX dX12_text_124 (hS.a6.up.up.up.up.up.up.up.up.up) ⟨by omega, by omega⟩ ?_
          try simp (disch := omega) only [hK]
          refine R_callVE (As := [_]) hX dX12_text_125 li_X12_162 mk_J4_append_bf812 mi_J4_append_bf812 rfl hB.1 (e_appI hB ⟨by omega, by omega⟩ (by omega)) ⟨⟨by decide, by decide⟩, by omega, by omega, rfl, rfl, (by first | decide | exact Nat.zero_le _)⟩ (fun x_125 s_125 F_125 d_125 h_125 hl_125 hd_125 => ?_)
          obtain ⟨g_125, rfl, h_125⟩ := h_125
          obtain ⟨hx_125, hb_125, hq_125⟩ := h_125
          replace hx_125 := hx_125.symm
          subst hx_125
          replace hK : ∀ q : Int, q < b → F_125 q = F q := fun q h => (hq_125 q h).trans (hK q h)
          replace hB := hb_125
          replace hN := lnA hN (decS_2 (x := F (t + 6) k))
          clear hb_125 hq_125 hl_125
          refine R_ldcS hX (hX.2.2.2.2.2.2.1.2.2.2.2.2.2.2.1 20 (by decide)) dX12_text_128 ?_
          refine R_callVE (As := [.ref ((vG (xV X)).2.1 20)]) hX dX12_text_130 li_X12_151 mk_J4_append_15ec4 mi_J4_append_15ec4 rfl hB.1 (e_appS hB (i := 20) (by decide) (lnS hN (by omega) (by decide))) ⟨⟨by decide, by decide⟩, by omega, by omega, rfl, rfl, (by first | decide | exact Nat.zero_le _)⟩ (fun x_130 s_130 F_130 d_130 h_130 hl_130 hd_130 => ?_)
          obtain ⟨g_130, rfl, h_130⟩ := h_130
          obtain ⟨hx_130, hb_130, hq_130⟩ := h_130
          replace hx_130 := hx_130.symm
          subst hx_130
          replace hK : ∀ q : Int, q < b → F_130 q = F q := fun q h => (hq_130 q h).trans (hK q h)
          replace hB := hb_130
          replace hN := lnA hN (show ((stl 20).length : Int) ≤ 10 by decide)
          clear hb_130 hq_130 hl_130
          refine R_aload_0 hX dX12_text_133 ?_
          refine R_getq (v := t + 7) hX dX12_text_134 fl_X12_28 (hS.o.up.up.up.up.up.up.up.up.up.up.up) rfl (by omega) ?_
          refine R_iload_2 hX dX12_text_137 ?_
          refine R_iald hX dX12_text_138 (hS.a7.up.up.up.up.up.up.up.up.up.up.up) ⟨by omega, by omega⟩ ?_
          try simp (disch := omega) only [hK]
          refine R_callVE (As := [_]) hX dX12_text_139 li_X12_162 mk_J4_append_bf812 mi_J4_append_bf812 rfl hB.1 (e_appI hB ⟨by omega, by omega⟩ (by omega)) ⟨⟨by decide, by decide⟩, by omega, by omega, rfl, rfl, (by first | decide | exact Nat.zero_le _)⟩ (fun x_139 s_139 F_139 d_139 h_139 hl_139 hd_139 => ?_)
          obtain ⟨g_139, rfl, h_139⟩ := h_139
          obtain ⟨hx_139, hb_139, hq_139⟩ := h_139
          replace hx_139 := hx_139.symm
          subst hx_139
          replace hK : ∀ q : Int, q < b → F_139 q = F q := fun q h => (hq_139 q h).trans (hK q h)
          replace hB := hb_139
          replace hN := lnA hN (decS_2 (x := F (t + 7) k))
          clear hb_139 hq_139 hl_139
          refine R_pop hX c1_r dX12_text_142 ?_
          refine R_aload_1 hX dX12_text_143 ?_
          refine R_aload_0 hX dX12_text_144 ?_
          refine R_getq (v := t + 8) hX dX12_text_145 fl_X12_31 (hS.o.up.up.up.up.up.up.up.up.up.up.up.up) rfl (by omega) ?_
          refine R_iload_2 hX dX12_text_148 ?_
          refine R_zald hX dX12_text_149 (hS.a8.up.up.up.up.up.up.up.up.up.up.up.up) ⟨by omega, by omega⟩ ?_
          try simp (disch := omega) only [hK]
          refine R_ifeq (tgt := 158) hX dX12_text_150 (by decide) (by constructor <;> first | omega | (simp (disch := omega) only [hK]; omega)) (fun c_150 => ?_) (fun c_150 => ?_)
          · skip
            refine R_ldcS hX (hX.2.2.2.2.2.2.1.2.2.2.2.2.2.2.1 22 (by decide)) dX12_text_158 ?_
            refine R_callVE (As := [.ref ((vG (xV X)).2.1 22)]) hX dX12_text_160 li_X12_151 mk_J4_append_15ec4 mi_J4_append_15ec4 rfl hB.1 (e_appS hB (i := 22) (by decide) (lnS hN (by omega) (by decide))) ⟨⟨by decide, by decide⟩, by omega, by omega, rfl, rfl, (by first | decide | exact Nat.zero_le _)⟩ (fun x_160 s_160 F_160 d_160 h_160 hl_160 hd_160 => ?_)
            obtain ⟨g_160, rfl, h_160⟩ := h_160
            obtain ⟨hx_160, hb_160, hq_160⟩ := h_160
            replace hx_160 := hx_160.symm
            subst hx_160
            replace hK : ∀ q : Int, q < b → F_160 q = F q := fun q h => (hq_160 q h).trans (hK q h)
            replace hB := hb_160
            replace hN := lnA hN (show ((stl 22).length : Int) ≤ 10 by decide)
            clear hb_160 hq_160 hl_160
            refine R_pop hX c1_r dX12_text_163 ?_
            refine R_iinc_2 hX c1_r dX12_text_164 ?_
            refine R_goto (tgt := 10) hX dX12_text_167 (by decide) ?_
            exact ih_10 _ _ _ _ _ (by obtain ⟨g, hg⟩ := hg; first | exact ⟨g, hg⟩ | exact ⟨_, by rw [hg]; simp only [List.append_assoc]; try rfl⟩) hS.up.up.up.up.up.up.up.up.up.up.up.up.up (by rw [nodesL_s (by omega), ← ndL_a 22 (if_pos c_150)]; exact hB) hK (by rw [nodesL_s (by omega), ← ndL_a 22 (if_pos c_150)]; omega) (by omega) (by omega) (by omega) (by omega)
          · skip
            refine R_ldcS hX (hX.2.2.2.2.2.2.1.2.2.2.2.2.2.2.1 21 (by decide)) dX12_text_153 ?_
            refine R_goto (tgt := 160) hX dX12_text_155 (by decide) ?_
            refine R_callVE (As := [.ref ((vG (xV X)).2.1 21)]) hX dX12_text_160 li_X12_151 mk_J4_append_15ec4 mi_J4_append_15ec4 rfl hB.1 (e_appS hB (i := 21) (by decide) (lnS hN (by omega) (by decide))) ⟨⟨by decide, by decide⟩, by omega, by omega, rfl, rfl, (by first | decide | exact Nat.zero_le _)⟩ (fun x_160 s_160 F_160 d_160 h_160 hl_160 hd_160 => ?_)
            obtain ⟨g_160, rfl, h_160⟩ := h_160
            obtain ⟨hx_160, hb_160, hq_160⟩ := h_160
            replace hx_160 := hx_160.symm
            subst hx_160
            replace hK : ∀ q : Int, q < b → F_160 q = F q := fun q h => (hq_160 q h).trans (hK q h)
            replace hB := hb_160
            replace hN := lnA hN (show ((stl 21).length : Int) ≤ 10 by decide)
            clear hb_160 hq_160 hl_160
            refine R_pop hX c1_r dX12_text_163 ?_
            refine R_iinc_2 hX c1_r dX12_text_164 ?_
            refine R_goto (tgt := 10) hX dX12_text_167 (by decide) ?_
            exact ih_10 _ _ _ _ _ (by obtain ⟨g, hg⟩ := hg; first | exact ⟨g, hg⟩ | exact ⟨_, by rw [hg]; simp only [List.append_assoc]; try rfl⟩) hS.up.up.up.up.up.up.up.up.up.up.up.up.up (by rw [nodesL_s (by omega), ← ndL_a 21 (if_neg c_150)]; exact hB) hK (by rw [nodesL_s (by omega), ← ndL_a 21 (if_neg c_150)]; omega) (by omega) (by omega) (by omega) (by omega)
        have hst := hV.st k (by omega) (by omega)
        have hpr := hV.par k (by omega) (by omega)
        refine R_aload_1 hX dX12_text_18 ?_
        refine R_ldcS hX (hX.2.2.2.2.2.2.1.2.2.2.2.2.2.2.1 13 (by decide)) dX12_text_19 ?_
        refine R_callVE (As := [.ref ((vG (xV X)).2.1 13)]) hX dX12_text_21 li_X12_151 mk_J4_append_15ec4 mi_J4_append_15ec4 rfl hB.1 (e_appS hB (i := 13) (by decide) (lnS hN (by omega) (by decide))) ⟨⟨by decide, by decide⟩, by omega, by omega, rfl, rfl, (by first | decide | exact Nat.zero_le _)⟩ (fun x_21 s_21 F_21 d_21 h_21 hl_21 hd_21 => ?_)
        obtain ⟨g_21, rfl, h_21⟩ := h_21
        obtain ⟨hx_21, hb_21, hq_21⟩ := h_21
        replace hx_21 := hx_21.symm
        subst hx_21
        replace hK : ∀ q : Int, q < b → F_21 q = F q := fun q h => (hq_21 q h).trans (hK q h)
        replace hB := hb_21
        replace hN := lnA hN (show ((stl 13).length : Int) ≤ 10 by decide)
        clear hb_21 hq_21 hl_21
        refine R_bipush hX dX12_text_24 (by decide) ?_
        refine R_iload_2 hX dX12_text_26 ?_
        refine R_iadd hX dX12_text_27 ?_
        refine R_i2c hX (by omega) dX12_text_28 ?_
        refine R_callVE (As := [_]) hX dX12_text_29 li_X12_155 mk_J4_append_cf468 mi_J4_append_cf468 rfl hB.1 (e_appC hB ⟨by omega, by omega⟩ (by omega)) ⟨⟨by decide, by decide⟩, by omega, by omega, rfl, rfl, (by first | decide | exact Nat.zero_le _)⟩ (fun x_29 s_29 F_29 d_29 h_29 hl_29 hd_29 => ?_)
        obtain ⟨g_29, rfl, h_29⟩ := h_29
        obtain ⟨hx_29, hb_29, hq_29⟩ := h_29
        replace hx_29 := hx_29.symm
        subst hx_29
        replace hK : ∀ q : Int, q < b → F_29 q = F q := fun q h => (hq_29 q h).trans (hK q h)
        replace hB := hb_29
        replace hN := lnA hN (show (([112 + k] : List Int).length : Int) ≤ 1 from Int.le_refl 1)
        clear hb_29 hq_29 hl_29
        refine R_pop hX c1_r dX12_text_32 ?_
        refine R_iload_2 hX dX12_text_33 ?_
        refine R_ifle (tgt := 57) hX dX12_text_34 (by decide) (by constructor <;> first | omega | (simp (disch := omega) only [hK]; omega)) (fun c_34 => ?_) (fun c_34 => ?_)
        · skip
          exact jn_57 _ _ _ _ (by obtain ⟨g, hg⟩ := hg; first | exact ⟨g, hg⟩ | exact ⟨_, by rw [hg]; simp only [List.append_assoc]; try rfl⟩) hS.up.up (by rw [hdL_0 c_34]; exact hB) hK (by rw [hdL_0 c_34]; omega) (by omega) (by omega)
        · skip
          refine R_aload_1 hX dX12_text_37 ?_
          refine R_ldcS hX (hX.2.2.2.2.2.2.1.2.2.2.2.2.2.2.1 14 (by decide)) dX12_text_38 ?_
          refine R_callVE (As := [.ref ((vG (xV X)).2.1 14)]) hX dX12_text_40 li_X12_151 mk_J4_append_15ec4 mi_J4_append_15ec4 rfl hB.1 (e_appS hB (i := 14) (by decide) (lnS hN (by omega) (by decide))) ⟨⟨by decide, by decide⟩, by omega, by omega, rfl, rfl, (by first | decide | exact Nat.zero_le _)⟩ (fun x_40 s_40 F_40 d_40 h_40 hl_40 hd_40 => ?_)
          obtain ⟨g_40, rfl, h_40⟩ := h_40
          obtain ⟨hx_40, hb_40, hq_40⟩ := h_40
          replace hx_40 := hx_40.symm
          subst hx_40
          replace hK : ∀ q : Int, q < b → F_40 q = F q := fun q h => (hq_40 q h).trans (hK q h)
          replace hB := hb_40
          replace hN := lnA hN (show ((stl 14).length : Int) ≤ 10 by decide)
          clear hb_40 hq_40 hl_40
          refine R_bipush hX dX12_text_43 (by decide) ?_
          refine R_aload_0 hX dX12_text_45 ?_
          refine R_getq (v := t + 1) hX dX12_text_46 fl_X12_7 (hS.o.up.up.up) rfl (by omega) ?_
          refine R_iload_2 hX dX12_text_49 ?_
          refine R_iald hX dX12_text_50 (hS.a1.up.up.up) ⟨by omega, by omega⟩ ?_
          try simp (disch := omega) only [hK]
          refine R_iadd hX dX12_text_51 ?_
          refine R_i2c hX (by omega) dX12_text_52 ?_
          refine R_callVE (As := [_]) hX dX12_text_53 li_X12_155 mk_J4_append_cf468 mi_J4_append_cf468 rfl hB.1 (e_appC hB ⟨by omega, by omega⟩ (by omega)) ⟨⟨by decide, by decide⟩, by omega, by omega, rfl, rfl, (by first | decide | exact Nat.zero_le _)⟩ (fun x_53 s_53 F_53 d_53 h_53 hl_53 hd_53 => ?_)
          obtain ⟨g_53, rfl, h_53⟩ := h_53
          obtain ⟨hx_53, hb_53, hq_53⟩ := h_53
          replace hx_53 := hx_53.symm
          subst hx_53
          replace hK : ∀ q : Int, q < b → F_53 q = F q := fun q h => (hq_53 q h).trans (hK q h)
          replace hB := hb_53
          replace hN := lnA hN (show (([112 + F (t + 1) k] : List Int).length : Int) ≤ 1 from Int.le_refl 1)
          clear hb_53 hq_53 hl_53
          refine R_pop hX c1_r dX12_text_56 ?_
          exact jn_57 _ _ _ _ (by obtain ⟨g, hg⟩ := hg; first | exact ⟨g, hg⟩ | exact ⟨_, by rw [hg]; simp only [List.append_assoc]; try rfl⟩) hS.up.up.up.up (by rw [hdL_1 c_34]; exact hB) hK (by rw [hdL_1 c_34]; omega) (by omega) (by omega)
  exact lp_10 8 _ _ _ _ _ ⟨_, by simp only [List.append_assoc]; try rfl⟩ hS.up.up hB hK (Int.le_refl 0) (by omega) (by omega) (by omega) (by omega)
