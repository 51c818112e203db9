theorem choS_none {dist : Int → Int} {prec : Int → Int → Bool} : ∀ k : Nat, (∀ n : Int, 0 ≤ n → n < k → dist n = -2) → choS dist prec k = (-2, -2)
  | 0, _ => rfl
  | k + 1, h => by
    unfold choS
    rw [if_neg (fun z => z.1 (h k (by omega) (by omega))), choS_none k (fun n h0 h1 => h n h0 (by omega))]
theorem Rl.chl {u v K t : Int} {F : Hp} (h : Rl u v K F t) : chlS 40 u F = -2 := by
  obtain ⟨-, -, -, ⟨e, -⟩, ⟨-, d⟩⟩ := h
  unfold chlS
  rw [choS_none]
  intro n h0 h1
  unfold dstS
  exact if_pos (d n h0 (by omega)).2.2.2.2.2.2.1
theorem SS.u {u v : Int} (h : SS u v) : isSu u := by unfold SS at h; unfold isSu; omega
theorem SS.v {u v : Int} (h : SS u v) : isSu v := by unfold SS at h; unfold isSu; omega
/-- leaves are the same on both sides -/
theorem Rl.leaf {u v K t k : Int} {F : Hp} (h : Rl u v K F t) (hk : 0 ≤ k ∧ k < F t 0) : F (u + 4) k = 0 ↔ ∀ j : Int, 0 ≤ j → j < F t 0 → F (t + 1) j ≠ k := by
  obtain ⟨-, c, -, ⟨e, s, -⟩, -⟩ := h
  have hi := c.2.2.1.1.2.2.2.2.2.1 k hk.1 (by omega)
  rw [hi]
  constructor
  · intro z j h0 h1
    rw [← (s j h0 h1).2.1]
    exact z j h0 (by omega)
  · intro z j h0 h1
    rw [(s j h0 (by omega)).2.1]
    exact z j h0 (by omega)
set_option maxRecDepth 100000 in
set_option maxHeartbeats 4000000 in
theorem c_same {V : VX} {T : Shp} {F : Hp} {t u v K : Int} (hR : Rl u v K F t) (hS : TrS T t) (hV : TrV F t) (hQ : TQ T F t)  : Ct V yL_same cL_same 4 (some .boolean) 5 118 0 0 (SH T) [vr V 0, vr V t] F (SH T) 1 (fun r F' => r = 1 ∧ F' = F) := by
  refine Ct.of [some (vr V 0), some (vr V t), none, none] (by decide) (by simp [lg_sl, vi_cat, vl_cat, vr_cat]) rfl (by simp [asc, lv_args, vi_cat, vl_cat, vr_cat]) (fun X hV hX => ?_)
  subst hV
  have hp := hS.p
  have hn := hV.n
  have hu := hR.1.u
  have hC := hR.2.1
  have hun : F u 0 = F t 0 := hR.2.2.2.1.1
  have hdr := hR.2.2.2.2
  have hsr := hR.2.2.2.1
  refine R_aload_0 hX dL_same_0 ?_
  refine R_v0i hX dL_same_1 li_L_56 mk_X11_time mi_X11_time rfl o_0 (c_time rfl hu hC) ⟨⟨by decide, by decide⟩, by decide, by decide, rfl, Nat.le_of_ble_eq_true rfl, rfl⟩ (fun x_1 F_1 h_1 => ?_)
  obtain ⟨h_1, e_1⟩ := h_1; replace e_1 := e_1.symm; subst e_1
  refine R_aload_1 hX dL_same_4 ?_
  refine R_getNi hX dL_same_5 fn_L_59 hS.o rfl ?_
  refine R_icmpneS (tgt := 26) hX dL_same_8 (by decide) (by rw [h_1]; exact hdr.1) ?_
  refine R_aload_0 hX dL_same_11 ?_
  refine R_v0i hX dL_same_12 li_L_61 mk_X11_nextLeaf mi_X11_nextLeaf rfl o_0 (c_nextLeaf rfl hu hC) ⟨⟨by decide, by decide⟩, by decide, by decide, rfl, Nat.le_of_ble_eq_true rfl, rfl⟩ (fun x_12 F_12 h_12 => ?_)
  obtain ⟨h_12, e_12⟩ := h_12; replace e_12 := e_12.symm; subst e_12
  refine R_aload_1 hX dL_same_15 ?_
  refine R_v0i hX dL_same_16 li_L_64 mk_X12_first mi_X12_first rfl hS.o (c_tFirst hS hV hQ) ⟨⟨by decide, by decide⟩, by decide, by decide, rfl, Nat.le_of_ble_eq_true rfl, rfl⟩ (fun x_16 F_16 h_16 => ?_)
  obtain ⟨h_16, e_16⟩ := h_16; replace e_16 := e_16.symm; subst e_16
  refine R_icmpneS (tgt := 26) hX dL_same_19 (by decide) (by rw [h_12, h_16]; exact hR.chl) ?_
  refine R_iconst hX dL_same_22 ?_
  refine R_goto (tgt := 27) hX dL_same_23 (by decide) ?_
  refine R_istore_2 hX c1_r dL_same_27 ?_
  refine R_iconst hX dL_same_28 ?_
  refine R_istore_3 hX c1_i dL_same_29 ?_
  have lp_30 : ∀ (n : Nat) (k : Int), (0 ≤ k ∧ k ≤ F t 0) → (7 - k).toNat < n → R X (SH T) 0 0 30 [some (vr (xV X) 0), some (vr (xV X) t), some (vi 1), some (vi k)] [] F (Zq X (SH T) 1 (fun r F' => r = 1 ∧ F' = F) 0 0) := by
    intro n
    induction n with
    | zero => intro k iv30_0 hm; exact absurd hm (Nat.not_lt_zero _)
    | succ n ih_30 =>
      intro k iv30_0 hm_30
      refine R_iload_3 hX dL_same_30 ?_
      refine R_aload_1 hX dL_same_31 ?_
      refine R_getNi hX dL_same_32 fn_L_46 hS.o rfl ?_
      refine R_icmpge (tgt := 253) hX dL_same_35 (by decide) (by first | exact ⟨by omega, by omega⟩ | (have hqi := hC.2.2.1; have htm := hV.tm; constructor <;> omega)) (by first | exact ⟨by omega, by omega⟩ | (have hqi := hC.2.2.1; have htm := hV.tm; constructor <;> omega)) (fun c_35 => ?_) (fun c_35 => ?_)
      · skip
        refine R_iload_2 hX dL_same_253 ?_
        exact R_zret hX (by omega) dL_same_254 ⟨rfl, rfl⟩
      · skip
        refine R_iload_2 hX dL_same_38 ?_
        refine R_ifeq (tgt := 253) hX dL_same_39 (by decide) (by first | exact ⟨by omega, by omega⟩ | (have hqi := hC.2.2.1; have htm := hV.tm; constructor <;> omega)) (fun c_39 => ?_) (fun c_39 => ?_)
        · exact absurd c_39 (by decide)
        · skip
          have hdk := hdr.2 k (by omega) (by omega)
          have hac := hV.ac k (by omega) (by omega)
          refine R_aload_0 hX dL_same_42 ?_
          refine R_iload_3 hX dL_same_43 ?_
          refine R_v1i hX dL_same_44 li_L_67 mk_X11_tokens mi_X11_tokens rfl o_0 (c_tokens rfl hu hC ⟨by omega, by omega⟩) ⟨⟨by decide, by decide⟩, by decide, by decide, rfl, Nat.le_of_ble_eq_true rfl, rfl⟩ (fun x_44 F_44 h_44 => ?_)
          obtain ⟨h_44, e_44⟩ := h_44; replace e_44 := e_44.symm; subst e_44
          refine R_aload_1 hX dL_same_47 ?_
          refine R_getNq (v := t + 9) hX dL_same_48 fn_L_70 hS.o rfl (by omega) ?_
          refine R_iload_3 hX dL_same_51 ?_
          refine R_iald hX dL_same_52 hS.a9 ⟨by omega, by omega⟩ ?_
          refine R_icmpneS (tgt := 102) hX dL_same_53 (by decide) (by rw [h_44, if_pos ⟨by omega, by omega⟩]; exact hdk.2.2.2.1) ?_
          refine R_aload_0 hX dL_same_56 ?_
          refine R_iload_3 hX dL_same_57 ?_
          refine R_v1i hX dL_same_58 li_L_73 mk_X11_credit mi_X11_credit rfl o_0 (c_credit rfl hu hC ⟨by omega, by omega⟩) ⟨⟨by decide, by decide⟩, by decide, by decide, rfl, Nat.le_of_ble_eq_true rfl, rfl⟩ (fun x_58 F_58 h_58 => ?_)
          obtain ⟨h_58, e_58⟩ := h_58; replace e_58 := e_58.symm; subst e_58
          refine R_aload_1 hX dL_same_61 ?_
          refine R_getNq (v := t + 10) hX dL_same_62 fn_L_76 hS.o rfl (by omega) ?_
          refine R_iload_3 hX dL_same_65 ?_
          refine R_iald hX dL_same_66 hS.a10 ⟨by omega, by omega⟩ ?_
          refine R_icmpneS (tgt := 102) hX dL_same_67 (by decide) (by rw [h_58, if_pos ⟨by omega, by omega⟩]; exact hdk.2.2.2.2.1) ?_
          refine R_aload_0 hX dL_same_70 ?_
          refine R_iload_3 hX dL_same_71 ?_
          refine R_v1i hX dL_same_72 li_L_78 mk_X11_headroom mi_X11_headroom rfl o_0 (c_headroom rfl hu hC ⟨by omega, by omega⟩) ⟨⟨by decide, by decide⟩, by decide, by decide, rfl, Nat.le_of_ble_eq_true rfl, rfl⟩ (fun x_72 F_72 h_72 => ?_)
          obtain ⟨h_72, e_72⟩ := h_72; replace e_72 := e_72.symm; subst e_72
          refine R_aload_1 hX dL_same_75 ?_
          refine R_getNq (v := t + 11) hX dL_same_76 fn_L_81 hS.o rfl (by omega) ?_
          refine R_iload_3 hX dL_same_79 ?_
          refine R_iald hX dL_same_80 hS.a11 ⟨by omega, by omega⟩ ?_
          refine R_icmpneS (tgt := 102) hX dL_same_81 (by decide) (by rw [h_72, if_pos ⟨by omega, by omega⟩]; exact hdk.2.2.2.2.2.1) ?_
          refine R_aload_0 hX dL_same_84 ?_
          refine R_iload_3 hX dL_same_85 ?_
          refine R_v1i hX dL_same_86 li_L_84 mk_X11_lentCost mi_X11_lentCost rfl o_0 (c_lentCost rfl hu hC ⟨by omega, by omega⟩) ⟨⟨by decide, by decide⟩, by decide, by decide, rfl, Nat.le_of_ble_eq_true rfl, rfl⟩ (fun x_86 F_86 h_86 => ?_)
          obtain ⟨h_86, e_86⟩ := h_86; replace e_86 := e_86.symm; subst e_86
          refine R_aload_1 hX dL_same_89 ?_
          refine R_getNq (v := t + 15) hX dL_same_90 fn_L_87 hS.o rfl (by omega) ?_
          refine R_iload_3 hX dL_same_93 ?_
          refine R_iald hX dL_same_94 hS.a15 ⟨by omega, by omega⟩ ?_
          refine R_icmpneS (tgt := 102) hX dL_same_95 (by decide) (by rw [h_86, if_pos ⟨by omega, by omega⟩]; exact hdk.2.2.2.2.2.2.2.2.2.2.1) ?_
          refine R_iconst hX dL_same_98 ?_
          refine R_goto (tgt := 103) hX dL_same_99 (by decide) ?_
          refine R_istore_2 hX c1_r dL_same_103 ?_
          refine R_aload_1 hX dL_same_104 ?_
          refine R_iload_3 hX dL_same_105 ?_
          refine R_v1i hX dL_same_106 li_L_90 mk_X12_isLeaf mi_X12_isLeaf rfl hS.o (c_tLeaf hS hV ⟨by omega, by omega⟩) ⟨⟨by decide, by decide⟩, by decide, by decide, rfl, Nat.le_of_ble_eq_true rfl, rfl⟩ (fun x_106 F_106 h_106 => ?_)
          obtain ⟨h_106, e_106⟩ := h_106; replace e_106 := e_106.symm; subst e_106
          refine R_ifne (tgt := 151) hX dL_same_109 (by decide) (by first | exact ⟨by omega, by omega⟩ | (have hqi := hC.2.2.1; have htm := hV.tm; constructor <;> omega)) (fun c_109 => ?_) (fun c_109 => ?_)
          · skip
            have hq2 : F (t + 17) 2 = F t 0 := hQ.2.1
            have hlf : F (u + 4) k = 0 := by
              rw [hR.leaf ⟨by omega, by omega⟩]
              rcases h_106 with ⟨_, z⟩ | ⟨z, _⟩
              · exact z
              · exact absurd z (by omega)
            clear h_106
            refine R_iload_2 hX dL_same_151 ?_
            refine R_ifeq (tgt := 245) hX dL_same_152 (by decide) (by first | exact ⟨by omega, by omega⟩ | (have hqi := hC.2.2.1; have htm := hV.tm; constructor <;> omega)) (fun c_152 => ?_) (fun c_152 => ?_)
            · exact absurd c_152 (by decide)
            · skip
              refine R_aload_0 hX dL_same_155 ?_
              refine R_iload_3 hX dL_same_156 ?_
              refine R_v1i hX dL_same_157 li_L_94 mk_X11_sentCost mi_X11_sentCost rfl o_0 (c_sentCost rfl hu hC ⟨by omega, by omega⟩) ⟨⟨by decide, by decide⟩, by decide, by decide, rfl, Nat.le_of_ble_eq_true rfl, rfl⟩ (fun x_157 F_157 h_157 => ?_)
              obtain ⟨h_157, e_157⟩ := h_157; replace e_157 := e_157.symm; subst e_157
              refine R_aload_1 hX dL_same_160 ?_
              refine R_getNq (v := t + 12) hX dL_same_161 fn_L_101 hS.o rfl (by omega) ?_
              refine R_iload_3 hX dL_same_164 ?_
              refine R_iald hX dL_same_165 hS.a12 ⟨by omega, by omega⟩ ?_
              refine R_icmpneS (tgt := 245) hX dL_same_166 (by decide) (by rw [h_157, if_pos ⟨by omega, by omega, hlf⟩]; exact hdk.2.2.2.2.2.2.2.1) ?_
              refine R_aload_0 hX dL_same_169 ?_
              refine R_iload_3 hX dL_same_170 ?_
              refine R_v1i hX dL_same_171 li_L_104 mk_X11_sentCount mi_X11_sentCount rfl o_0 (c_sentCount rfl hu hC ⟨by omega, by omega⟩) ⟨⟨by decide, by decide⟩, by decide, by decide, rfl, Nat.le_of_ble_eq_true rfl, rfl⟩ (fun x_171 F_171 h_171 => ?_)
              obtain ⟨h_171, e_171⟩ := h_171; replace e_171 := e_171.symm; subst e_171
              refine R_aload_1 hX dL_same_174 ?_
              refine R_getNq (v := t + 13) hX dL_same_175 fn_L_107 hS.o rfl (by omega) ?_
              refine R_iload_3 hX dL_same_178 ?_
              refine R_iald hX dL_same_179 hS.a13 ⟨by omega, by omega⟩ ?_
              refine R_icmpneS (tgt := 245) hX dL_same_180 (by decide) (by rw [h_171, if_pos ⟨by omega, by omega, hlf⟩]; exact hdk.2.2.2.2.2.2.2.2.1) ?_
              refine R_aload_0 hX dL_same_183 ?_
              refine R_iload_3 hX dL_same_184 ?_
              refine R_v1i hX dL_same_185 li_L_110 mk_X11_borrowedCost mi_X11_borrowedCost rfl o_0 (c_borrowedCost rfl hu hC ⟨by omega, by omega⟩) ⟨⟨by decide, by decide⟩, by decide, by decide, rfl, Nat.le_of_ble_eq_true rfl, rfl⟩ (fun x_185 F_185 h_185 => ?_)
              obtain ⟨h_185, e_185⟩ := h_185; replace e_185 := e_185.symm; subst e_185
              refine R_aload_1 hX dL_same_188 ?_
              refine R_getNq (v := t + 14) hX dL_same_189 fn_L_113 hS.o rfl (by omega) ?_
              refine R_iload_3 hX dL_same_192 ?_
              refine R_iald hX dL_same_193 hS.a14 ⟨by omega, by omega⟩ ?_
              refine R_icmpneS (tgt := 245) hX dL_same_194 (by decide) (by rw [h_185, if_pos ⟨by omega, by omega, hlf⟩]; exact hdk.2.2.2.2.2.2.2.2.2.1) ?_
              refine R_aload_0 hX dL_same_197 ?_
              refine R_iload_3 hX dL_same_198 ?_
              refine R_v1i hX dL_same_199 li_L_116 mk_X11_droppedCount mi_X11_droppedCount rfl o_0 (c_droppedCount rfl hu hC ⟨by omega, by omega⟩) ⟨⟨by decide, by decide⟩, by decide, by decide, rfl, Nat.le_of_ble_eq_true rfl, rfl⟩ (fun x_199 F_199 h_199 => ?_)
              obtain ⟨h_199, e_199⟩ := h_199; replace e_199 := e_199.symm; subst e_199
              refine R_aload_1 hX dL_same_202 ?_
              refine R_getNq (v := t + 16) hX dL_same_203 fn_L_119 hS.o rfl (by omega) ?_
              refine R_iload_3 hX dL_same_206 ?_
              refine R_iald hX dL_same_207 hS.a16 ⟨by omega, by omega⟩ ?_
              refine R_icmpneS (tgt := 245) hX dL_same_208 (by decide) (by rw [h_199, if_pos ⟨by omega, by omega, hlf⟩]; exact hdk.2.2.2.2.2.2.2.2.2.2.2) ?_
              refine R_aload_0 hX dL_same_211 ?_
              refine R_iload_3 hX dL_same_212 ?_
              refine R_v1i hX dL_same_213 li_L_97 mk_X11_queueLength mi_X11_queueLength rfl o_0 (c_queueLength rfl hu hC ⟨by omega, by omega⟩) ⟨⟨by decide, by decide⟩, by decide, by decide, rfl, Nat.le_of_ble_eq_true rfl, rfl⟩ (fun x_213 F_213 h_213 => ?_)
              obtain ⟨h_213, e_213⟩ := h_213; replace e_213 := e_213.symm; subst e_213
              refine R_aload_1 hX dL_same_216 ?_
              refine R_getNq (v := t + 17) hX dL_same_217 fn_L_122 hS.o rfl (by omega) ?_
              refine R_iload_3 hX dL_same_220 ?_
              refine R_v1r hX dL_same_221 li_L_126 mk_Jx4a65c_get_915e3 mi_Jx4a65c_get_915e3 rfl hS.q (c_get hS.q hQ.1 hS.e ⟨by omega, by omega⟩ ⟨by omega, by omega⟩) ⟨⟨by decide, by decide⟩, by decide, by decide, rfl, Nat.le_of_ble_eq_true rfl, rfl⟩ (fun x_221 F_221 h_221 => ?_)
              obtain ⟨h_221, e_221⟩ := h_221; replace e_221 := e_221.symm; subst e_221
              obtain rfl := h_221
              have hqo := hQ.2.2 k (by omega) (by omega)
              rw [hqo.1]
              refine R_castO hX dL_same_224 cl_L_127 hqo.2.1 rfl ?_
              refine R_v0i hX dL_same_227 li_L_132 mk_Jx4a65c_size_8abf5 mi_Jx4a65c_size_8abf5 rfl hqo.2.1 (c_size hqo.2.1) ⟨⟨by decide, by decide⟩, by decide, by decide, rfl, Nat.le_of_ble_eq_true rfl, rfl⟩ (fun x_227 F_227 h_227 => ?_)
              obtain ⟨h_227, e_227⟩ := h_227; replace e_227 := e_227.symm; subst e_227
              refine R_icmpneS (tgt := 245) hX dL_same_230 (by decide) (by rw [h_213, if_pos ⟨by omega, by omega, hlf⟩, h_227, hqo.2.2]; exact hdk.2.2.2.2.2.2.1) ?_
              refine R_aload_0 hX dL_same_233 ?_
              refine R_iload_3 hX dL_same_234 ?_
              refine R_v1i hX dL_same_235 li_L_100 mk_X11_isLeaf mi_X11_isLeaf rfl o_0 (c_isLeaf rfl hu hC ⟨by omega, by omega⟩) ⟨⟨by decide, by decide⟩, by decide, by decide, rfl, Nat.le_of_ble_eq_true rfl, rfl⟩ (fun x_235 F_235 h_235 => ?_)
              obtain ⟨h_235, e_235⟩ := h_235; replace e_235 := e_235.symm; subst e_235
              refine R_ifeq (tgt := 245) hX dL_same_238 (by decide) (by first | exact ⟨by omega, by omega⟩ | (have hqi := hC.2.2.1; have htm := hV.tm; constructor <;> omega)) (fun c_238 => ?_) (fun c_238 => ?_)
              · exact absurd c_238 (by rcases h_235 with ⟨z, _⟩ | ⟨_, z⟩; omega; exact absurd ⟨by omega, by omega, hlf⟩ z)
              · skip
                clear h_157 h_171 h_185 h_199 h_213 h_235
                refine R_iconst hX dL_same_241 ?_
                refine R_goto (tgt := 246) hX dL_same_242 (by decide) ?_
                refine R_istore_2 hX c1_r dL_same_246 ?_
                clear h_44 h_58 h_72 h_86 hdk hac
                refine R_iinc_3 hX c1_i dL_same_247 ?_
                refine R_goto (tgt := 30) hX dL_same_250 (by decide) ?_
                exact ih_30 _ (by omega) (by omega)
          · skip
            have hnl : ¬ F (u + 4) k = 0 := by
              rw [hR.leaf ⟨by omega, by omega⟩]
              rcases h_106 with ⟨z, _⟩ | ⟨_, j, j0, j1, j2⟩
              · exact absurd z (by omega)
              · exact fun q => q j j0 j1 j2
            clear h_106
            refine R_iload_2 hX dL_same_112 ?_
            refine R_ifeq (tgt := 146) hX dL_same_113 (by decide) (by first | exact ⟨by omega, by omega⟩ | (have hqi := hC.2.2.1; have htm := hV.tm; constructor <;> omega)) (fun c_113 => ?_) (fun c_113 => ?_)
            · exact absurd c_113 (by decide)
            · skip
              refine R_aload_0 hX dL_same_116 ?_
              refine R_iload_3 hX dL_same_117 ?_
              refine R_v1i hX dL_same_118 li_L_94 mk_X11_sentCost mi_X11_sentCost rfl o_0 (c_sentCost rfl hu hC ⟨by omega, by omega⟩) ⟨⟨by decide, by decide⟩, by decide, by decide, rfl, Nat.le_of_ble_eq_true rfl, rfl⟩ (fun x_118 F_118 h_118 => ?_)
              obtain ⟨h_118, e_118⟩ := h_118; replace e_118 := e_118.symm; subst e_118
              refine R_iconst hX dL_same_121 ?_
              refine R_icmpneS (tgt := 146) hX dL_same_122 (by decide) (by rw [h_118, if_neg (fun z => hnl z.2.2)]) ?_
              refine R_aload_0 hX dL_same_125 ?_
              refine R_iload_3 hX dL_same_126 ?_
              refine R_v1i hX dL_same_127 li_L_97 mk_X11_queueLength mi_X11_queueLength rfl o_0 (c_queueLength rfl hu hC ⟨by omega, by omega⟩) ⟨⟨by decide, by decide⟩, by decide, by decide, rfl, Nat.le_of_ble_eq_true rfl, rfl⟩ (fun x_127 F_127 h_127 => ?_)
              obtain ⟨h_127, e_127⟩ := h_127; replace e_127 := e_127.symm; subst e_127
              refine R_iconst hX dL_same_130 ?_
              refine R_icmpneS (tgt := 146) hX dL_same_131 (by decide) (by rw [h_127, if_neg (fun z => hnl z.2.2)]) ?_
              refine R_aload_0 hX dL_same_134 ?_
              refine R_iload_3 hX dL_same_135 ?_
              refine R_v1i hX dL_same_136 li_L_100 mk_X11_isLeaf mi_X11_isLeaf rfl o_0 (c_isLeaf rfl hu hC ⟨by omega, by omega⟩) ⟨⟨by decide, by decide⟩, by decide, by decide, rfl, Nat.le_of_ble_eq_true rfl, rfl⟩ (fun x_136 F_136 h_136 => ?_)
              obtain ⟨h_136, e_136⟩ := h_136; replace e_136 := e_136.symm; subst e_136
              refine R_ifne (tgt := 146) hX dL_same_139 (by decide) (by first | exact ⟨by omega, by omega⟩ | (have hqi := hC.2.2.1; have htm := hV.tm; constructor <;> omega)) (fun c_139 => ?_) (fun c_139 => ?_)
              · exact absurd (by rcases h_136 with ⟨_, z⟩ | ⟨z, _⟩; exact absurd z.2.2 hnl; exact z) c_139
              · skip
                clear h_118 h_127 h_136
                refine R_iconst hX dL_same_142 ?_
                refine R_goto (tgt := 147) hX dL_same_143 (by decide) ?_
                refine R_istore_2 hX c1_r dL_same_147 ?_
                refine R_goto (tgt := 247) hX dL_same_148 (by decide) ?_
                clear h_44 h_58 h_72 h_86 hdk hac
                refine R_iinc_3 hX c1_i dL_same_247 ?_
                refine R_goto (tgt := 30) hX dL_same_250 (by decide) ?_
                exact ih_30 _ (by omega) (by omega)
  exact lp_30 8 _ (by omega) (by omega)
