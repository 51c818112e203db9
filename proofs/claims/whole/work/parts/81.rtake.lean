/-- what was read is taken -/
def tcS : Nat → Hp → Hp
  | 0, F => F
  | k + 1, F => up (up (up (up (tcS k F) 150 k (F 154 k)) 151 k (F 155 k)) 152 k (F 156 k)) 153 k (F 157 k)
def zrS (k : Int) (F : Hp) : Hp := fun a i => if a = 137 ∧ 0 ≤ i ∧ i < k then 0 else F a i
def tn1 (k : Int) (F G : Hp) : Hp := up (up (up (up (up (up (up (up (up (up (up G 139 k (F 140 k)) 141 k (F 147 k)) 137 (99 + k) (F 148 (7 * k))) 137 (111 + k) (F 148 (7 * k + 1))) 142 k (F 148 (7 * k + 2))) 143 k (F 148 (7 * k + 3))) 137 (123 + k) (F 148 (7 * k + 4))) 144 k (F 148 (7 * k + 5))) 145 k (if F 148 (7 * k + 6) = 1 then 1 else 0)) 137 (3 + k) (F 148 (7 * k + 2))) 137 (27 + k) (F 148 (7 * k + 2))
def tnS : Nat → Hp → Hp
  | 0, F => F
  | k + 1, F => tn1 k F (tnS k F)
theorem tcS_s {i : Int} {F : Hp} (h : 0 ≤ i) : tcS (i + 1).toNat F = up (up (up (up (tcS i.toNat F) 150 i (F 154 i)) 151 i (F 155 i)) 152 i (F 156 i)) 153 i (F 157 i) := by
  obtain ⟨k, rfl⟩ : ∃ k : Nat, i = k := ⟨i.toNat, by omega⟩
  rfl
theorem tnS_s {i : Int} {F : Hp} (h : 0 ≤ i) : tnS (i + 1).toNat F = tn1 i F (tnS i.toNat F) := by
  obtain ⟨k, rfl⟩ : ∃ k : Nat, i = k := ⟨i.toNat, by omega⟩
  rfl
theorem tcS_r {a : Int} (h : a < 150 ∨ 153 < a) : ∀ (k : Nat) (F : Hp), tcS k F a = F a
  | 0, F => rfl
  | k + 1, F => by
    unfold tcS
    rw [up_r (by omega), up_r (by omega), up_r (by omega), up_r (by omega), tcS_r h k F]
theorem tnS_r {a : Int} (h : a ≠ 137 ∧ a ≠ 139 ∧ (a < 141 ∨ 145 < a)) : ∀ (k : Nat) (F : Hp), tnS k F a = F a
  | 0, F => rfl
  | k + 1, F => by
    unfold tnS tn1
    rw [up_r (by omega), up_r (by omega), up_r (by omega), up_r (by omega), up_r (by omega), up_r (by omega), up_r (by omega), up_r (by omega), up_r (by omega), up_r (by omega), up_r (by omega), tnS_r h k F]
theorem zrS_r {k a : Int} {F : Hp} (h : a ≠ 137) : zrS k F a = F a := by funext i; exact if_neg (fun z => h z.1)
theorem zrS_0 {F : Hp} : zrS 0 F = F := by funext a i; exact if_neg (fun z => by have := z.2; omega)
theorem zrS_s {k : Int} {F : Hp} (h : 0 ≤ k) : up (zrS k F) 137 k 0 = zrS (k + 1) F := by
  funext a i
  by_cases q : a = 137 ∧ i = k
  · rw [q.1, q.2, up_s]
    exact (if_pos ⟨rfl, by omega, by omega⟩).symm
  · rw [up_n q]
    unfold zrS
    by_cases p : a = 137 ∧ 0 ≤ i ∧ i < k
    · rw [if_pos p, if_pos (by omega)]
    · rw [if_neg p, if_neg (by omega)]
def tkH (F : Hp) : Hp := up (up (up (up F 136 3 (F 136 22)) 136 4 (F 136 23)) 136 5 (if F 136 26 = 0 then -1 else F 136 24)) 136 38 (F 136 39)
def tkZ (F : Hp) : Hp := zrS 819 (up (up (tcS (F 136 39).toNat (tkH F)) 138 0 0) 138 1 0)
def tkR (F : Hp) : Hp := tnS (F 136 22).toNat (tkZ F)
theorem tkZ_f {F : Hp} {i : Int} : tkZ F 136 i = tkH F 136 i := by
  unfold tkZ
  rw [zrS_r (by decide), up_k (by decide), up_k (by decide), tcS_r (by decide)]
set_option maxRecDepth 100000 in
set_option maxHeartbeats 4000000 in
theorem r_takes {V : VX} {F : Hp} (h6 : 0 ≤ F 136 22 ∧ F 136 22 ≤ 12) (h7 : 0 ≤ F 136 39 ∧ F 136 39 ≤ 12) (h10 : F 136 26 = 0 ∨ F 136 26 = 1) (h6s : ∀ d : Int, 0 ≤ d → d < F 136 22 → F 148 (7 * d + 6) = 0 ∨ F 148 (7 * d + 6) = 1)  : Ct V yX12_takes cX12_takes 2 none 0 0 0 0 SH [vr V 136] F SH 0 (fun r F' => F' = tkR F) := by
  refine Ct.of [some (vr V 136), none] (by decide) (by simp [lg_sl, vi_cat, vl_cat, vr_cat]) rfl (by simp [asc, lv_args, vi_cat, vl_cat, vr_cat]) (fun X hV hX => ?_)
  subst hV
  refine R_aload_0 hX dX12_takes_0 ?_
  refine R_aload_0 hX dX12_takes_1 ?_
  refine R_geti hX dX12_takes_2 fl_X12_182 o_136 rfl ?_
  try simp (disch := omega) only [up_i, up_k, up_s, tcS_r, tnS_r, zrS_r]
  refine R_puti hX dX12_takes_5 fl_X12_91 o_136 rfl ?_
  refine R_aload_0 hX dX12_takes_8 ?_
  refine R_aload_0 hX dX12_takes_9 ?_
  refine R_geti hX dX12_takes_10 fl_X12_221 o_136 rfl ?_
  try simp (disch := omega) only [up_i, up_k, up_s, tcS_r, tnS_r, zrS_r]
  refine R_puti hX dX12_takes_13 fl_X12_17 o_136 rfl ?_
  refine R_aload_0 hX dX12_takes_16 ?_
  refine R_aload_0 hX dX12_takes_17 ?_
  refine R_getz hX dX12_takes_18 fl_X12_224 o_136 rfl ?_
  try simp (disch := omega) only [up_i, up_k, up_s, tcS_r, tnS_r, zrS_r]
  refine R_ifeq (tgt := 31) hX dX12_takes_21 (by decide) (by constructor <;> first | omega | (simp (disch := omega) only [up_k, up_i, up_s]; omega)) (fun c_21 => ?_) (fun c_21 => ?_)
  · skip
    refine R_iconst hX dX12_takes_31 ?_
    refine R_puti hX dX12_takes_32 fl_X12_21 o_136 rfl ?_
    refine R_aload_0 hX dX12_takes_35 ?_
    refine R_aload_0 hX dX12_takes_36 ?_
    refine R_geti hX dX12_takes_37 fl_X12_205 o_136 rfl ?_
    try simp (disch := omega) only [up_i, up_k, up_s, tcS_r, tnS_r, zrS_r]
    refine R_puti hX dX12_takes_40 fl_X12_208 o_136 rfl ?_
    refine R.eq rfl rfl (show _ = tkH F by unfold tkH; first | (rw [if_pos (by omega)]; done) | (rw [if_neg (by omega)]; done)) ?_
    obtain ⟨A, hA⟩ : ∃ A : Hp, A = tkH F := ⟨_, rfl⟩
    rw [← hA]
    have a3 : A 136 3 = F 136 22 := by rw [hA]; unfold tkH; rw [up_i (by decide), up_i (by decide), up_i (by decide), up_s]
    have a38 : A 136 38 = F 136 39 := by rw [hA]; unfold tkH; exact up_s
    refine R_iconst hX dX12_takes_43 ?_
    refine R_istore_1 hX c1_r dX12_takes_44 ?_
    have lp_45 : ∀ (n : Nat) (x : Int), (0 ≤ x ∧ x ≤ F 136 39) → (13 - x).toNat < n → R X SH 0 0 45 [some (vr (xV X) 136), some (vi x)] [] (tcS x.toNat A) (Zq X SH 0 (fun r F' => F' = tkR F) 0 0) := by
      intro n
      induction n with
      | zero => intro x iv45_0 hm; exact absurd hm (Nat.not_lt_zero _)
      | succ n ih_45 =>
        intro x iv45_0 hm_45
        refine R_iload_1 hX dX12_takes_45 ?_
        refine R_aload_0 hX dX12_takes_46 ?_
        refine R_geti hX dX12_takes_47 fl_X12_208 o_136 rfl ?_
        try simp (disch := omega) only [up_i, up_k, up_s, tcS_r, tnS_r, zrS_r]
        refine R_icmpge (tgt := 107) hX dX12_takes_50 (by decide) (by constructor <;> first | omega | (simp (disch := omega) only [up_k, up_i, up_s]; omega)) (by constructor <;> first | omega | (simp (disch := omega) only [up_k, up_i, up_s]; omega)) (fun c_50 => ?_) (fun c_50 => ?_)
        · skip
          have hx1 : x = F 136 39 := by omega
          subst hx1
          refine R_aload_0 hX dX12_takes_107 ?_
          refine R_getq (v := 138) hX dX12_takes_108 fl_X12_13 o_136 rfl (by omega) ?_
          refine R_iconst hX dX12_takes_111 ?_
          refine R_iconst hX dX12_takes_112 ?_
          refine R_zast hX dX12_takes_113 a_138 ⟨by omega, by omega⟩ (Or.inl rfl) ?_
          refine R_aload_0 hX dX12_takes_114 ?_
          refine R_getq (v := 138) hX dX12_takes_115 fl_X12_13 o_136 rfl (by omega) ?_
          refine R_iconst hX dX12_takes_118 ?_
          refine R_iconst hX dX12_takes_119 ?_
          refine R_zast hX dX12_takes_120 a_138 ⟨by omega, by omega⟩ (Or.inl rfl) ?_
          obtain ⟨B, hB⟩ : ∃ B : Hp, B = up (up (tcS (F 136 39).toNat A) 138 0 0) 138 1 0 := ⟨_, rfl⟩
          rw [← hB]
          have b3 : B 136 3 = F 136 22 := by rw [hB, up_k (by decide), up_k (by decide), tcS_r (by decide)]; exact a3
          refine R_iconst hX dX12_takes_121 ?_
          refine R_istore_1 hX c1_r dX12_takes_122 ?_
          have lp_123 : ∀ (n : Nat) (y : Int), (0 ≤ y ∧ y ≤ 819) → (820 - y).toNat < n → R X SH 0 0 123 [some (vr (xV X) 136), some (vi y)] [] (zrS y B) (Zq X SH 0 (fun r F' => F' = tkR F) 0 0) := by
            intro n
            induction n with
            | zero => intro y iv123_0 hm; exact absurd hm (Nat.not_lt_zero _)
            | succ n ih_123 =>
              intro y iv123_0 hm_123
              refine R_iload_1 hX dX12_takes_123 ?_
              refine R_sipush hX dX12_takes_124 (by decide) ?_
              refine R_icmpge (tgt := 143) hX dX12_takes_127 (by decide) (by constructor <;> first | omega | (simp (disch := omega) only [up_k, up_i, up_s]; omega)) (by constructor <;> first | omega | (simp (disch := omega) only [up_k, up_i, up_s]; omega)) (fun c_127 => ?_) (fun c_127 => ?_)
              · skip
                have hx2 : y = 819 := by omega
                subst hx2
                obtain ⟨C, hC⟩ : ∃ C : Hp, C = zrS 819 B := ⟨_, rfl⟩
                rw [← hC]
                have c8 : C 148 = F 148 := by rw [hC, zrS_r (by decide), hB, up_r (by decide), up_r (by decide), tcS_r (by decide), hA]; unfold tkH; rw [up_r (by decide), up_r (by decide), up_r (by decide), up_r (by decide)]
                have c3 : C 136 3 = F 136 22 := by rw [hC, zrS_r (by decide)]; exact b3
                refine R_iconst hX dX12_takes_143 ?_
                refine R_istore_1 hX c1_r dX12_takes_144 ?_
                have lp_145 : ∀ (n : Nat) (w : Int), (0 ≤ w ∧ w ≤ F 136 22) → (13 - w).toNat < n → R X SH 0 0 145 [some (vr (xV X) 136), some (vi w)] [] (tnS w.toNat C) (Zq X SH 0 (fun r F' => F' = tkR F) 0 0) := by
                  intro n
                  induction n with
                  | zero => intro w iv145_0 hm; exact absurd hm (Nat.not_lt_zero _)
                  | succ n ih_145 =>
                    intro w iv145_0 hm_145
                    refine R_iload_1 hX dX12_takes_145 ?_
                    refine R_aload_0 hX dX12_takes_146 ?_
                    refine R_geti hX dX12_takes_147 fl_X12_91 o_136 rfl ?_
                    try simp (disch := omega) only [up_i, up_k, up_s, tcS_r, tnS_r, zrS_r]
                    refine R_icmpge (tgt := 348) hX dX12_takes_150 (by decide) (by constructor <;> first | omega | (simp (disch := omega) only [up_k, up_i, up_s]; omega)) (by constructor <;> first | omega | (simp (disch := omega) only [up_k, up_i, up_s]; omega)) (fun c_150 => ?_) (fun c_150 => ?_)
                    · skip
                      exact R_vret hX dX12_takes_348 (by unfold tkR tkZ; rw [← hA, ← hB, ← hC, show w = F 136 22 by omega])
                    · skip
                      refine R_aload_0 hX dX12_takes_153 ?_
                      refine R_getq (v := 139) hX dX12_takes_154 fl_X12_24 o_136 rfl (by omega) ?_
                      refine R_iload_1 hX dX12_takes_157 ?_
                      refine R_aload_0 hX dX12_takes_158 ?_
                      refine R_getq (v := 140) hX dX12_takes_159 fl_X12_28 o_136 rfl (by omega) ?_
                      refine R_iload_1 hX dX12_takes_162 ?_
                      refine R_lald hX dX12_takes_163 a_140 ⟨by omega, by omega⟩ ?_
                      try simp (disch := omega) only [up_i, up_k, up_s, tcS_r, tnS_r, zrS_r]
                      refine R_last hX dX12_takes_164 a_139 ⟨by omega, by omega⟩ ?_
                      refine R_aload_0 hX dX12_takes_165 ?_
                      refine R_getq (v := 141) hX dX12_takes_166 fl_X12_31 o_136 rfl (by omega) ?_
                      refine R_iload_1 hX dX12_takes_169 ?_
                      refine R_aload_0 hX dX12_takes_170 ?_
                      refine R_getq (v := 147) hX dX12_takes_171 fl_X12_52 o_136 rfl (by omega) ?_
                      refine R_iload_1 hX dX12_takes_174 ?_
                      refine R_iald hX dX12_takes_175 a_147 ⟨by omega, by omega⟩ ?_
                      try simp (disch := omega) only [up_i, up_k, up_s, tcS_r, tnS_r, zrS_r]
                      refine R_iast hX dX12_takes_176 a_141 ⟨by omega, by omega⟩ ?_
                      refine R_aload_0 hX dX12_takes_177 ?_
                      refine R_getq (v := 137) hX dX12_takes_178 fl_X12_7 o_136 rfl (by omega) ?_
                      refine R_bipush hX dX12_takes_181 (by decide) ?_
                      refine R_iload_1 hX dX12_takes_183 ?_
                      refine R_iadd hX dX12_takes_184 ?_
                      refine R_aload_0 hX dX12_takes_185 ?_
                      refine R_getq (v := 148) hX dX12_takes_186 fl_X12_55 o_136 rfl (by omega) ?_
                      refine R_bipush hX dX12_takes_189 (by decide) ?_
                      refine R_iload_1 hX dX12_takes_191 ?_
                      refine R_imul hX dX12_takes_192 ?_
                      refine R_iald hX dX12_takes_193 a_148 ⟨by omega, by omega⟩ ?_
                      try simp (disch := omega) only [up_i, up_k, up_s, tcS_r, tnS_r, zrS_r]
                      refine R_iast hX dX12_takes_194 a_137 ⟨by omega, by omega⟩ ?_
                      refine R_aload_0 hX dX12_takes_195 ?_
                      refine R_getq (v := 137) hX dX12_takes_196 fl_X12_7 o_136 rfl (by omega) ?_
                      refine R_bipush hX dX12_takes_199 (by decide) ?_
                      refine R_iload_1 hX dX12_takes_201 ?_
                      refine R_iadd hX dX12_takes_202 ?_
                      refine R_aload_0 hX dX12_takes_203 ?_
                      refine R_getq (v := 148) hX dX12_takes_204 fl_X12_55 o_136 rfl (by omega) ?_
                      refine R_bipush hX dX12_takes_207 (by decide) ?_
                      refine R_iload_1 hX dX12_takes_209 ?_
                      refine R_imul hX dX12_takes_210 ?_
                      refine R_iconst hX dX12_takes_211 ?_
                      refine R_iadd hX dX12_takes_212 ?_
                      refine R_iald hX dX12_takes_213 a_148 ⟨by omega, by omega⟩ ?_
                      try simp (disch := omega) only [up_i, up_k, up_s, tcS_r, tnS_r, zrS_r]
                      refine R_iast hX dX12_takes_214 a_137 ⟨by omega, by omega⟩ ?_
                      refine R_aload_0 hX dX12_takes_215 ?_
                      refine R_getq (v := 142) hX dX12_takes_216 fl_X12_34 o_136 rfl (by omega) ?_
                      refine R_iload_1 hX dX12_takes_219 ?_
                      refine R_aload_0 hX dX12_takes_220 ?_
                      refine R_getq (v := 148) hX dX12_takes_221 fl_X12_55 o_136 rfl (by omega) ?_
                      refine R_bipush hX dX12_takes_224 (by decide) ?_
                      refine R_iload_1 hX dX12_takes_226 ?_
                      refine R_imul hX dX12_takes_227 ?_
                      refine R_iconst hX dX12_takes_228 ?_
                      refine R_iadd hX dX12_takes_229 ?_
                      refine R_iald hX dX12_takes_230 a_148 ⟨by omega, by omega⟩ ?_
                      try simp (disch := omega) only [up_i, up_k, up_s, tcS_r, tnS_r, zrS_r]
                      refine R_iast hX dX12_takes_231 a_142 ⟨by omega, by omega⟩ ?_
                      refine R_aload_0 hX dX12_takes_232 ?_
                      refine R_getq (v := 143) hX dX12_takes_233 fl_X12_37 o_136 rfl (by omega) ?_
                      refine R_iload_1 hX dX12_takes_236 ?_
                      refine R_aload_0 hX dX12_takes_237 ?_
                      refine R_getq (v := 148) hX dX12_takes_238 fl_X12_55 o_136 rfl (by omega) ?_
                      refine R_bipush hX dX12_takes_241 (by decide) ?_
                      refine R_iload_1 hX dX12_takes_243 ?_
                      refine R_imul hX dX12_takes_244 ?_
                      refine R_iconst hX dX12_takes_245 ?_
                      refine R_iadd hX dX12_takes_246 ?_
                      refine R_iald hX dX12_takes_247 a_148 ⟨by omega, by omega⟩ ?_
                      try simp (disch := omega) only [up_i, up_k, up_s, tcS_r, tnS_r, zrS_r]
                      refine R_iast hX dX12_takes_248 a_143 ⟨by omega, by omega⟩ ?_
                      refine R_aload_0 hX dX12_takes_249 ?_
                      refine R_getq (v := 137) hX dX12_takes_250 fl_X12_7 o_136 rfl (by omega) ?_
                      refine R_bipush hX dX12_takes_253 (by decide) ?_
                      refine R_iload_1 hX dX12_takes_255 ?_
                      refine R_iadd hX dX12_takes_256 ?_
                      refine R_aload_0 hX dX12_takes_257 ?_
                      refine R_getq (v := 148) hX dX12_takes_258 fl_X12_55 o_136 rfl (by omega) ?_
                      refine R_bipush hX dX12_takes_261 (by decide) ?_
                      refine R_iload_1 hX dX12_takes_263 ?_
                      refine R_imul hX dX12_takes_264 ?_
                      refine R_iconst hX dX12_takes_265 ?_
                      refine R_iadd hX dX12_takes_266 ?_
                      refine R_iald hX dX12_takes_267 a_148 ⟨by omega, by omega⟩ ?_
                      try simp (disch := omega) only [up_i, up_k, up_s, tcS_r, tnS_r, zrS_r]
                      refine R_iast hX dX12_takes_268 a_137 ⟨by omega, by omega⟩ ?_
                      refine R_aload_0 hX dX12_takes_269 ?_
                      refine R_getq (v := 144) hX dX12_takes_270 fl_X12_40 o_136 rfl (by omega) ?_
                      refine R_iload_1 hX dX12_takes_273 ?_
                      refine R_aload_0 hX dX12_takes_274 ?_
                      refine R_getq (v := 148) hX dX12_takes_275 fl_X12_55 o_136 rfl (by omega) ?_
                      refine R_bipush hX dX12_takes_278 (by decide) ?_
                      refine R_iload_1 hX dX12_takes_280 ?_
                      refine R_imul hX dX12_takes_281 ?_
                      refine R_iconst hX dX12_takes_282 ?_
                      refine R_iadd hX dX12_takes_283 ?_
                      refine R_iald hX dX12_takes_284 a_148 ⟨by omega, by omega⟩ ?_
                      try simp (disch := omega) only [up_i, up_k, up_s, tcS_r, tnS_r, zrS_r]
                      refine R_iast hX dX12_takes_285 a_144 ⟨by omega, by omega⟩ ?_
                      refine R_aload_0 hX dX12_takes_286 ?_
                      refine R_getq (v := 145) hX dX12_takes_287 fl_X12_43 o_136 rfl (by omega) ?_
                      refine R_iload_1 hX dX12_takes_290 ?_
                      refine R_aload_0 hX dX12_takes_291 ?_
                      refine R_getq (v := 148) hX dX12_takes_292 fl_X12_55 o_136 rfl (by omega) ?_
                      refine R_bipush hX dX12_takes_295 (by decide) ?_
                      refine R_iload_1 hX dX12_takes_297 ?_
                      refine R_imul hX dX12_takes_298 ?_
                      refine R_bipush hX dX12_takes_299 (by decide) ?_
                      refine R_iadd hX dX12_takes_301 ?_
                      refine R_iald hX dX12_takes_302 a_148 ⟨by omega, by omega⟩ ?_
                      try simp (disch := omega) only [up_i, up_k, up_s, tcS_r, tnS_r, zrS_r]
                      refine R_iconst hX dX12_takes_303 ?_
                      refine R_icmpne (tgt := 311) hX dX12_takes_304 (by decide) (by rw [c8]; have z := h6s w (by omega) (by omega); constructor <;> omega) (by constructor <;> first | omega | (simp (disch := omega) only [up_k, up_i, up_s]; omega)) (fun c_304 => ?_) (fun c_304 => ?_)
                      · skip
                        refine R_iconst hX dX12_takes_311 ?_
                        refine R_zast hX dX12_takes_312 a_145 ⟨by omega, by omega⟩ (by omega) ?_
                        refine R_aload_0 hX dX12_takes_313 ?_
                        refine R_getq (v := 137) hX dX12_takes_314 fl_X12_7 o_136 rfl (by omega) ?_
                        refine R_iconst hX dX12_takes_317 ?_
                        refine R_iload_1 hX dX12_takes_318 ?_
                        refine R_iadd hX dX12_takes_319 ?_
                        refine R_aload_0 hX dX12_takes_320 ?_
                        refine R_getq (v := 142) hX dX12_takes_321 fl_X12_34 o_136 rfl (by omega) ?_
                        refine R_iload_1 hX dX12_takes_324 ?_
                        refine R_iald hX dX12_takes_325 a_142 ⟨by omega, by omega⟩ ?_
                        try simp (disch := omega) only [up_i, up_k, up_s, tcS_r, tnS_r, zrS_r]
                        refine R_iast hX dX12_takes_326 a_137 ⟨by omega, by omega⟩ ?_
                        refine R_aload_0 hX dX12_takes_327 ?_
                        refine R_getq (v := 137) hX dX12_takes_328 fl_X12_7 o_136 rfl (by omega) ?_
                        refine R_bipush hX dX12_takes_331 (by decide) ?_
                        refine R_iload_1 hX dX12_takes_333 ?_
                        refine R_iadd hX dX12_takes_334 ?_
                        refine R_aload_0 hX dX12_takes_335 ?_
                        refine R_getq (v := 142) hX dX12_takes_336 fl_X12_34 o_136 rfl (by omega) ?_
                        refine R_iload_1 hX dX12_takes_339 ?_
                        refine R_iald hX dX12_takes_340 a_142 ⟨by omega, by omega⟩ ?_
                        try simp (disch := omega) only [up_i, up_k, up_s, tcS_r, tnS_r, zrS_r]
                        refine R_iast hX dX12_takes_341 a_137 ⟨by omega, by omega⟩ ?_
                        refine R.eq rfl rfl (show _ = tnS (w + 1).toNat C by rw [tnS_s (by omega)]; unfold tn1; first | (rw [if_pos (by omega)]; done) | (rw [if_neg (by omega)]; done)) ?_
                        refine R_iinc_1 hX c1_r dX12_takes_342 ?_
                        refine R_goto (tgt := 145) hX dX12_takes_345 (by decide) ?_
                        exact ih_145 (w + 1) (by omega) (by omega)
                      · skip
                        refine R_iconst hX dX12_takes_307 ?_
                        refine R_goto (tgt := 312) hX dX12_takes_308 (by decide) ?_
                        refine R_zast hX dX12_takes_312 a_145 ⟨by omega, by omega⟩ (by omega) ?_
                        refine R_aload_0 hX dX12_takes_313 ?_
                        refine R_getq (v := 137) hX dX12_takes_314 fl_X12_7 o_136 rfl (by omega) ?_
                        refine R_iconst hX dX12_takes_317 ?_
                        refine R_iload_1 hX dX12_takes_318 ?_
                        refine R_iadd hX dX12_takes_319 ?_
                        refine R_aload_0 hX dX12_takes_320 ?_
                        refine R_getq (v := 142) hX dX12_takes_321 fl_X12_34 o_136 rfl (by omega) ?_
                        refine R_iload_1 hX dX12_takes_324 ?_
                        refine R_iald hX dX12_takes_325 a_142 ⟨by omega, by omega⟩ ?_
                        try simp (disch := omega) only [up_i, up_k, up_s, tcS_r, tnS_r, zrS_r]
                        refine R_iast hX dX12_takes_326 a_137 ⟨by omega, by omega⟩ ?_
                        refine R_aload_0 hX dX12_takes_327 ?_
                        refine R_getq (v := 137) hX dX12_takes_328 fl_X12_7 o_136 rfl (by omega) ?_
                        refine R_bipush hX dX12_takes_331 (by decide) ?_
                        refine R_iload_1 hX dX12_takes_333 ?_
                        refine R_iadd hX dX12_takes_334 ?_
                        refine R_aload_0 hX dX12_takes_335 ?_
                        refine R_getq (v := 142) hX dX12_takes_336 fl_X12_34 o_136 rfl (by omega) ?_
                        refine R_iload_1 hX dX12_takes_339 ?_
                        refine R_iald hX dX12_takes_340 a_142 ⟨by omega, by omega⟩ ?_
                        try simp (disch := omega) only [up_i, up_k, up_s, tcS_r, tnS_r, zrS_r]
                        refine R_iast hX dX12_takes_341 a_137 ⟨by omega, by omega⟩ ?_
                        refine R.eq rfl rfl (show _ = tnS (w + 1).toNat C by rw [tnS_s (by omega)]; unfold tn1; first | (rw [if_pos (by omega)]; done) | (rw [if_neg (by omega)]; done)) ?_
                        refine R_iinc_1 hX c1_r dX12_takes_342 ?_
                        refine R_goto (tgt := 145) hX dX12_takes_345 (by decide) ?_
                        exact ih_145 (w + 1) (by omega) (by omega)
                exact lp_145 14 0 (by omega) (by omega)
              · skip
                refine R_aload_0 hX dX12_takes_130 ?_
                refine R_getq (v := 137) hX dX12_takes_131 fl_X12_7 o_136 rfl (by omega) ?_
                refine R_iload_1 hX dX12_takes_134 ?_
                refine R_iconst hX dX12_takes_135 ?_
                refine R_iast hX dX12_takes_136 a_137 ⟨by omega, by omega⟩ ?_
                refine R.eq rfl rfl (zrS_s (by omega)) ?_
                refine R_iinc_1 hX c1_r dX12_takes_137 ?_
                refine R_goto (tgt := 123) hX dX12_takes_140 (by decide) ?_
                exact ih_123 (y + 1) (by omega) (by omega)
          refine R.eq rfl rfl zrS_0.symm ?_
          exact lp_123 822 0 (by omega) (by omega)
        · skip
          refine R_aload_0 hX dX12_takes_53 ?_
          refine R_getq (v := 150) hX dX12_takes_54 fl_X12_61 o_136 rfl (by omega) ?_
          refine R_iload_1 hX dX12_takes_57 ?_
          refine R_aload_0 hX dX12_takes_58 ?_
          refine R_getq (v := 154) hX dX12_takes_59 fl_X12_73 o_136 rfl (by omega) ?_
          refine R_iload_1 hX dX12_takes_62 ?_
          refine R_iald hX dX12_takes_63 a_154 ⟨by omega, by omega⟩ ?_
          try simp (disch := omega) only [up_i, up_k, up_s, tcS_r, tnS_r, zrS_r]
          refine R_iast hX dX12_takes_64 a_150 ⟨by omega, by omega⟩ ?_
          refine R_aload_0 hX dX12_takes_65 ?_
          refine R_getq (v := 151) hX dX12_takes_66 fl_X12_64 o_136 rfl (by omega) ?_
          refine R_iload_1 hX dX12_takes_69 ?_
          refine R_aload_0 hX dX12_takes_70 ?_
          refine R_getq (v := 155) hX dX12_takes_71 fl_X12_76 o_136 rfl (by omega) ?_
          refine R_iload_1 hX dX12_takes_74 ?_
          refine R_iald hX dX12_takes_75 a_155 ⟨by omega, by omega⟩ ?_
          try simp (disch := omega) only [up_i, up_k, up_s, tcS_r, tnS_r, zrS_r]
          refine R_iast hX dX12_takes_76 a_151 ⟨by omega, by omega⟩ ?_
          refine R_aload_0 hX dX12_takes_77 ?_
          refine R_getq (v := 152) hX dX12_takes_78 fl_X12_67 o_136 rfl (by omega) ?_
          refine R_iload_1 hX dX12_takes_81 ?_
          refine R_aload_0 hX dX12_takes_82 ?_
          refine R_getq (v := 156) hX dX12_takes_83 fl_X12_79 o_136 rfl (by omega) ?_
          refine R_iload_1 hX dX12_takes_86 ?_
          refine R_iald hX dX12_takes_87 a_156 ⟨by omega, by omega⟩ ?_
          try simp (disch := omega) only [up_i, up_k, up_s, tcS_r, tnS_r, zrS_r]
          refine R_iast hX dX12_takes_88 a_152 ⟨by omega, by omega⟩ ?_
          refine R_aload_0 hX dX12_takes_89 ?_
          refine R_getq (v := 153) hX dX12_takes_90 fl_X12_70 o_136 rfl (by omega) ?_
          refine R_iload_1 hX dX12_takes_93 ?_
          refine R_aload_0 hX dX12_takes_94 ?_
          refine R_getq (v := 157) hX dX12_takes_95 fl_X12_82 o_136 rfl (by omega) ?_
          refine R_iload_1 hX dX12_takes_98 ?_
          refine R_iald hX dX12_takes_99 a_157 ⟨by omega, by omega⟩ ?_
          try simp (disch := omega) only [up_i, up_k, up_s, tcS_r, tnS_r, zrS_r]
          refine R_iast hX dX12_takes_100 a_153 ⟨by omega, by omega⟩ ?_
          refine R.eq rfl rfl (tcS_s (by omega)).symm ?_
          refine R_iinc_1 hX c1_r dX12_takes_101 ?_
          refine R_goto (tgt := 45) hX dX12_takes_104 (by decide) ?_
          exact ih_45 (x + 1) (by omega) (by omega)
    exact lp_45 14 0 (by omega) (by omega)
  · skip
    refine R_aload_0 hX dX12_takes_24 ?_
    refine R_geti hX dX12_takes_25 fl_X12_227 o_136 rfl ?_
    try simp (disch := omega) only [up_i, up_k, up_s, tcS_r, tnS_r, zrS_r]
    refine R_goto (tgt := 32) hX dX12_takes_28 (by decide) ?_
    refine R_puti hX dX12_takes_32 fl_X12_21 o_136 rfl ?_
    refine R_aload_0 hX dX12_takes_35 ?_
    refine R_aload_0 hX dX12_takes_36 ?_
    refine R_geti hX dX12_takes_37 fl_X12_205 o_136 rfl ?_
    try simp (disch := omega) only [up_i, up_k, up_s, tcS_r, tnS_r, zrS_r]
    refine R_puti hX dX12_takes_40 fl_X12_208 o_136 rfl ?_
    refine R.eq rfl rfl (show _ = tkH F by unfold tkH; first | (rw [if_pos (by omega)]; done) | (rw [if_neg (by omega)]; done)) ?_
    obtain ⟨A, hA⟩ : ∃ A : Hp, A = tkH F := ⟨_, rfl⟩
    rw [← hA]
    have a3 : A 136 3 = F 136 22 := by rw [hA]; unfold tkH; rw [up_i (by decide), up_i (by decide), up_i (by decide), up_s]
    have a38 : A 136 38 = F 136 39 := by rw [hA]; unfold tkH; exact up_s
    refine R_iconst hX dX12_takes_43 ?_
    refine R_istore_1 hX c1_r dX12_takes_44 ?_
    have lp_45 : ∀ (n : Nat) (x : Int), (0 ≤ x ∧ x ≤ F 136 39) → (13 - x).toNat < n → R X SH 0 0 45 [some (vr (xV X) 136), some (vi x)] [] (tcS x.toNat A) (Zq X SH 0 (fun r F' => F' = tkR F) 0 0) := by
      intro n
      induction n with
      | zero => intro x iv45_0 hm; exact absurd hm (Nat.not_lt_zero _)
      | succ n ih_45 =>
        intro x iv45_0 hm_45
        refine R_iload_1 hX dX12_takes_45 ?_
        refine R_aload_0 hX dX12_takes_46 ?_
        refine R_geti hX dX12_takes_47 fl_X12_208 o_136 rfl ?_
        try simp (disch := omega) only [up_i, up_k, up_s, tcS_r, tnS_r, zrS_r]
        refine R_icmpge (tgt := 107) hX dX12_takes_50 (by decide) (by constructor <;> first | omega | (simp (disch := omega) only [up_k, up_i, up_s]; omega)) (by constructor <;> first | omega | (simp (disch := omega) only [up_k, up_i, up_s]; omega)) (fun c_50 => ?_) (fun c_50 => ?_)
        · skip
          have hx1 : x = F 136 39 := by omega
          subst hx1
          refine R_aload_0 hX dX12_takes_107 ?_
          refine R_getq (v := 138) hX dX12_takes_108 fl_X12_13 o_136 rfl (by omega) ?_
          refine R_iconst hX dX12_takes_111 ?_
          refine R_iconst hX dX12_takes_112 ?_
          refine R_zast hX dX12_takes_113 a_138 ⟨by omega, by omega⟩ (Or.inl rfl) ?_
          refine R_aload_0 hX dX12_takes_114 ?_
          refine R_getq (v := 138) hX dX12_takes_115 fl_X12_13 o_136 rfl (by omega) ?_
          refine R_iconst hX dX12_takes_118 ?_
          refine R_iconst hX dX12_takes_119 ?_
          refine R_zast hX dX12_takes_120 a_138 ⟨by omega, by omega⟩ (Or.inl rfl) ?_
          obtain ⟨B, hB⟩ : ∃ B : Hp, B = up (up (tcS (F 136 39).toNat A) 138 0 0) 138 1 0 := ⟨_, rfl⟩
          rw [← hB]
          have b3 : B 136 3 = F 136 22 := by rw [hB, up_k (by decide), up_k (by decide), tcS_r (by decide)]; exact a3
          refine R_iconst hX dX12_takes_121 ?_
          refine R_istore_1 hX c1_r dX12_takes_122 ?_
          have lp_123 : ∀ (n : Nat) (y : Int), (0 ≤ y ∧ y ≤ 819) → (820 - y).toNat < n → R X SH 0 0 123 [some (vr (xV X) 136), some (vi y)] [] (zrS y B) (Zq X SH 0 (fun r F' => F' = tkR F) 0 0) := by
            intro n
            induction n with
            | zero => intro y iv123_0 hm; exact absurd hm (Nat.not_lt_zero _)
            | succ n ih_123 =>
              intro y iv123_0 hm_123
              refine R_iload_1 hX dX12_takes_123 ?_
              refine R_sipush hX dX12_takes_124 (by decide) ?_
              refine R_icmpge (tgt := 143) hX dX12_takes_127 (by decide) (by constructor <;> first | omega | (simp (disch := omega) only [up_k, up_i, up_s]; omega)) (by constructor <;> first | omega | (simp (disch := omega) only [up_k, up_i, up_s]; omega)) (fun c_127 => ?_) (fun c_127 => ?_)
              · skip
                have hx2 : y = 819 := by omega
                subst hx2
                obtain ⟨C, hC⟩ : ∃ C : Hp, C = zrS 819 B := ⟨_, rfl⟩
                rw [← hC]
                have c8 : C 148 = F 148 := by rw [hC, zrS_r (by decide), hB, up_r (by decide), up_r (by decide), tcS_r (by decide), hA]; unfold tkH; rw [up_r (by decide), up_r (by decide), up_r (by decide), up_r (by decide)]
                have c3 : C 136 3 = F 136 22 := by rw [hC, zrS_r (by decide)]; exact b3
                refine R_iconst hX dX12_takes_143 ?_
                refine R_istore_1 hX c1_r dX12_takes_144 ?_
                have lp_145 : ∀ (n : Nat) (w : Int), (0 ≤ w ∧ w ≤ F 136 22) → (13 - w).toNat < n → R X SH 0 0 145 [some (vr (xV X) 136), some (vi w)] [] (tnS w.toNat C) (Zq X SH 0 (fun r F' => F' = tkR F) 0 0) := by
                  intro n
                  induction n with
                  | zero => intro w iv145_0 hm; exact absurd hm (Nat.not_lt_zero _)
                  | succ n ih_145 =>
                    intro w iv145_0 hm_145
                    refine R_iload_1 hX dX12_takes_145 ?_
                    refine R_aload_0 hX dX12_takes_146 ?_
                    refine R_geti hX dX12_takes_147 fl_X12_91 o_136 rfl ?_
                    try simp (disch := omega) only [up_i, up_k, up_s, tcS_r, tnS_r, zrS_r]
                    refine R_icmpge (tgt := 348) hX dX12_takes_150 (by decide) (by constructor <;> first | omega | (simp (disch := omega) only [up_k, up_i, up_s]; omega)) (by constructor <;> first | omega | (simp (disch := omega) only [up_k, up_i, up_s]; omega)) (fun c_150 => ?_) (fun c_150 => ?_)
                    · skip
                      exact R_vret hX dX12_takes_348 (by unfold tkR tkZ; rw [← hA, ← hB, ← hC, show w = F 136 22 by omega])
                    · skip
                      refine R_aload_0 hX dX12_takes_153 ?_
                      refine R_getq (v := 139) hX dX12_takes_154 fl_X12_24 o_136 rfl (by omega) ?_
                      refine R_iload_1 hX dX12_takes_157 ?_
                      refine R_aload_0 hX dX12_takes_158 ?_
                      refine R_getq (v := 140) hX dX12_takes_159 fl_X12_28 o_136 rfl (by omega) ?_
                      refine R_iload_1 hX dX12_takes_162 ?_
                      refine R_lald hX dX12_takes_163 a_140 ⟨by omega, by omega⟩ ?_
                      try simp (disch := omega) only [up_i, up_k, up_s, tcS_r, tnS_r, zrS_r]
                      refine R_last hX dX12_takes_164 a_139 ⟨by omega, by omega⟩ ?_
                      refine R_aload_0 hX dX12_takes_165 ?_
                      refine R_getq (v := 141) hX dX12_takes_166 fl_X12_31 o_136 rfl (by omega) ?_
                      refine R_iload_1 hX dX12_takes_169 ?_
                      refine R_aload_0 hX dX12_takes_170 ?_
                      refine R_getq (v := 147) hX dX12_takes_171 fl_X12_52 o_136 rfl (by omega) ?_
                      refine R_iload_1 hX dX12_takes_174 ?_
                      refine R_iald hX dX12_takes_175 a_147 ⟨by omega, by omega⟩ ?_
                      try simp (disch := omega) only [up_i, up_k, up_s, tcS_r, tnS_r, zrS_r]
                      refine R_iast hX dX12_takes_176 a_141 ⟨by omega, by omega⟩ ?_
                      refine R_aload_0 hX dX12_takes_177 ?_
                      refine R_getq (v := 137) hX dX12_takes_178 fl_X12_7 o_136 rfl (by omega) ?_
                      refine R_bipush hX dX12_takes_181 (by decide) ?_
                      refine R_iload_1 hX dX12_takes_183 ?_
                      refine R_iadd hX dX12_takes_184 ?_
                      refine R_aload_0 hX dX12_takes_185 ?_
                      refine R_getq (v := 148) hX dX12_takes_186 fl_X12_55 o_136 rfl (by omega) ?_
                      refine R_bipush hX dX12_takes_189 (by decide) ?_
                      refine R_iload_1 hX dX12_takes_191 ?_
                      refine R_imul hX dX12_takes_192 ?_
                      refine R_iald hX dX12_takes_193 a_148 ⟨by omega, by omega⟩ ?_
                      try simp (disch := omega) only [up_i, up_k, up_s, tcS_r, tnS_r, zrS_r]
                      refine R_iast hX dX12_takes_194 a_137 ⟨by omega, by omega⟩ ?_
                      refine R_aload_0 hX dX12_takes_195 ?_
                      refine R_getq (v := 137) hX dX12_takes_196 fl_X12_7 o_136 rfl (by omega) ?_
                      refine R_bipush hX dX12_takes_199 (by decide) ?_
                      refine R_iload_1 hX dX12_takes_201 ?_
                      refine R_iadd hX dX12_takes_202 ?_
                      refine R_aload_0 hX dX12_takes_203 ?_
                      refine R_getq (v := 148) hX dX12_takes_204 fl_X12_55 o_136 rfl (by omega) ?_
                      refine R_bipush hX dX12_takes_207 (by decide) ?_
                      refine R_iload_1 hX dX12_takes_209 ?_
                      refine R_imul hX dX12_takes_210 ?_
                      refine R_iconst hX dX12_takes_211 ?_
                      refine R_iadd hX dX12_takes_212 ?_
                      refine R_iald hX dX12_takes_213 a_148 ⟨by omega, by omega⟩ ?_
                      try simp (disch := omega) only [up_i, up_k, up_s, tcS_r, tnS_r, zrS_r]
                      refine R_iast hX dX12_takes_214 a_137 ⟨by omega, by omega⟩ ?_
                      refine R_aload_0 hX dX12_takes_215 ?_
                      refine R_getq (v := 142) hX dX12_takes_216 fl_X12_34 o_136 rfl (by omega) ?_
                      refine R_iload_1 hX dX12_takes_219 ?_
                      refine R_aload_0 hX dX12_takes_220 ?_
                      refine R_getq (v := 148) hX dX12_takes_221 fl_X12_55 o_136 rfl (by omega) ?_
                      refine R_bipush hX dX12_takes_224 (by decide) ?_
                      refine R_iload_1 hX dX12_takes_226 ?_
                      refine R_imul hX dX12_takes_227 ?_
                      refine R_iconst hX dX12_takes_228 ?_
                      refine R_iadd hX dX12_takes_229 ?_
                      refine R_iald hX dX12_takes_230 a_148 ⟨by omega, by omega⟩ ?_
                      try simp (disch := omega) only [up_i, up_k, up_s, tcS_r, tnS_r, zrS_r]
                      refine R_iast hX dX12_takes_231 a_142 ⟨by omega, by omega⟩ ?_
                      refine R_aload_0 hX dX12_takes_232 ?_
                      refine R_getq (v := 143) hX dX12_takes_233 fl_X12_37 o_136 rfl (by omega) ?_
                      refine R_iload_1 hX dX12_takes_236 ?_
                      refine R_aload_0 hX dX12_takes_237 ?_
                      refine R_getq (v := 148) hX dX12_takes_238 fl_X12_55 o_136 rfl (by omega) ?_
                      refine R_bipush hX dX12_takes_241 (by decide) ?_
                      refine R_iload_1 hX dX12_takes_243 ?_
                      refine R_imul hX dX12_takes_244 ?_
                      refine R_iconst hX dX12_takes_245 ?_
                      refine R_iadd hX dX12_takes_246 ?_
                      refine R_iald hX dX12_takes_247 a_148 ⟨by omega, by omega⟩ ?_
                      try simp (disch := omega) only [up_i, up_k, up_s, tcS_r, tnS_r, zrS_r]
                      refine R_iast hX dX12_takes_248 a_143 ⟨by omega, by omega⟩ ?_
                      refine R_aload_0 hX dX12_takes_249 ?_
                      refine R_getq (v := 137) hX dX12_takes_250 fl_X12_7 o_136 rfl (by omega) ?_
                      refine R_bipush hX dX12_takes_253 (by decide) ?_
                      refine R_iload_1 hX dX12_takes_255 ?_
                      refine R_iadd hX dX12_takes_256 ?_
                      refine R_aload_0 hX dX12_takes_257 ?_
                      refine R_getq (v := 148) hX dX12_takes_258 fl_X12_55 o_136 rfl (by omega) ?_
                      refine R_bipush hX dX12_takes_261 (by decide) ?_
                      refine R_iload_1 hX dX12_takes_263 ?_
                      refine R_imul hX dX12_takes_264 ?_
                      refine R_iconst hX dX12_takes_265 ?_
                      refine R_iadd hX dX12_takes_266 ?_
                      refine R_iald hX dX12_takes_267 a_148 ⟨by omega, by omega⟩ ?_
                      try simp (disch := omega) only [up_i, up_k, up_s, tcS_r, tnS_r, zrS_r]
                      refine R_iast hX dX12_takes_268 a_137 ⟨by omega, by omega⟩ ?_
                      refine R_aload_0 hX dX12_takes_269 ?_
                      refine R_getq (v := 144) hX dX12_takes_270 fl_X12_40 o_136 rfl (by omega) ?_
                      refine R_iload_1 hX dX12_takes_273 ?_
                      refine R_aload_0 hX dX12_takes_274 ?_
                      refine R_getq (v := 148) hX dX12_takes_275 fl_X12_55 o_136 rfl (by omega) ?_
                      refine R_bipush hX dX12_takes_278 (by decide) ?_
                      refine R_iload_1 hX dX12_takes_280 ?_
                      refine R_imul hX dX12_takes_281 ?_
                      refine R_iconst hX dX12_takes_282 ?_
                      refine R_iadd hX dX12_takes_283 ?_
                      refine R_iald hX dX12_takes_284 a_148 ⟨by omega, by omega⟩ ?_
                      try simp (disch := omega) only [up_i, up_k, up_s, tcS_r, tnS_r, zrS_r]
                      refine R_iast hX dX12_takes_285 a_144 ⟨by omega, by omega⟩ ?_
                      refine R_aload_0 hX dX12_takes_286 ?_
                      refine R_getq (v := 145) hX dX12_takes_287 fl_X12_43 o_136 rfl (by omega) ?_
                      refine R_iload_1 hX dX12_takes_290 ?_
                      refine R_aload_0 hX dX12_takes_291 ?_
                      refine R_getq (v := 148) hX dX12_takes_292 fl_X12_55 o_136 rfl (by omega) ?_
                      refine R_bipush hX dX12_takes_295 (by decide) ?_
                      refine R_iload_1 hX dX12_takes_297 ?_
                      refine R_imul hX dX12_takes_298 ?_
                      refine R_bipush hX dX12_takes_299 (by decide) ?_
                      refine R_iadd hX dX12_takes_301 ?_
                      refine R_iald hX dX12_takes_302 a_148 ⟨by omega, by omega⟩ ?_
                      try simp (disch := omega) only [up_i, up_k, up_s, tcS_r, tnS_r, zrS_r]
                      refine R_iconst hX dX12_takes_303 ?_
                      refine R_icmpne (tgt := 311) hX dX12_takes_304 (by decide) (by rw [c8]; have z := h6s w (by omega) (by omega); constructor <;> omega) (by constructor <;> first | omega | (simp (disch := omega) only [up_k, up_i, up_s]; omega)) (fun c_304 => ?_) (fun c_304 => ?_)
                      · skip
                        refine R_iconst hX dX12_takes_311 ?_
                        refine R_zast hX dX12_takes_312 a_145 ⟨by omega, by omega⟩ (by omega) ?_
                        refine R_aload_0 hX dX12_takes_313 ?_
                        refine R_getq (v := 137) hX dX12_takes_314 fl_X12_7 o_136 rfl (by omega) ?_
                        refine R_iconst hX dX12_takes_317 ?_
                        refine R_iload_1 hX dX12_takes_318 ?_
                        refine R_iadd hX dX12_takes_319 ?_
                        refine R_aload_0 hX dX12_takes_320 ?_
                        refine R_getq (v := 142) hX dX12_takes_321 fl_X12_34 o_136 rfl (by omega) ?_
                        refine R_iload_1 hX dX12_takes_324 ?_
                        refine R_iald hX dX12_takes_325 a_142 ⟨by omega, by omega⟩ ?_
                        try simp (disch := omega) only [up_i, up_k, up_s, tcS_r, tnS_r, zrS_r]
                        refine R_iast hX dX12_takes_326 a_137 ⟨by omega, by omega⟩ ?_
                        refine R_aload_0 hX dX12_takes_327 ?_
                        refine R_getq (v := 137) hX dX12_takes_328 fl_X12_7 o_136 rfl (by omega) ?_
                        refine R_bipush hX dX12_takes_331 (by decide) ?_
                        refine R_iload_1 hX dX12_takes_333 ?_
                        refine R_iadd hX dX12_takes_334 ?_
                        refine R_aload_0 hX dX12_takes_335 ?_
                        refine R_getq (v := 142) hX dX12_takes_336 fl_X12_34 o_136 rfl (by omega) ?_
                        refine R_iload_1 hX dX12_takes_339 ?_
                        refine R_iald hX dX12_takes_340 a_142 ⟨by omega, by omega⟩ ?_
                        try simp (disch := omega) only [up_i, up_k, up_s, tcS_r, tnS_r, zrS_r]
                        refine R_iast hX dX12_takes_341 a_137 ⟨by omega, by omega⟩ ?_
                        refine R.eq rfl rfl (show _ = tnS (w + 1).toNat C by rw [tnS_s (by omega)]; unfold tn1; first | (rw [if_pos (by omega)]; done) | (rw [if_neg (by omega)]; done)) ?_
                        refine R_iinc_1 hX c1_r dX12_takes_342 ?_
                        refine R_goto (tgt := 145) hX dX12_takes_345 (by decide) ?_
                        exact ih_145 (w + 1) (by omega) (by omega)
                      · skip
                        refine R_iconst hX dX12_takes_307 ?_
                        refine R_goto (tgt := 312) hX dX12_takes_308 (by decide) ?_
                        refine R_zast hX dX12_takes_312 a_145 ⟨by omega, by omega⟩ (by omega) ?_
                        refine R_aload_0 hX dX12_takes_313 ?_
                        refine R_getq (v := 137) hX dX12_takes_314 fl_X12_7 o_136 rfl (by omega) ?_
                        refine R_iconst hX dX12_takes_317 ?_
                        refine R_iload_1 hX dX12_takes_318 ?_
                        refine R_iadd hX dX12_takes_319 ?_
                        refine R_aload_0 hX dX12_takes_320 ?_
                        refine R_getq (v := 142) hX dX12_takes_321 fl_X12_34 o_136 rfl (by omega) ?_
                        refine R_iload_1 hX dX12_takes_324 ?_
                        refine R_iald hX dX12_takes_325 a_142 ⟨by omega, by omega⟩ ?_
                        try simp (disch := omega) only [up_i, up_k, up_s, tcS_r, tnS_r, zrS_r]
                        refine R_iast hX dX12_takes_326 a_137 ⟨by omega, by omega⟩ ?_
                        refine R_aload_0 hX dX12_takes_327 ?_
                        refine R_getq (v := 137) hX dX12_takes_328 fl_X12_7 o_136 rfl (by omega) ?_
                        refine R_bipush hX dX12_takes_331 (by decide) ?_
                        refine R_iload_1 hX dX12_takes_333 ?_
                        refine R_iadd hX dX12_takes_334 ?_
                        refine R_aload_0 hX dX12_takes_335 ?_
                        refine R_getq (v := 142) hX dX12_takes_336 fl_X12_34 o_136 rfl (by omega) ?_
                        refine R_iload_1 hX dX12_takes_339 ?_
                        refine R_iald hX dX12_takes_340 a_142 ⟨by omega, by omega⟩ ?_
                        try simp (disch := omega) only [up_i, up_k, up_s, tcS_r, tnS_r, zrS_r]
                        refine R_iast hX dX12_takes_341 a_137 ⟨by omega, by omega⟩ ?_
                        refine R.eq rfl rfl (show _ = tnS (w + 1).toNat C by rw [tnS_s (by omega)]; unfold tn1; first | (rw [if_pos (by omega)]; done) | (rw [if_neg (by omega)]; done)) ?_
                        refine R_iinc_1 hX c1_r dX12_takes_342 ?_
                        refine R_goto (tgt := 145) hX dX12_takes_345 (by decide) ?_
                        exact ih_145 (w + 1) (by omega) (by omega)
                exact lp_145 14 0 (by omega) (by omega)
              · skip
                refine R_aload_0 hX dX12_takes_130 ?_
                refine R_getq (v := 137) hX dX12_takes_131 fl_X12_7 o_136 rfl (by omega) ?_
                refine R_iload_1 hX dX12_takes_134 ?_
                refine R_iconst hX dX12_takes_135 ?_
                refine R_iast hX dX12_takes_136 a_137 ⟨by omega, by omega⟩ ?_
                refine R.eq rfl rfl (zrS_s (by omega)) ?_
                refine R_iinc_1 hX c1_r dX12_takes_137 ?_
                refine R_goto (tgt := 123) hX dX12_takes_140 (by decide) ?_
                exact ih_123 (y + 1) (by omega) (by omega)
          refine R.eq rfl rfl zrS_0.symm ?_
          exact lp_123 822 0 (by omega) (by omega)
        · skip
          refine R_aload_0 hX dX12_takes_53 ?_
          refine R_getq (v := 150) hX dX12_takes_54 fl_X12_61 o_136 rfl (by omega) ?_
          refine R_iload_1 hX dX12_takes_57 ?_
          refine R_aload_0 hX dX12_takes_58 ?_
          refine R_getq (v := 154) hX dX12_takes_59 fl_X12_73 o_136 rfl (by omega) ?_
          refine R_iload_1 hX dX12_takes_62 ?_
          refine R_iald hX dX12_takes_63 a_154 ⟨by omega, by omega⟩ ?_
          try simp (disch := omega) only [up_i, up_k, up_s, tcS_r, tnS_r, zrS_r]
          refine R_iast hX dX12_takes_64 a_150 ⟨by omega, by omega⟩ ?_
          refine R_aload_0 hX dX12_takes_65 ?_
          refine R_getq (v := 151) hX dX12_takes_66 fl_X12_64 o_136 rfl (by omega) ?_
          refine R_iload_1 hX dX12_takes_69 ?_
          refine R_aload_0 hX dX12_takes_70 ?_
          refine R_getq (v := 155) hX dX12_takes_71 fl_X12_76 o_136 rfl (by omega) ?_
          refine R_iload_1 hX dX12_takes_74 ?_
          refine R_iald hX dX12_takes_75 a_155 ⟨by omega, by omega⟩ ?_
          try simp (disch := omega) only [up_i, up_k, up_s, tcS_r, tnS_r, zrS_r]
          refine R_iast hX dX12_takes_76 a_151 ⟨by omega, by omega⟩ ?_
          refine R_aload_0 hX dX12_takes_77 ?_
          refine R_getq (v := 152) hX dX12_takes_78 fl_X12_67 o_136 rfl (by omega) ?_
          refine R_iload_1 hX dX12_takes_81 ?_
          refine R_aload_0 hX dX12_takes_82 ?_
          refine R_getq (v := 156) hX dX12_takes_83 fl_X12_79 o_136 rfl (by omega) ?_
          refine R_iload_1 hX dX12_takes_86 ?_
          refine R_iald hX dX12_takes_87 a_156 ⟨by omega, by omega⟩ ?_
          try simp (disch := omega) only [up_i, up_k, up_s, tcS_r, tnS_r, zrS_r]
          refine R_iast hX dX12_takes_88 a_152 ⟨by omega, by omega⟩ ?_
          refine R_aload_0 hX dX12_takes_89 ?_
          refine R_getq (v := 153) hX dX12_takes_90 fl_X12_70 o_136 rfl (by omega) ?_
          refine R_iload_1 hX dX12_takes_93 ?_
          refine R_aload_0 hX dX12_takes_94 ?_
          refine R_getq (v := 157) hX dX12_takes_95 fl_X12_82 o_136 rfl (by omega) ?_
          refine R_iload_1 hX dX12_takes_98 ?_
          refine R_iald hX dX12_takes_99 a_157 ⟨by omega, by omega⟩ ?_
          try simp (disch := omega) only [up_i, up_k, up_s, tcS_r, tnS_r, zrS_r]
          refine R_iast hX dX12_takes_100 a_153 ⟨by omega, by omega⟩ ?_
          refine R.eq rfl rfl (tcS_s (by omega)).symm ?_
          refine R_iinc_1 hX c1_r dX12_takes_101 ?_
          refine R_goto (tgt := 45) hX dX12_takes_104 (by decide) ?_
          exact ih_45 (x + 1) (by omega) (by omega)
    exact lp_45 14 0 (by omega) (by omega)
