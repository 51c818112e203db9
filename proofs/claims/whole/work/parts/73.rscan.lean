/-! the reference's scanner -/
def rkE (F : Hp) : Int := runE spcB (F 146) (F 136 14) ((F 136 14 - F 136 16).toNat + 1) (F 136 16)
def rlE (F : Hp) : Int := runE ltrB (F 146) (F 136 14) ((F 136 14 - rkE F).toNat + 1) (rkE F)
def rdE (F : Hp) : Int := runE dgtB (F 146) (F 136 14) ((F 136 14 - rkE F).toNat + 1) (rkE F)
def rtE (F : Hp) : Int := if F 136 14 ≤ rkE F then rkE F else if ltrB (F 146 (rkE F)) = true then rlE F else if dgtB (F 146 (rkE F)) = true then rdE F else rkE F + 1
def rtK (F : Hp) : Int := if F 136 14 ≤ rkE F then 0 else if ltrB (F 146 (rkE F)) = true then (if rlE F - rkE F ≤ 8 then 1 else 4) else if dgtB (F 146 (rkE F)) = true then (if rdE F - rkE F ≤ 4 then 2 else 4) else if F 146 (rkE F) = 59 then 3 else 4
/-- letters packed to the right; digits, as long as they are few -/
def rwC (ch : Int → Int) (a : Int) : Nat → Int
  | 0 => 0
  | k + 1 => if k < 8 then rwC ch a k * 32 + ch (a + k) - 96 else rwC ch a k
def nbQ (ch : Int → Int) (a : Int) : Nat → Int
  | 0 => 0
  | k + 1 => if 99999 < nbQ ch a k then nbQ ch a k else 10 * nbQ ch a k + ch (a + k) - 48
def rtW (F : Hp) : Int := if F 136 14 ≤ rkE F then 0 else if ltrB (F 146 (rkE F)) = true then rwC (F 146) (rkE F) (rlE F - rkE F).toNat else 0
def rtN (F : Hp) : Int := if F 136 14 ≤ rkE F then 0 else if ltrB (F 146 (rkE F)) = true then 0 else if dgtB (F 146 (rkE F)) = true then nbQ (F 146) (rkE F) (rdE F - rkE F).toNat else 0
def scH (F : Hp) (t e n w : Int) : Hp := fun a i => if a = 136 then (if i = 15 then t else if i = 16 then e else if i = 18 then n else if i = 21 then w else F 136 i) else F a i
theorem scH_0 (F : Hp) : scH F (F 136 15) (F 136 16) (F 136 18) (F 136 21) = F := by
  funext a i
  unfold scH
  by_cases q : a = 136
  · subst q
    rw [if_pos rfl]
    by_cases q1 : i = 15
    · rw [if_pos q1, q1]
    · rw [if_neg q1]
      by_cases q2 : i = 16
      · rw [if_pos q2, q2]
      · rw [if_neg q2]
        by_cases q3 : i = 18
        · rw [if_pos q3, q3]
        · rw [if_neg q3]
          by_cases q4 : i = 21
          · rw [if_pos q4, q4]
          · rw [if_neg q4]
  · rw [if_neg q]
theorem scH_k {F : Hp} {t e n w a : Int} (h : a ≠ 136) : scH F t e n w a = F a := by funext i; exact if_neg h
theorem scH_f {F : Hp} {t e n w i : Int} (h : i ≠ 15 ∧ i ≠ 16 ∧ i ≠ 18 ∧ i ≠ 21) : scH F t e n w 136 i = F 136 i := by
  unfold scH
  rw [if_pos rfl, if_neg h.1, if_neg h.2.1, if_neg h.2.2.1, if_neg h.2.2.2]
theorem scH_15 {F : Hp} {t e n w : Int} : scH F t e n w 136 15 = t := rfl
theorem scH_16 {F : Hp} {t e n w : Int} : scH F t e n w 136 16 = e := rfl
theorem scH_18 {F : Hp} {t e n w : Int} : scH F t e n w 136 18 = n := rfl
theorem scH_21 {F : Hp} {t e n w : Int} : scH F t e n w 136 21 = w := rfl
theorem scH_u {F : Hp} {t e n w x : Int} : up (scH F t e n w) 136 15 x = scH F x e n w ∧ up (scH F t e n w) 136 16 x = scH F t x n w ∧ up (scH F t e n w) 136 18 x = scH F t e x w ∧ up (scH F t e n w) 136 21 x = scH F t e n x := by
  have key : ∀ (j : Int) (G : Hp), (∀ a, a ≠ 136 → G a = F a) → G 136 j = x → (∀ i, i ≠ j → G 136 i = scH F t e n w 136 i) → up (scH F t e n w) 136 j x = G := fun j G h1 h2 h3 => by
    funext a i
    by_cases q : a = 136
    · subst q
      by_cases p : i = j
      · rw [p, up_s, h2]
      · rw [up_i p, h3 i p]
    · rw [up_k q, h1 a q, scH_k q]
  refine ⟨key 15 _ (fun a h => scH_k h) rfl (fun i h => ?_), key 16 _ (fun a h => scH_k h) rfl (fun i h => ?_), key 18 _ (fun a h => scH_k h) rfl (fun i h => ?_), key 21 _ (fun a h => scH_k h) rfl (fun i h => ?_)⟩ <;>
  · unfold scH
    rw [if_pos rfl, if_pos rfl]
    simp only [h, if_false]
def scF (F : Hp) : Hp := up (scH F (rkE F) (rtE F) (rtN F) (rtW F)) 136 17 (rtK F)
def sc (F : Hp) : Hp := if F 136 19 = 0 then scF F else F
/-- the text of the reference, and the place in it -/
def TxQ (F : Hp) : Prop := (0 ≤ F 136 14 ∧ F 136 14 ≤ 900) ∧ (∀ i : Int, 0 ≤ i → i < F 136 14 → 0 ≤ F 146 i ∧ F 146 i ≤ 255) ∧ (0 ≤ F 136 16 ∧ F 136 16 ≤ F 136 14)
theorem rk_f {F : Hp} (h : TxQ F) : F 136 16 ≤ rkE F ∧ rkE F ≤ F 136 14 := runE_rng (P := spcB) (ch := F 146) _ (F 136 16) h.2.2.2
theorem rk_e {F : Hp} : ¬ (rkE F < F 136 14 ∧ spcB (F 146 (rkE F)) = true) := runE_end (P := spcB) (ch := F 146) (len := F 136 14) _ (F 136 16) (by omega)
theorem rl_f {F : Hp} (h : TxQ F) : rkE F ≤ rlE F ∧ rlE F ≤ F 136 14 := runE_rng (P := ltrB) (ch := F 146) _ (rkE F) (rk_f h).2
theorem rl_e {F : Hp} : ¬ (rlE F < F 136 14 ∧ ltrB (F 146 (rlE F)) = true) := runE_end (P := ltrB) (ch := F 146) (len := F 136 14) _ (rkE F) (by omega)
theorem rd_f {F : Hp} (h : TxQ F) : rkE F ≤ rdE F ∧ rdE F ≤ F 136 14 := runE_rng (P := dgtB) (ch := F 146) _ (rkE F) (rk_f h).2
theorem rd_e {F : Hp} : ¬ (rdE F < F 136 14 ∧ dgtB (F 146 (rdE F)) = true) := runE_end (P := dgtB) (ch := F 146) (len := F 136 14) _ (rkE F) (by omega)
theorem rwC_s {ch : Int → Int} {a p : Int} (h : a ≤ p) : rwC ch a (p + 1 - a).toNat = if p - a < 8 then rwC ch a (p - a).toNat * 32 + ch p - 96 else rwC ch a (p - a).toNat := by
  obtain ⟨k, hk⟩ : ∃ k : Nat, p = a + k := ⟨(p - a).toNat, by omega⟩
  subst hk
  rw [show (a + (k : Int) + 1 - a).toNat = k + 1 by omega, show (a + (k : Int) - a).toNat = k by omega, show a + (k : Int) - a = k by omega]
  rw [show rwC ch a (k + 1) = if k < 8 then rwC ch a k * 32 + ch (a + k) - 96 else rwC ch a k from rfl]
  by_cases q : k < 8
  · rw [if_pos q, if_pos (by omega)]
  · rw [if_neg q, if_neg (by omega)]
theorem nbQ_s {ch : Int → Int} {a p : Int} (h : a ≤ p) : nbQ ch a (p + 1 - a).toNat = if 99999 < nbQ ch a (p - a).toNat then nbQ ch a (p - a).toNat else 10 * nbQ ch a (p - a).toNat + ch p - 48 := by
  obtain ⟨k, hk⟩ : ∃ k : Nat, p = a + k := ⟨(p - a).toNat, by omega⟩
  subst hk
  rw [show (a + (k : Int) + 1 - a).toNat = k + 1 by omega, show (a + (k : Int) - a).toNat = k by omega]
  rfl
def mu (g : Prop) [Decidable g] (c : Int) (F : Hp) : Hp := if F 136 19 = 0 ∧ ¬ g then up (up F 136 19 (if F 136 17 = 4 then 1 else c)) 136 20 (F 136 15) else F
theorem mu_iff {g g' : Prop} [Decidable g] [Decidable g'] {c : Int} {F : Hp} (h : g ↔ g') : mu g c F = mu g' c F := by
  unfold mu
  by_cases q : F 136 19 = 0 ∧ ¬ g
  · have q2 : F 136 19 = 0 ∧ ¬ g' := ⟨q.1, fun z => q.2 (h.mpr z)⟩
    rw [if_pos q, if_pos q2]
  · have q2 : ¬ (F 136 19 = 0 ∧ ¬ g') := fun z => q ⟨z.1, fun y => z.2 (h.mp y)⟩
    rw [if_neg q, if_neg q2]
set_option maxRecDepth 100000 in
set_option maxHeartbeats 4000000 in
theorem r_byteAt {V : VX} {F : Hp} (hL : 0 ≤ F 136 14 ∧ F 136 14 ≤ 900) {k : Int} (hk : 0 ≤ k ∧ k ≤ 1000)  : Ct V yX12_byteAt cX12_byteAt 2 (some .int) 0 0 0 0 SH [vr V 136, vi k] F SH 1 (fun r F' => r = (if k < F 136 14 then F 146 k else -2) ∧ F' = F) := by
  refine Ct.of [some (vr V 136), some (vi k)] (by decide) (by simp [lg_sl, vi_cat, vl_cat, vr_cat]) rfl (by simp [asc, lv_args, vi_cat, vl_cat, vr_cat]) (fun X hV hX => ?_)
  subst hV
  refine R_iload_1 hX dX12_byteAt_0 ?_
  refine R_aload_0 hX dX12_byteAt_1 ?_
  refine R_geti hX dX12_byteAt_2 fl_X12_102 o_136 rfl ?_
  refine R_icmpge (tgt := 17) hX dX12_byteAt_5 (by decide) (by constructor <;> first | omega | (simp (disch := omega) only [up_k, up_i, up_s]; omega)) (by constructor <;> first | omega | (simp (disch := omega) only [up_k, up_i, up_s]; omega)) (fun c_5 => ?_) (fun c_5 => ?_)
  · skip
    refine R_bipush hX dX12_byteAt_17 (by decide) ?_
    exact R_iret hX dX12_byteAt_19 ⟨by first | (rw [if_pos (by omega)]; done) | (rw [if_neg (by omega)]; done), rfl⟩
  · skip
    refine R_aload_0 hX dX12_byteAt_8 ?_
    refine R_getq (v := 146) hX dX12_byteAt_9 fl_X12_46 o_136 rfl (by omega) ?_
    refine R_iload_1 hX dX12_byteAt_12 ?_
    refine R_iald hX dX12_byteAt_13 a_146 ⟨by omega, by omega⟩ ?_
    refine R_goto (tgt := 19) hX dX12_byteAt_14 (by decide) ?_
    exact R_iret hX dX12_byteAt_19 ⟨by first | (rw [if_pos (by omega)]; done) | (rw [if_neg (by omega)]; done), rfl⟩
set_option maxRecDepth 100000 in
set_option maxHeartbeats 4000000 in
theorem r_isSmall {V : VX} {F : Hp} {c : Int} (hc : I32 c)  : Ct V yX12_isSmall cX12_isSmall 1 (some .boolean) 0 0 0 0 SH [vi c] F SH 1 (fun r F' => ((r = 1 ∧ (97 ≤ c ∧ c ≤ 122)) ∨ (r = 0 ∧ ¬ (97 ≤ c ∧ c ≤ 122))) ∧ F' = F) := by
  refine Ct.of [some (vi c)] (by decide) (by simp [lg_sl, vi_cat, vl_cat, vr_cat]) rfl (by simp [asc, lv_args, vi_cat, vl_cat, vr_cat]) (fun X hV hX => ?_)
  subst hV
  refine R_iload_0 hX dX12_isSmall_0 ?_
  refine R_bipush hX dX12_isSmall_1 (by decide) ?_
  refine R_icmplt (tgt := 16) hX dX12_isSmall_3 (by decide) hc (by constructor <;> first | omega | (simp (disch := omega) only [up_k, up_i, up_s]; omega)) (fun c_3 => ?_) (fun c_3 => ?_)
  · skip
    refine R_iconst hX dX12_isSmall_16 ?_
    exact R_zret hX (by omega) dX12_isSmall_17 ⟨by omega, rfl⟩
  · skip
    refine R_iload_0 hX dX12_isSmall_6 ?_
    refine R_bipush hX dX12_isSmall_7 (by decide) ?_
    refine R_icmpgt (tgt := 16) hX dX12_isSmall_9 (by decide) hc (by constructor <;> first | omega | (simp (disch := omega) only [up_k, up_i, up_s]; omega)) (fun c_9 => ?_) (fun c_9 => ?_)
    · skip
      refine R_iconst hX dX12_isSmall_16 ?_
      exact R_zret hX (by omega) dX12_isSmall_17 ⟨by omega, rfl⟩
    · skip
      refine R_iconst hX dX12_isSmall_12 ?_
      refine R_goto (tgt := 17) hX dX12_isSmall_13 (by decide) ?_
      exact R_zret hX (by omega) dX12_isSmall_17 ⟨by omega, rfl⟩
set_option maxRecDepth 100000 in
set_option maxHeartbeats 4000000 in
theorem r_isDigit {V : VX} {F : Hp} {c : Int} (hc : I32 c)  : Ct V yX12_isDigit cX12_isDigit 1 (some .boolean) 0 0 0 0 SH [vi c] F SH 1 (fun r F' => ((r = 1 ∧ (48 ≤ c ∧ c ≤ 57)) ∨ (r = 0 ∧ ¬ (48 ≤ c ∧ c ≤ 57))) ∧ F' = F) := by
  refine Ct.of [some (vi c)] (by decide) (by simp [lg_sl, vi_cat, vl_cat, vr_cat]) rfl (by simp [asc, lv_args, vi_cat, vl_cat, vr_cat]) (fun X hV hX => ?_)
  subst hV
  refine R_iload_0 hX dX12_isDigit_0 ?_
  refine R_bipush hX dX12_isDigit_1 (by decide) ?_
  refine R_icmplt (tgt := 16) hX dX12_isDigit_3 (by decide) hc (by constructor <;> first | omega | (simp (disch := omega) only [up_k, up_i, up_s]; omega)) (fun c_3 => ?_) (fun c_3 => ?_)
  · skip
    refine R_iconst hX dX12_isDigit_16 ?_
    exact R_zret hX (by omega) dX12_isDigit_17 ⟨by omega, rfl⟩
  · skip
    refine R_iload_0 hX dX12_isDigit_6 ?_
    refine R_bipush hX dX12_isDigit_7 (by decide) ?_
    refine R_icmpgt (tgt := 16) hX dX12_isDigit_9 (by decide) hc (by constructor <;> first | omega | (simp (disch := omega) only [up_k, up_i, up_s]; omega)) (fun c_9 => ?_) (fun c_9 => ?_)
    · skip
      refine R_iconst hX dX12_isDigit_16 ?_
      exact R_zret hX (by omega) dX12_isDigit_17 ⟨by omega, rfl⟩
    · skip
      refine R_iconst hX dX12_isDigit_12 ?_
      refine R_goto (tgt := 17) hX dX12_isDigit_13 (by decide) ?_
      exact R_zret hX (by omega) dX12_isDigit_17 ⟨by omega, rfl⟩
set_option maxRecDepth 100000 in
set_option maxHeartbeats 4000000 in
theorem r_isGood {V : VX} {F : Hp} (hf : I32 (F 136 19))  : Ct V yX12_isGood cX12_isGood 1 (some .boolean) 0 0 0 0 SH [vr V 136] F SH 1 (fun r F' => ((r = 1 ∧ (F 136 19 = 0)) ∨ (r = 0 ∧ ¬ (F 136 19 = 0))) ∧ F' = F) := by
  refine Ct.of [some (vr V 136)] (by decide) (by simp [lg_sl, vi_cat, vl_cat, vr_cat]) rfl (by simp [asc, lv_args, vi_cat, vl_cat, vr_cat]) (fun X hV hX => ?_)
  subst hV
  refine R_aload_0 hX dX12_isGood_0 ?_
  refine R_geti hX dX12_isGood_1 fl_X12_109 o_136 rfl ?_
  refine R_ifne (tgt := 11) hX dX12_isGood_4 (by decide) hf (fun c_4 => ?_) (fun c_4 => ?_)
  · skip
    refine R_iconst hX dX12_isGood_11 ?_
    exact R_zret hX (by omega) dX12_isGood_12 ⟨by omega, rfl⟩
  · skip
    refine R_iconst hX dX12_isGood_7 ?_
    refine R_goto (tgt := 12) hX dX12_isGood_8 (by decide) ?_
    exact R_zret hX (by omega) dX12_isGood_12 ⟨by omega, rfl⟩
set_option maxRecDepth 100000 in
set_option maxHeartbeats 4000000 in
theorem r_must {V : VX} {F : Hp} (hf : I32 (F 136 19)) (ht : I32 (F 136 17)) {g c : Int} (hg : g = 0 ∨ g = 1)  : Ct V yX12_must cX12_must 3 none 1 20 0 0 SH [vr V 136, vi g, vi c] F SH 0 (fun r F' => F' = mu (g = 1) c F) := by
  refine Ct.of [some (vr V 136), some (vi g), some (vi c)] (by decide) (by simp [lg_sl, vi_cat, vl_cat, vr_cat]) rfl (by simp [asc, lv_args, vi_cat, vl_cat, vr_cat]) (fun X hV hX => ?_)
  subst hV
  refine R_aload_0 hX dX12_must_0 ?_
  refine R_v0i hX dX12_must_1 li_X12_112 mk_X12_isGood mi_X12_isGood rfl o_136 (r_isGood hf) ⟨⟨by decide, by decide⟩, by decide, by decide, rfl, Nat.le_of_ble_eq_true rfl, rfl⟩ (fun x_1 F_1 h_1 => ?_)
  obtain ⟨h_1, e_1⟩ := h_1; replace e_1 := e_1.symm; subst e_1
  refine R_ifeq (tgt := 36) hX dX12_must_4 (by decide) (by constructor <;> first | omega | (simp (disch := omega) only [up_k, up_i, up_s]; omega)) (fun c_4 => ?_) (fun c_4 => ?_)
  · skip
    exact R_vret hX dX12_must_36 (by unfold mu; first | (rw [if_neg (by omega)]; done) | (rw [if_pos ⟨by omega, by omega⟩]; first | (rw [if_pos (by omega)]; done) | (rw [if_neg (by omega)]; done) | (rw [if_pos (by omega), up_i (by decide)]; done) | (rw [if_neg (by omega), up_i (by decide)]; done)))
  · skip
    refine R_iload_1 hX dX12_must_7 ?_
    refine R_ifne (tgt := 36) hX dX12_must_8 (by decide) (by constructor <;> first | omega | (simp (disch := omega) only [up_k, up_i, up_s]; omega)) (fun c_8 => ?_) (fun c_8 => ?_)
    · skip
      exact R_vret hX dX12_must_36 (by unfold mu; first | (rw [if_neg (by omega)]; done) | (rw [if_pos ⟨by omega, by omega⟩]; first | (rw [if_pos (by omega)]; done) | (rw [if_neg (by omega)]; done) | (rw [if_pos (by omega), up_i (by decide)]; done) | (rw [if_neg (by omega), up_i (by decide)]; done)))
    · skip
      refine R_aload_0 hX dX12_must_11 ?_
      refine R_aload_0 hX dX12_must_12 ?_
      refine R_geti hX dX12_must_13 fl_X12_116 o_136 rfl ?_
      refine R_iconst hX dX12_must_16 ?_
      refine R_icmpne (tgt := 24) hX dX12_must_17 (by decide) ht (by constructor <;> first | omega | (simp (disch := omega) only [up_k, up_i, up_s]; omega)) (fun c_17 => ?_) (fun c_17 => ?_)
      · skip
        refine R_iload_2 hX dX12_must_24 ?_
        refine R_puti hX dX12_must_25 fl_X12_109 o_136 rfl ?_
        refine R_aload_0 hX dX12_must_28 ?_
        refine R_aload_0 hX dX12_must_29 ?_
        refine R_geti hX dX12_must_30 fl_X12_119 o_136 rfl ?_
        refine R_puti hX dX12_must_33 fl_X12_49 o_136 rfl ?_
        exact R_vret hX dX12_must_36 (by unfold mu; first | (rw [if_neg (by omega)]; done) | (rw [if_pos ⟨by omega, by omega⟩]; first | (rw [if_pos (by omega)]; done) | (rw [if_neg (by omega)]; done) | (rw [if_pos (by omega), up_i (by decide)]; done) | (rw [if_neg (by omega), up_i (by decide)]; done)))
      · skip
        refine R_iconst hX dX12_must_20 ?_
        refine R_goto (tgt := 25) hX dX12_must_21 (by decide) ?_
        refine R_puti hX dX12_must_25 fl_X12_109 o_136 rfl ?_
        refine R_aload_0 hX dX12_must_28 ?_
        refine R_aload_0 hX dX12_must_29 ?_
        refine R_geti hX dX12_must_30 fl_X12_119 o_136 rfl ?_
        refine R_puti hX dX12_must_33 fl_X12_49 o_136 rfl ?_
        exact R_vret hX dX12_must_36 (by unfold mu; first | (rw [if_neg (by omega)]; done) | (rw [if_pos ⟨by omega, by omega⟩]; first | (rw [if_pos (by omega)]; done) | (rw [if_neg (by omega)]; done) | (rw [if_pos (by omega), up_i (by decide)]; done) | (rw [if_neg (by omega), up_i (by decide)]; done)))
