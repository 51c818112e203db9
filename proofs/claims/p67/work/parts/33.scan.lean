/-! tokens -/
def spcB (c : Int) : Bool := decide (c = 32 ∨ c = 10)
def ltrB (c : Int) : Bool := decide (97 ≤ c ∧ c ≤ 122)
def dgtB (c : Int) : Bool := decide (48 ≤ c ∧ c ≤ 57)
theorem spcB_t {c : Int} : spcB c = true ↔ (c = 32 ∨ c = 10) := by unfold spcB; exact decide_eq_true_iff
theorem ltrB_t {c : Int} : ltrB c = true ↔ (97 ≤ c ∧ c ≤ 122) := by unfold ltrB; exact decide_eq_true_iff
theorem dgtB_t {c : Int} : dgtB c = true ↔ (48 ≤ c ∧ c ≤ 57) := by unfold dgtB; exact decide_eq_true_iff
/-- the end of a run of signs -/
def runE (P : Int → Bool) (ch : Int → Int) (len : Int) : Nat → Int → Int
  | 0, p => p
  | k + 1, p => if p < len ∧ P (ch p) = true then runE P ch len k (p + 1) else p
theorem runE_stop {P : Int → Bool} {ch : Int → Int} {len p : Int} {k : Nat} (h : ¬ (p < len ∧ P (ch p) = true)) : runE P ch len k p = p := by
  cases k with
  | zero => rfl
  | succ k => exact if_neg h
theorem runE_go {P : Int → Bool} {ch : Int → Int} {len p : Int} {k : Nat} (hk : 0 < k) (h : p < len ∧ P (ch p) = true) : runE P ch len k p = runE P ch len (k - 1) (p + 1) := by
  cases k with
  | zero => omega
  | succ k => exact if_pos h
theorem runE_rng {P : Int → Bool} {ch : Int → Int} {len : Int} : ∀ (k : Nat) (p : Int), p ≤ len → p ≤ runE P ch len k p ∧ runE P ch len k p ≤ len
  | 0, p, h => ⟨Int.le_refl _, h⟩
  | k + 1, p, h => by
    unfold runE
    split
    · rename_i q
      have := runE_rng (P := P) (ch := ch) (len := len) k (p + 1) (by omega)
      omega
    · exact ⟨Int.le_refl _, h⟩
theorem runE_cong {P : Int → Bool} {ch ch' : Int → Int} {len : Int} : ∀ (k : Nat) (p : Int), 0 ≤ p → (∀ i, 0 ≤ i → i < len → P (ch i) = P (ch' i)) → runE P ch len k p = runE P ch' len k p
  | 0, p, _, _ => rfl
  | k + 1, p, h, hq => by
    unfold runE
    by_cases c : p < len
    · rw [hq p h c, runE_cong k (p + 1) (by omega) hq]
    · rw [if_neg (fun z => c z.1), if_neg (fun z => c z.1)]
/-- what stands at its end -/
theorem runE_end {P : Int → Bool} {ch : Int → Int} {len : Int} : ∀ (k : Nat) (p : Int), len - p < k → ¬ (runE P ch len k p < len ∧ P (ch (runE P ch len k p)) = true)
  | 0, p, h => by unfold runE; omega
  | k + 1, p, h => by
    unfold runE
    by_cases q : p < len ∧ P (ch p) = true
    · rw [if_pos q]; exact runE_end k (p + 1) (by omega)
    · rw [if_neg q]; exact q
/-- and what in it -/
theorem runE_in {P : Int → Bool} {ch : Int → Int} {len : Int} : ∀ (k : Nat) (p i : Int), p ≤ i → i < runE P ch len k p → P (ch i) = true
  | 0, p, i, h1, h2 => by unfold runE at h2; omega
  | k + 1, p, i, h1, h2 => by
    unfold runE at h2
    by_cases q : p < len ∧ P (ch p) = true
    · rw [if_pos q] at h2
      by_cases z : i = p
      · rw [z]; exact q.2
      · exact runE_in k (p + 1) i (by omega) h2
    · rw [if_neg q] at h2; omega
/-- letters packed, digits read -/
def wdC (ch : Int → Int) (a : Int) : Nat → Int
  | 0 => 0
  | k + 1 => wlS (wdC ch a k) k (ch (a + k))
def nmC (ch : Int → Int) (a : Int) : Nat → Int
  | 0 => 0
  | k + 1 => nmC ch a k * 10 + (ch (a + k) - 48)
theorem wdC_s {ch : Int → Int} {a p : Int} (h : a ≤ p) : wdC ch a (p + 1 - a).toNat = wlS (wdC ch a (p - a).toNat) (p - a) (ch p) := by
  obtain ⟨k, hk⟩ : ∃ k : Nat, p = a + k := ⟨(p - a).toNat, by omega⟩
  subst hk
  rw [show (a + (k : Int) + 1 - a).toNat = k + 1 by omega, show (a + (k : Int) - a).toNat = k by omega, show a + (k : Int) - a = k by omega]
  rfl
theorem nmC_s {ch : Int → Int} {a p : Int} (h : a ≤ p) : nmC ch a (p + 1 - a).toNat = nmC ch a (p - a).toNat * 10 + (ch p - 48) := by
  obtain ⟨k, hk⟩ : ∃ k : Nat, p = a + k := ⟨(p - a).toNat, by omega⟩
  subst hk
  rw [show (a + (k : Int) + 1 - a).toNat = k + 1 by omega, show (a + (k : Int) - a).toNat = k by omega]
  rfl
/-- words' range: five bits a letter -/
theorem wlS_rng : ∀ w p c : Int, 0 ≤ w → w < 1099511627776 → 0 ≤ p → 97 ≤ c → c ≤ 122 → (p < 8 → ∃ q : Nat, w = (q * 32 ^ (8 - p.toNat) : Nat)) → (0 ≤ wlS w p c ∧ wlS w p c < 1099511627776) ∧ (p < 8 → wlS w p c = w + (c - 96) * ((32 ^ (7 - p.toNat) : Nat) : Int) ∧ ∃ q : Nat, wlS w p c = (q * 32 ^ (7 - p.toNat) : Nat)) := by
  intro w p c hw hw2 hp h1 h2 hq
  unfold wlS
  by_cases q : p < 8
  · obtain ⟨a, ha⟩ := hq q
    obtain ⟨n, rfl⟩ : ∃ n : Nat, p = n := ⟨p.toNat, by omega⟩
    obtain ⟨d, hd⟩ : ∃ d : Nat, c - 97 + 1 = d := ⟨(c - 97 + 1).toNat, by omega⟩
    have hd32 : d < 32 := by omega
    rw [if_pos q, hd, lshl_let d hd32 n (by omega)]
    rw [Int.toNat_natCast] at ha ⊢
    have e1 : (32 : Nat) ^ (8 - n) = 32 * 32 ^ (7 - n) := by rw [show 8 - n = (7 - n) + 1 by omega, Nat.pow_succ, Nat.mul_comm]
    have hp1 : 0 < (32 : Nat) ^ (7 - n) := Nat.pow_pos (by decide)
    have hlt : d * 32 ^ (7 - n) < 32 ^ (8 - n) := by rw [e1]; exact Nat.mul_lt_mul_of_pos_right hd32 hp1
    have hwn : a * 32 ^ (8 - n) < 1099511627776 := by omega
    have hbig : a * 32 ^ (8 - n) + d * 32 ^ (7 - n) < 1099511627776 := by
      have hdv : 1099511627776 = 32 ^ n * 32 ^ (8 - n) := by rw [← Nat.pow_add, show n + (8 - n) = 8 by omega]
      have ha2 : a < 32 ^ n := by
        rw [hdv] at hwn
        exact Nat.lt_of_mul_lt_mul_right hwn
      rw [hdv]
      have : (a + 1) * 32 ^ (8 - n) ≤ 32 ^ n * 32 ^ (8 - n) := Nat.mul_le_mul_right _ (by omega)
      rw [Nat.add_mul, Nat.one_mul] at this
      omega
    have e2 : ((d : Int) * ((32 ^ (7 - n) : Nat) : Int)) = ((d * 32 ^ (7 - n) : Nat) : Int) := (Int.natCast_mul _ _).symm
    have e3 : lor w ((d : Int) * ((32 ^ (7 - n) : Nat) : Int)) = ((a * 32 ^ (8 - n) + d * 32 ^ (7 - n) : Nat) : Int) := by
      rw [e2, ha]
      exact lor_add (5 * (8 - n)) (by rw [Nat.pow_mul]) hlt (by omega)
    rw [e3]
    refine ⟨by omega, fun _ => ⟨?_, a * 32 + d, ?_⟩⟩
    · rw [show c - 96 = (d : Int) by omega, e2, ha]
      omega
    · congr 1
      rw [e1, Nat.add_mul, Nat.mul_assoc]
  · rw [if_neg q]
    exact ⟨⟨hw, hw2⟩, fun z => absurd z q⟩
theorem wdC_rng {ch : Int → Int} {a : Int} : ∀ k : Nat, (∀ i : Int, a ≤ i → i < a + k → 97 ≤ ch i ∧ ch i ≤ 122) → (0 ≤ wdC ch a k ∧ wdC ch a k < 1099511627776) ∧ (k ≤ 8 → ∃ q : Nat, wdC ch a k = (q * 32 ^ (8 - k) : Nat))
  | 0, _ => ⟨by simp [wdC], fun _ => ⟨0, by simp [wdC]⟩⟩
  | k + 1, h => by
    have ih := wdC_rng (ch := ch) (a := a) k (fun i h1 h2 => h i h1 (by omega))
    have hc := h (a + k) (by omega) (by omega)
    have := wlS_rng (wdC ch a k) k (ch (a + k)) ih.1.1 ih.1.2 (by omega) hc.1 hc.2 (fun q => by rw [Int.toNat_natCast]; exact ih.2 (by omega))
    refine ⟨this.1, fun q => ?_⟩
    obtain ⟨-, q2, hq2⟩ := this.2 (by omega)
    exact ⟨q2, by rw [show 8 - (k + 1) = 7 - k by omega]; rw [Int.toNat_natCast] at hq2; exact hq2⟩
theorem runE_fuel {P : Int → Bool} {ch : Int → Int} {len : Int} : ∀ (k : Nat) (p : Int) (j : Nat), len - p ≤ k → len - p ≤ j → runE P ch len k p = runE P ch len j p
  | 0, p, j, h, _ => by rw [runE_stop (by omega), runE_stop (by omega)]
  | k + 1, p, 0, _, h => by rw [runE_stop (by omega), runE_stop (by omega)]
  | k + 1, p, j + 1, h1, h2 => by
    unfold runE
    by_cases c : p < len ∧ P (ch p) = true
    · rw [if_pos c, if_pos c, runE_fuel k (p + 1) j (by omega) (by omega)]
    · rw [if_neg c, if_neg c]
theorem runE_st {P : Int → Bool} {ch : Int → Int} {len p : Int} (h : len ≤ 900) (hp : 0 ≤ p) : runE P ch len (901 - p).toNat p = runE P ch len 901 p := runE_fuel _ _ _ (by omega) (by omega)
/-! the scanner's step -/
def wdE (F : Hp) : Int := runE ltrB (F 2) (F 1 1) 901 (F 21 0)
def dgE (F : Hp) : Int := runE dgtB (F 2) (F 1 1) 901 (F 21 0)
def wrdS (F : Hp) : Hp := if wdE F - F 21 2 ≤ 8 then up (up (up (up F 21 3 (wdC (F 2) (F 21 2) (wdE F - F 21 2).toNat)) 21 0 (wdE F)) 21 1 1) 21 4 (kwS (wdC (F 2) (F 21 2) (wdE F - F 21 2).toNat)) else up (up (up F 21 3 (wdC (F 2) (F 21 2) (wdE F - F 21 2).toNat)) 21 0 (wdE F)) 21 1 4
def nbrS (F : Hp) : Hp := up (up (up F 21 5 (nmC (F 2) (F 21 2) (dgE F - F 21 2).toNat)) 21 0 (dgE F)) 21 1 (if dgE F - F 21 2 ≤ 4 then 2 else 4)
def skpE (F : Hp) : Int := runE spcB (F 2) (F 1 1) 901 (F 21 0)
def sc0S (F : Hp) : Hp := up (up (up F 21 0 (skpE F)) 21 2 (skpE F)) 21 4 (-1)
def scnS (F : Hp) : Hp := if F 1 1 ≤ skpE F then up (sc0S F) 21 1 0 else if ltrB (F 2 (skpE F)) = true then wrdS (sc0S F) else if dgtB (F 2 (skpE F)) = true then nbrS (sc0S F) else up (up (sc0S F) 21 1 (if F 2 (skpE F) = 59 then 3 else 4)) 21 0 (skpE F + 1)
set_option maxRecDepth 100000 in
set_option maxHeartbeats 4000000 in
theorem c_scBegin {V : VX} {T : Shp} {F : Hp} : Ct V yX6_begin cX6_begin 1 none 0 0 0 0 (SH T) [vr V 21] F (SH T) 0 (fun r F' => F' = up F 21 0 0) := by
  refine Ct.of [some (vr V 21)] (by decide) (by simp [lg_sl, vi_cat, vl_cat, vr_cat]) rfl (by simp [asc, lv_args, vi_cat, vl_cat, vr_cat]) (fun X hV hX => ?_)
  subst hV
  refine R_aload_0 hX dX6_begin_0 ?_
  refine R_iconst hX dX6_begin_1 ?_
  refine R_puti hX dX6_begin_2 fl_X6_9 o_21 rfl ?_
  exact R_vret hX dX6_begin_5 rfl
set_option maxRecDepth 100000 in
set_option maxHeartbeats 4000000 in
theorem c_isLetter {V : VX} {T : Shp} {F : Hp} {c : Int} (hc : I32 c) : Ct V yX6_isLetter cX6_isLetter 1 (some .boolean) 0 0 0 0 (SH T) [vi c] F (SH T) 1 (fun r F' => ((r = 1 ∧ (97 ≤ c ∧ c ≤ 122)) ∨ (r = 0 ∧ ¬ (97 ≤ c ∧ c ≤ 122))) ∧ F' = F) := by
  refine Ct.of [some (vi c)] (by decide) (by simp [lg_sl, vi_cat, vl_cat, vr_cat]) rfl (by simp [asc, lv_args, vi_cat, vl_cat, vr_cat]) (fun X hV hX => ?_)
  subst hV
  refine R_iload_0 hX dX6_isLetter_0 ?_
  refine R_bipush hX dX6_isLetter_1 (by decide) ?_
  refine R_icmplt (tgt := 16) hX dX6_isLetter_3 (by decide) ⟨by omega, by omega⟩ ⟨by omega, by omega⟩ (fun c_3 => ?_) (fun c_3 => ?_)
  · skip
    refine R_iconst hX dX6_isLetter_16 ?_
    exact R_zret hX (by omega) dX6_isLetter_17 ⟨by omega, rfl⟩
  · skip
    refine R_iload_0 hX dX6_isLetter_6 ?_
    refine R_bipush hX dX6_isLetter_7 (by decide) ?_
    refine R_icmpgt (tgt := 16) hX dX6_isLetter_9 (by decide) ⟨by omega, by omega⟩ ⟨by omega, by omega⟩ (fun c_9 => ?_) (fun c_9 => ?_)
    · skip
      refine R_iconst hX dX6_isLetter_16 ?_
      exact R_zret hX (by omega) dX6_isLetter_17 ⟨by omega, rfl⟩
    · skip
      refine R_iconst hX dX6_isLetter_12 ?_
      refine R_goto (tgt := 17) hX dX6_isLetter_13 (by decide) ?_
      exact R_zret hX (by omega) dX6_isLetter_17 ⟨by omega, rfl⟩
set_option maxRecDepth 100000 in
set_option maxHeartbeats 4000000 in
theorem c_isDigit {V : VX} {T : Shp} {F : Hp} {c : Int} (hc : I32 c) : Ct V yX6_isDigit cX6_isDigit 1 (some .boolean) 0 0 0 0 (SH T) [vi c] F (SH T) 1 (fun r F' => ((r = 1 ∧ (48 ≤ c ∧ c ≤ 57)) ∨ (r = 0 ∧ ¬ (48 ≤ c ∧ c ≤ 57))) ∧ F' = F) := by
  refine Ct.of [some (vi c)] (by decide) (by simp [lg_sl, vi_cat, vl_cat, vr_cat]) rfl (by simp [asc, lv_args, vi_cat, vl_cat, vr_cat]) (fun X hV hX => ?_)
  subst hV
  refine R_iload_0 hX dX6_isDigit_0 ?_
  refine R_bipush hX dX6_isDigit_1 (by decide) ?_
  refine R_icmplt (tgt := 16) hX dX6_isDigit_3 (by decide) ⟨by omega, by omega⟩ ⟨by omega, by omega⟩ (fun c_3 => ?_) (fun c_3 => ?_)
  · skip
    refine R_iconst hX dX6_isDigit_16 ?_
    exact R_zret hX (by omega) dX6_isDigit_17 ⟨by omega, rfl⟩
  · skip
    refine R_iload_0 hX dX6_isDigit_6 ?_
    refine R_bipush hX dX6_isDigit_7 (by decide) ?_
    refine R_icmpgt (tgt := 16) hX dX6_isDigit_9 (by decide) ⟨by omega, by omega⟩ ⟨by omega, by omega⟩ (fun c_9 => ?_) (fun c_9 => ?_)
    · skip
      refine R_iconst hX dX6_isDigit_16 ?_
      exact R_zret hX (by omega) dX6_isDigit_17 ⟨by omega, rfl⟩
    · skip
      refine R_iconst hX dX6_isDigit_12 ?_
      refine R_goto (tgt := 17) hX dX6_isDigit_13 (by decide) ?_
      exact R_zret hX (by omega) dX6_isDigit_17 ⟨by omega, rfl⟩
set_option maxRecDepth 100000 in
set_option maxHeartbeats 4000000 in
theorem c_skipSpaces {V : VX} {T : Shp} {F : Hp} (hL : 0 ≤ F 1 1 ∧ F 1 1 ≤ 900) (hB : ∀ i : Int, 0 ≤ i → i < F 1 1 → -128 ≤ F 2 i ∧ F 2 i ≤ 127) (hp : 0 ≤ F 21 0 ∧ F 21 0 ≤ F 1 1)  : Ct V yX6_skipSpaces cX6_skipSpaces 2 none 1 21 0 0 (SH T) [vr V 21, vr V 1] F (SH T) 0 (fun r F' => F' = up F 21 0 (skpE F)) := by
  refine Ct.of [some (vr V 21), some (vr V 1)] (by decide) (by simp [lg_sl, vi_cat, vl_cat, vr_cat]) rfl (by simp [asc, lv_args, vi_cat, vl_cat, vr_cat]) (fun X hV hX => ?_)
  subst hV
  have lp_0 : ∀ (n : Nat) (p : Int), (0 ≤ p ∧ p ≤ F 1 1) → (runE spcB (F 2) (F 1 1) (901 - p).toNat p = skpE F) → (901 - p).toNat < n → R X (SH T) 0 0 0 [some (vr (xV X) 21), some (vr (xV X) 1)] [] (up F 21 0 p) (Zq X (SH T) 0 (fun r F' => F' = up F 21 0 (skpE F)) 0 0) := by
    intro n
    induction n with
    | zero => intro p iv0_0 iv0_1 hm; exact absurd hm (Nat.not_lt_zero _)
    | succ n ih_0 =>
      intro p iv0_0 iv0_1 hm_0
      refine R_aload_0 hX dX6_skipSpaces_0 ?_
      refine R_geti hX dX6_skipSpaces_1 fl_X6_9 o_21 rfl ?_
      refine R_aload_1 hX dX6_skipSpaces_4 ?_
      refine R_geti hX dX6_skipSpaces_5 fl_X6_31 o_1 rfl ?_
      refine R_icmpge (tgt := 50) hX dX6_skipSpaces_8 (by decide) (by constructor <;> first | omega | (simp (disch := omega) only [up_k, up_i, up_s]; omega)) (by constructor <;> first | omega | (simp (disch := omega) only [up_k, up_i, up_s]; omega)) (fun c_8 => ?_) (fun c_8 => ?_)
      · skip
        first | (simp (disch := omega) only [up_k, up_i, up_s] at c_8) | skip
        exact R_vret hX dX6_skipSpaces_50 (by rw [← iv0_1, runE_stop (fun z => by have := spcB_t.mp z.2; omega)])
      · skip
        simp (disch := omega) only [up_k, up_i, up_s] at c_8
        refine R_aload_1 hX dX6_skipSpaces_11 ?_
        refine R_aload_0 hX dX6_skipSpaces_12 ?_
        refine R_geti hX dX6_skipSpaces_13 fl_X6_9 o_21 rfl ?_
        refine R_v1i hX dX6_skipSpaces_16 li_X6_25 mk_X9_byteAt mi_X9_byteAt rfl o_1 (c_byteAt (by simp (disch := omega) only [up_k, up_i, up_s]; omega) (by simp (disch := omega) only [up_k, up_i, up_s]; constructor <;> omega)) ⟨⟨by decide, by decide⟩, by decide, by decide, rfl, Nat.le_of_ble_eq_true rfl, rfl⟩ (fun x_16 F_16 h_16 => ?_)
        obtain ⟨h_16, e_16⟩ := h_16; replace e_16 := e_16.symm; subst e_16
        simp (disch := omega) only [up_k, up_i, up_s] at h_16
        rw [if_pos (by omega)] at h_16
        have hb := hB p iv0_0.1 (by omega)
        refine R_bipush hX dX6_skipSpaces_19 (by decide) ?_
        refine R_icmpeq (tgt := 37) hX dX6_skipSpaces_21 (by decide) (by constructor <;> first | omega | (simp (disch := omega) only [up_k, up_i, up_s]; omega)) (by constructor <;> first | omega | (simp (disch := omega) only [up_k, up_i, up_s]; omega)) (fun c_21 => ?_) (fun c_21 => ?_)
        · skip
          refine R_aload_0 hX dX6_skipSpaces_37 ?_
          refine R_dup hX c1_r dX6_skipSpaces_38 ?_
          refine R_geti hX dX6_skipSpaces_39 fl_X6_9 o_21 rfl ?_
          refine R_iconst hX dX6_skipSpaces_42 ?_
          refine R_iadd hX dX6_skipSpaces_43 ?_
          refine R_puti hX dX6_skipSpaces_44 fl_X6_9 o_21 rfl ?_
          simp (disch := omega) only [up_k, up_i, up_s]
          rw [up_up]
          refine R_goto (tgt := 0) hX dX6_skipSpaces_47 (by decide) ?_
          exact ih_0 _ (by omega) (by rw [← iv0_1, runE_go (p := p) (by omega) ⟨by omega, spcB_t.mpr (by omega)⟩, show (901 - p).toNat - 1 = (901 - (p + 1)).toNat by omega]) (by omega)
        · skip
          refine R_aload_1 hX dX6_skipSpaces_24 ?_
          refine R_aload_0 hX dX6_skipSpaces_25 ?_
          refine R_geti hX dX6_skipSpaces_26 fl_X6_9 o_21 rfl ?_
          refine R_v1i hX dX6_skipSpaces_29 li_X6_25 mk_X9_byteAt mi_X9_byteAt rfl o_1 (c_byteAt (by simp (disch := omega) only [up_k, up_i, up_s]; omega) (by simp (disch := omega) only [up_k, up_i, up_s]; constructor <;> omega)) ⟨⟨by decide, by decide⟩, by decide, by decide, rfl, Nat.le_of_ble_eq_true rfl, rfl⟩ (fun x_29 F_29 h_29 => ?_)
          obtain ⟨h_29, e_29⟩ := h_29; replace e_29 := e_29.symm; subst e_29
          simp (disch := omega) only [up_k, up_i, up_s] at h_29
          rw [if_pos (by omega)] at h_29
          refine R_bipush hX dX6_skipSpaces_32 (by decide) ?_
          refine R_icmpne (tgt := 50) hX dX6_skipSpaces_34 (by decide) (by constructor <;> first | omega | (simp (disch := omega) only [up_k, up_i, up_s]; omega)) (by constructor <;> first | omega | (simp (disch := omega) only [up_k, up_i, up_s]; omega)) (fun c_34 => ?_) (fun c_34 => ?_)
          · skip
            first | (simp (disch := omega) only [up_k, up_i, up_s] at c_8) | skip
            exact R_vret hX dX6_skipSpaces_50 (by rw [← iv0_1, runE_stop (fun z => by have := spcB_t.mp z.2; omega)])
          · skip
            refine R_aload_0 hX dX6_skipSpaces_37 ?_
            refine R_dup hX c1_r dX6_skipSpaces_38 ?_
            refine R_geti hX dX6_skipSpaces_39 fl_X6_9 o_21 rfl ?_
            refine R_iconst hX dX6_skipSpaces_42 ?_
            refine R_iadd hX dX6_skipSpaces_43 ?_
            refine R_puti hX dX6_skipSpaces_44 fl_X6_9 o_21 rfl ?_
            simp (disch := omega) only [up_k, up_i, up_s]
            rw [up_up]
            refine R_goto (tgt := 0) hX dX6_skipSpaces_47 (by decide) ?_
            exact ih_0 _ (by omega) (by rw [← iv0_1, runE_go (p := p) (by omega) ⟨by omega, spcB_t.mpr (by omega)⟩, show (901 - p).toNat - 1 = (901 - (p + 1)).toNat by omega]) (by omega)
  refine R.eq rfl rfl (up_id (k := 21) (i := 0)).symm ?_
  exact lp_0 902 _ hp (runE_st (by omega) hp.1) (by omega)
set_option maxRecDepth 100000 in
set_option maxHeartbeats 4000000 in
theorem c_scanWord {V : VX} {T : Shp} {F : Hp} (hL : 0 ≤ F 1 1 ∧ F 1 1 ≤ 900) (hB : ∀ i : Int, 0 ≤ i → i < F 1 1 → -128 ≤ F 2 i ∧ F 2 i ≤ 127) (hp : 0 ≤ F 21 0 ∧ F 21 0 ≤ F 1 1) (hs : F 21 2 = F 21 0) : Ct V yX6_scanWord cX6_scanWord 2 none 5 111 0 0 (SH T) [vr V 21, vr V 1] F (SH T) 0 (fun r F' => F' = wrdS F) := by
  refine Ct.of [some (vr V 21), some (vr V 1)] (by decide) (by simp [lg_sl, vi_cat, vl_cat, vr_cat]) rfl (by simp [asc, lv_args, vi_cat, vl_cat, vr_cat]) (fun X hV hX => ?_)
  subst hV
  refine R_aload_0 hX dX6_scanWord_0 ?_
  refine R_lconst0 hX dX6_scanWord_1 ?_
  refine R_putl hX dX6_scanWord_2 fl_X6_50 o_21 rfl ?_
  have lp_5 : ∀ (n : Nat) (p : Int), (F 21 2 ≤ p ∧ p ≤ F 1 1) → (runE ltrB (F 2) (F 1 1) (901 - p).toNat p = wdE F) → (∀ i : Int, F 21 2 ≤ i → i < p → 97 ≤ F 2 i ∧ F 2 i ≤ 122) → (901 - p).toNat < n → R X (SH T) 0 0 5 [some (vr (xV X) 21), some (vr (xV X) 1)] [] (up (up F 21 3 (wdC (F 2) (F 21 2) (p - F 21 2).toNat)) 21 0 p) (Zq X (SH T) 0 (fun r F' => F' = wrdS F) 0 0) := by
    intro n
    induction n with
    | zero => intro p iv5_0 iv5_1 iv5_2 hm; exact absurd hm (Nat.not_lt_zero _)
    | succ n ih_5 =>
      intro p iv5_0 iv5_1 iv5_2 hm_5
      refine R_aload_0 hX dX6_scanWord_5 ?_
      refine R_geti hX dX6_scanWord_6 fl_X6_9 o_21 rfl ?_
      refine R_aload_1 hX dX6_scanWord_9 ?_
      refine R_geti hX dX6_scanWord_10 fl_X6_31 o_1 rfl ?_
      refine R_icmpge (tgt := 71) hX dX6_scanWord_13 (by decide) (by constructor <;> first | omega | (simp (disch := omega) only [up_k, up_i, up_s]; omega)) (by constructor <;> first | omega | (simp (disch := omega) only [up_k, up_i, up_s]; omega)) (fun c_13 => ?_) (fun c_13 => ?_)
      · skip
        first | (simp (disch := omega) only [up_k, up_i, up_s] at c_13) | skip
        have hpe : p = wdE F := by rw [← iv5_1, runE_stop (fun z => by have := ltrB_t.mp z.2; omega)]
        subst hpe
        have hwr := wdC_rng (ch := F 2) (a := F 21 2) (wdE F - F 21 2).toNat (fun i h1 h2 => iv5_2 i h1 (by omega))
        refine R_aload_0 hX dX6_scanWord_71 ?_
        refine R_aload_0 hX dX6_scanWord_72 ?_
        refine R_geti hX dX6_scanWord_73 fl_X6_9 o_21 rfl ?_
        refine R_aload_0 hX dX6_scanWord_76 ?_
        refine R_geti hX dX6_scanWord_77 fl_X6_19 o_21 rfl ?_
        refine R_isub hX dX6_scanWord_80 ?_
        refine R_bipush hX dX6_scanWord_81 (by decide) ?_
        refine R_icmpgt (tgt := 90) hX dX6_scanWord_83 (by decide) (by constructor <;> first | omega | (simp (disch := omega) only [up_k, up_i, up_s]; omega)) (by constructor <;> first | omega | (simp (disch := omega) only [up_k, up_i, up_s]; omega)) (fun c_83 => ?_) (fun c_83 => ?_)
        · skip
          simp (disch := omega) only [up_k, up_i, up_s] at c_83
          refine R_iconst hX dX6_scanWord_90 ?_
          refine R_puti hX dX6_scanWord_91 fl_X6_34 o_21 rfl ?_
          refine R_aload_0 hX dX6_scanWord_94 ?_
          refine R_geti hX dX6_scanWord_95 fl_X6_34 o_21 rfl ?_
          refine R_iconst hX dX6_scanWord_98 ?_
          refine R_icmpne (tgt := 113) hX dX6_scanWord_99 (by decide) (by constructor <;> first | omega | (simp (disch := omega) only [up_k, up_i, up_s]; omega)) (by constructor <;> first | omega | (simp (disch := omega) only [up_k, up_i, up_s]; omega)) (fun c_99 => ?_) (fun c_99 => ?_)
          · skip
            exact R_vret hX dX6_scanWord_113 (by rw [up_s] at c_99; unfold wrdS; first | (exfalso; omega) | (rw [if_pos (by omega)]; done) | (rw [if_neg (by omega)]; done))
          · skip
            refine R_aload_0 hX dX6_scanWord_102 ?_
            refine R_aload_0 hX dX6_scanWord_103 ?_
            refine R_getl hX dX6_scanWord_104 fl_X6_50 o_21 rfl ?_
            refine R_sN1i hX dX6_scanWord_107 li_X6_58 mk_X11_keywordOf ms_X11_keywordOf (c_keywordOf (by simp (disch := omega) only [up_k, up_i, up_s]; have := hwr.1; constructor <;> omega)) ⟨⟨by decide, by decide⟩, by decide, by decide, rfl, Nat.le_of_ble_eq_true rfl, rfl⟩ (fun x_107 F_107 h_107 => ?_)
            obtain ⟨h_107, e_107⟩ := h_107; replace e_107 := e_107.symm; subst e_107
            simp (disch := omega) only [up_k, up_i, up_s] at h_107
            subst h_107
            refine R_puti hX dX6_scanWord_110 fl_X6_22 o_21 rfl ?_
            exact R_vret hX dX6_scanWord_113 (by rw [up_s] at c_99; unfold wrdS; first | (exfalso; omega) | (rw [if_pos (by omega)]; done) | (rw [if_neg (by omega)]; done))
        · skip
          simp (disch := omega) only [up_k, up_i, up_s] at c_83
          refine R_iconst hX dX6_scanWord_86 ?_
          refine R_goto (tgt := 91) hX dX6_scanWord_87 (by decide) ?_
          refine R_puti hX dX6_scanWord_91 fl_X6_34 o_21 rfl ?_
          refine R_aload_0 hX dX6_scanWord_94 ?_
          refine R_geti hX dX6_scanWord_95 fl_X6_34 o_21 rfl ?_
          refine R_iconst hX dX6_scanWord_98 ?_
          refine R_icmpne (tgt := 113) hX dX6_scanWord_99 (by decide) (by constructor <;> first | omega | (simp (disch := omega) only [up_k, up_i, up_s]; omega)) (by constructor <;> first | omega | (simp (disch := omega) only [up_k, up_i, up_s]; omega)) (fun c_99 => ?_) (fun c_99 => ?_)
          · skip
            exact R_vret hX dX6_scanWord_113 (by rw [up_s] at c_99; unfold wrdS; first | (exfalso; omega) | (rw [if_pos (by omega)]; done) | (rw [if_neg (by omega)]; done))
          · skip
            refine R_aload_0 hX dX6_scanWord_102 ?_
            refine R_aload_0 hX dX6_scanWord_103 ?_
            refine R_getl hX dX6_scanWord_104 fl_X6_50 o_21 rfl ?_
            refine R_sN1i hX dX6_scanWord_107 li_X6_58 mk_X11_keywordOf ms_X11_keywordOf (c_keywordOf (by simp (disch := omega) only [up_k, up_i, up_s]; have := hwr.1; constructor <;> omega)) ⟨⟨by decide, by decide⟩, by decide, by decide, rfl, Nat.le_of_ble_eq_true rfl, rfl⟩ (fun x_107 F_107 h_107 => ?_)
            obtain ⟨h_107, e_107⟩ := h_107; replace e_107 := e_107.symm; subst e_107
            simp (disch := omega) only [up_k, up_i, up_s] at h_107
            subst h_107
            refine R_puti hX dX6_scanWord_110 fl_X6_22 o_21 rfl ?_
            exact R_vret hX dX6_scanWord_113 (by rw [up_s] at c_99; unfold wrdS; first | (exfalso; omega) | (rw [if_pos (by omega)]; done) | (rw [if_neg (by omega)]; done))
      · skip
        simp (disch := omega) only [up_k, up_i, up_s] at c_13
        refine R_aload_1 hX dX6_scanWord_16 ?_
        refine R_aload_0 hX dX6_scanWord_17 ?_
        refine R_geti hX dX6_scanWord_18 fl_X6_9 o_21 rfl ?_
        refine R_v1i hX dX6_scanWord_21 li_X6_25 mk_X9_byteAt mi_X9_byteAt rfl o_1 (c_byteAt (by simp (disch := omega) only [up_k, up_i, up_s]; omega) (by simp (disch := omega) only [up_k, up_i, up_s]; constructor <;> omega)) ⟨⟨by decide, by decide⟩, by decide, by decide, rfl, Nat.le_of_ble_eq_true rfl, rfl⟩ (fun x_21 F_21 h_21 => ?_)
        obtain ⟨h_21, e_21⟩ := h_21; replace e_21 := e_21.symm; subst e_21
        simp (disch := omega) only [up_k, up_i, up_s] at h_21
        rw [if_pos (by omega)] at h_21
        have hb := hB p (by omega) (by omega)
        subst h_21
        refine R_s1i hX dX6_scanWord_24 li_X6_37 mk_X6_isLetter ms_X6_isLetter (c_isLetter (by constructor <;> omega)) ⟨⟨by decide, by decide⟩, by decide, by decide, rfl, Nat.le_of_ble_eq_true rfl, rfl⟩ (fun x_24 F_24 h_24 => ?_)
        obtain ⟨h_24, e_24⟩ := h_24; replace e_24 := e_24.symm; subst e_24
        refine R_ifeq (tgt := 71) hX dX6_scanWord_27 (by decide) (by constructor <;> first | omega | (simp (disch := omega) only [up_k, up_i, up_s]; omega)) (fun c_27 => ?_) (fun c_27 => ?_)
        · skip
          first | (simp (disch := omega) only [up_k, up_i, up_s] at c_13) | skip
          have hpe : p = wdE F := by rw [← iv5_1, runE_stop (fun z => by have := ltrB_t.mp z.2; omega)]
          subst hpe
          have hwr := wdC_rng (ch := F 2) (a := F 21 2) (wdE F - F 21 2).toNat (fun i h1 h2 => iv5_2 i h1 (by omega))
          refine R_aload_0 hX dX6_scanWord_71 ?_
          refine R_aload_0 hX dX6_scanWord_72 ?_
          refine R_geti hX dX6_scanWord_73 fl_X6_9 o_21 rfl ?_
          refine R_aload_0 hX dX6_scanWord_76 ?_
          refine R_geti hX dX6_scanWord_77 fl_X6_19 o_21 rfl ?_
          refine R_isub hX dX6_scanWord_80 ?_
          refine R_bipush hX dX6_scanWord_81 (by decide) ?_
          refine R_icmpgt (tgt := 90) hX dX6_scanWord_83 (by decide) (by constructor <;> first | omega | (simp (disch := omega) only [up_k, up_i, up_s]; omega)) (by constructor <;> first | omega | (simp (disch := omega) only [up_k, up_i, up_s]; omega)) (fun c_83 => ?_) (fun c_83 => ?_)
          · skip
            simp (disch := omega) only [up_k, up_i, up_s] at c_83
            refine R_iconst hX dX6_scanWord_90 ?_
            refine R_puti hX dX6_scanWord_91 fl_X6_34 o_21 rfl ?_
            refine R_aload_0 hX dX6_scanWord_94 ?_
            refine R_geti hX dX6_scanWord_95 fl_X6_34 o_21 rfl ?_
            refine R_iconst hX dX6_scanWord_98 ?_
            refine R_icmpne (tgt := 113) hX dX6_scanWord_99 (by decide) (by constructor <;> first | omega | (simp (disch := omega) only [up_k, up_i, up_s]; omega)) (by constructor <;> first | omega | (simp (disch := omega) only [up_k, up_i, up_s]; omega)) (fun c_99 => ?_) (fun c_99 => ?_)
            · skip
              exact R_vret hX dX6_scanWord_113 (by rw [up_s] at c_99; unfold wrdS; first | (exfalso; omega) | (rw [if_pos (by omega)]; done) | (rw [if_neg (by omega)]; done))
            · skip
              refine R_aload_0 hX dX6_scanWord_102 ?_
              refine R_aload_0 hX dX6_scanWord_103 ?_
              refine R_getl hX dX6_scanWord_104 fl_X6_50 o_21 rfl ?_
              refine R_sN1i hX dX6_scanWord_107 li_X6_58 mk_X11_keywordOf ms_X11_keywordOf (c_keywordOf (by simp (disch := omega) only [up_k, up_i, up_s]; have := hwr.1; constructor <;> omega)) ⟨⟨by decide, by decide⟩, by decide, by decide, rfl, Nat.le_of_ble_eq_true rfl, rfl⟩ (fun x_107 F_107 h_107 => ?_)
              obtain ⟨h_107, e_107⟩ := h_107; replace e_107 := e_107.symm; subst e_107
              simp (disch := omega) only [up_k, up_i, up_s] at h_107
              subst h_107
              refine R_puti hX dX6_scanWord_110 fl_X6_22 o_21 rfl ?_
              exact R_vret hX dX6_scanWord_113 (by rw [up_s] at c_99; unfold wrdS; first | (exfalso; omega) | (rw [if_pos (by omega)]; done) | (rw [if_neg (by omega)]; done))
          · skip
            simp (disch := omega) only [up_k, up_i, up_s] at c_83
            refine R_iconst hX dX6_scanWord_86 ?_
            refine R_goto (tgt := 91) hX dX6_scanWord_87 (by decide) ?_
            refine R_puti hX dX6_scanWord_91 fl_X6_34 o_21 rfl ?_
            refine R_aload_0 hX dX6_scanWord_94 ?_
            refine R_geti hX dX6_scanWord_95 fl_X6_34 o_21 rfl ?_
            refine R_iconst hX dX6_scanWord_98 ?_
            refine R_icmpne (tgt := 113) hX dX6_scanWord_99 (by decide) (by constructor <;> first | omega | (simp (disch := omega) only [up_k, up_i, up_s]; omega)) (by constructor <;> first | omega | (simp (disch := omega) only [up_k, up_i, up_s]; omega)) (fun c_99 => ?_) (fun c_99 => ?_)
            · skip
              exact R_vret hX dX6_scanWord_113 (by rw [up_s] at c_99; unfold wrdS; first | (exfalso; omega) | (rw [if_pos (by omega)]; done) | (rw [if_neg (by omega)]; done))
            · skip
              refine R_aload_0 hX dX6_scanWord_102 ?_
              refine R_aload_0 hX dX6_scanWord_103 ?_
              refine R_getl hX dX6_scanWord_104 fl_X6_50 o_21 rfl ?_
              refine R_sN1i hX dX6_scanWord_107 li_X6_58 mk_X11_keywordOf ms_X11_keywordOf (c_keywordOf (by simp (disch := omega) only [up_k, up_i, up_s]; have := hwr.1; constructor <;> omega)) ⟨⟨by decide, by decide⟩, by decide, by decide, rfl, Nat.le_of_ble_eq_true rfl, rfl⟩ (fun x_107 F_107 h_107 => ?_)
              obtain ⟨h_107, e_107⟩ := h_107; replace e_107 := e_107.symm; subst e_107
              simp (disch := omega) only [up_k, up_i, up_s] at h_107
              subst h_107
              refine R_puti hX dX6_scanWord_110 fl_X6_22 o_21 rfl ?_
              exact R_vret hX dX6_scanWord_113 (by rw [up_s] at c_99; unfold wrdS; first | (exfalso; omega) | (rw [if_pos (by omega)]; done) | (rw [if_neg (by omega)]; done))
        · skip
          refine R_aload_0 hX dX6_scanWord_30 ?_
          refine R_aload_0 hX dX6_scanWord_31 ?_
          refine R_getl hX dX6_scanWord_32 fl_X6_50 o_21 rfl ?_
          refine R_aload_0 hX dX6_scanWord_35 ?_
          refine R_geti hX dX6_scanWord_36 fl_X6_9 o_21 rfl ?_
          refine R_aload_0 hX dX6_scanWord_39 ?_
          refine R_geti hX dX6_scanWord_40 fl_X6_19 o_21 rfl ?_
          refine R_isub hX dX6_scanWord_43 ?_
          refine R_aload_1 hX dX6_scanWord_44 ?_
          refine R_aload_0 hX dX6_scanWord_45 ?_
          refine R_geti hX dX6_scanWord_46 fl_X6_9 o_21 rfl ?_
          refine R_v1i hX dX6_scanWord_49 li_X6_25 mk_X9_byteAt mi_X9_byteAt rfl o_1 (c_byteAt (by simp (disch := omega) only [up_k, up_i, up_s]; omega) (by simp (disch := omega) only [up_k, up_i, up_s]; constructor <;> omega)) ⟨⟨by decide, by decide⟩, by decide, by decide, rfl, Nat.le_of_ble_eq_true rfl, rfl⟩ (fun x_49 F_49 h_49 => ?_)
          obtain ⟨h_49, e_49⟩ := h_49; replace e_49 := e_49.symm; subst e_49
          simp (disch := omega) only [up_k, up_i, up_s] at h_49
          rw [if_pos (by omega)] at h_49
          subst h_49
          refine R_sN3l hX dX6_scanWord_52 li_X6_54 mk_X11_withLetter ms_X11_withLetter (c_withLetter (by simp (disch := omega) only [up_k, up_i, up_s]; omega) (by omega)) ⟨⟨by decide, by decide⟩, by decide, by decide, rfl, Nat.le_of_ble_eq_true rfl, rfl⟩ (fun x_52 F_52 h_52 => ?_)
          obtain ⟨h_52, e_52⟩ := h_52; replace e_52 := e_52.symm; subst e_52
          simp (disch := omega) only [up_k, up_i, up_s] at h_52
          subst h_52
          refine R_putl hX dX6_scanWord_55 fl_X6_50 o_21 rfl ?_
          refine R_aload_0 hX dX6_scanWord_58 ?_
          refine R_dup hX c1_r dX6_scanWord_59 ?_
          refine R_geti hX dX6_scanWord_60 fl_X6_9 o_21 rfl ?_
          refine R_iconst hX dX6_scanWord_63 ?_
          refine R_iadd hX dX6_scanWord_64 ?_
          refine R_puti hX dX6_scanWord_65 fl_X6_9 o_21 rfl ?_
          refine R.eq rfl rfl (show _ = up (up F 21 3 (wdC (F 2) (F 21 2) (p + 1 - F 21 2).toNat)) 21 0 (p + 1) by funext a i; simp (disch := omega) only [up_k, up_i, up_s]; rw [wdC_s (by omega)]; unfold up; split <;> (try split) <;> (try split) <;> (try split) <;> first | rfl | omega) ?_
          refine R_goto (tgt := 5) hX dX6_scanWord_68 (by decide) ?_
          exact ih_5 _ (by omega) (by rw [← iv5_1, runE_go (p := p) (by omega) ⟨by omega, ltrB_t.mpr (by omega)⟩, show (901 - p).toNat - 1 = (901 - (p + 1)).toNat by omega]) (fun i h1 h2 => by by_cases z : i = p; (rw [z]; omega); exact iv5_2 i h1 (by omega)) (by omega)
  refine R.eq rfl rfl (show _ = up (up F 21 3 (wdC (F 2) (F 21 2) (F 21 0 - F 21 2).toNat)) 21 0 (F 21 0) by rw [hs, Int.sub_self]; exact (show up F 21 3 0 = up (up F 21 3 0) 21 0 (up F 21 3 0 21 0) by rw [up_id])) ?_
  exact lp_5 902 _ (by omega) (runE_st (by omega) (by omega)) (fun i h1 h2 => by omega) (by omega)
set_option maxRecDepth 100000 in
set_option maxHeartbeats 4000000 in
theorem c_scanNumber {V : VX} {T : Shp} {F : Hp} (hL : 0 ≤ F 1 1 ∧ F 1 1 ≤ 900) (hB : ∀ i : Int, 0 ≤ i → i < F 1 1 → -128 ≤ F 2 i ∧ F 2 i ≤ 127) (hp : 0 ≤ F 21 0 ∧ F 21 0 ≤ F 1 1) (hs : F 21 2 = F 21 0) : Ct V yX6_scanNumber cX6_scanNumber 2 none 1 21 0 0 (SH T) [vr V 21, vr V 1] F (SH T) 0 (fun r F' => F' = nbrS F) := by
  refine Ct.of [some (vr V 21), some (vr V 1)] (by decide) (by simp [lg_sl, vi_cat, vl_cat, vr_cat]) rfl (by simp [asc, lv_args, vi_cat, vl_cat, vr_cat]) (fun X hV hX => ?_)
  subst hV
  refine R_aload_0 hX dX6_scanNumber_0 ?_
  refine R_iconst hX dX6_scanNumber_1 ?_
  refine R_puti hX dX6_scanNumber_2 fl_X6_62 o_21 rfl ?_
  have lp_5 : ∀ (n : Nat) (p : Int), (F 21 2 ≤ p ∧ p ≤ F 1 1) → (runE dgtB (F 2) (F 1 1) (901 - p).toNat p = dgE F) → (901 - p).toNat < n → R X (SH T) 0 0 5 [some (vr (xV X) 21), some (vr (xV X) 1)] [] (up (up F 21 5 (nmC (F 2) (F 21 2) (p - F 21 2).toNat)) 21 0 p) (Zq X (SH T) 0 (fun r F' => F' = nbrS F) 0 0) := by
    intro n
    induction n with
    | zero => intro p iv5_0 iv5_1 hm; exact absurd hm (Nat.not_lt_zero _)
    | succ n ih_5 =>
      intro p iv5_0 iv5_1 hm_5
      refine R_aload_0 hX dX6_scanNumber_5 ?_
      refine R_geti hX dX6_scanNumber_6 fl_X6_9 o_21 rfl ?_
      refine R_aload_1 hX dX6_scanNumber_9 ?_
      refine R_geti hX dX6_scanNumber_10 fl_X6_31 o_1 rfl ?_
      refine R_icmpge (tgt := 66) hX dX6_scanNumber_13 (by decide) (by constructor <;> first | omega | (simp (disch := omega) only [up_k, up_i, up_s]; omega)) (by constructor <;> first | omega | (simp (disch := omega) only [up_k, up_i, up_s]; omega)) (fun c_13 => ?_) (fun c_13 => ?_)
      · skip
        first | (simp (disch := omega) only [up_k, up_i, up_s] at c_13) | skip
        have hpe : p = dgE F := by rw [← iv5_1, runE_stop (fun z => by have := dgtB_t.mp z.2; omega)]
        subst hpe
        refine R_aload_0 hX dX6_scanNumber_66 ?_
        refine R_aload_0 hX dX6_scanNumber_67 ?_
        refine R_geti hX dX6_scanNumber_68 fl_X6_9 o_21 rfl ?_
        refine R_aload_0 hX dX6_scanNumber_71 ?_
        refine R_geti hX dX6_scanNumber_72 fl_X6_19 o_21 rfl ?_
        refine R_isub hX dX6_scanNumber_75 ?_
        refine R_iconst hX dX6_scanNumber_76 ?_
        refine R_icmpgt (tgt := 84) hX dX6_scanNumber_77 (by decide) (by constructor <;> first | omega | (simp (disch := omega) only [up_k, up_i, up_s]; omega)) (by constructor <;> first | omega | (simp (disch := omega) only [up_k, up_i, up_s]; omega)) (fun c_77 => ?_) (fun c_77 => ?_)
        · skip
          simp (disch := omega) only [up_k, up_i, up_s] at c_77
          refine R_iconst hX dX6_scanNumber_84 ?_
          refine R_puti hX dX6_scanNumber_85 fl_X6_34 o_21 rfl ?_
          exact R_vret hX dX6_scanNumber_88 (by unfold nbrS; first | (rw [if_pos (by omega)]; done) | (rw [if_neg (by omega)]; done))
        · skip
          simp (disch := omega) only [up_k, up_i, up_s] at c_77
          refine R_iconst hX dX6_scanNumber_80 ?_
          refine R_goto (tgt := 85) hX dX6_scanNumber_81 (by decide) ?_
          refine R_puti hX dX6_scanNumber_85 fl_X6_34 o_21 rfl ?_
          exact R_vret hX dX6_scanNumber_88 (by unfold nbrS; first | (rw [if_pos (by omega)]; done) | (rw [if_neg (by omega)]; done))
      · skip
        simp (disch := omega) only [up_k, up_i, up_s] at c_13
        refine R_aload_1 hX dX6_scanNumber_16 ?_
        refine R_aload_0 hX dX6_scanNumber_17 ?_
        refine R_geti hX dX6_scanNumber_18 fl_X6_9 o_21 rfl ?_
        refine R_v1i hX dX6_scanNumber_21 li_X6_25 mk_X9_byteAt mi_X9_byteAt rfl o_1 (c_byteAt (by simp (disch := omega) only [up_k, up_i, up_s]; omega) (by simp (disch := omega) only [up_k, up_i, up_s]; constructor <;> omega)) ⟨⟨by decide, by decide⟩, by decide, by decide, rfl, Nat.le_of_ble_eq_true rfl, rfl⟩ (fun x_21 F_21 h_21 => ?_)
        obtain ⟨h_21, e_21⟩ := h_21; replace e_21 := e_21.symm; subst e_21
        simp (disch := omega) only [up_k, up_i, up_s] at h_21
        rw [if_pos (by omega)] at h_21
        have hb := hB p (by omega) (by omega)
        subst h_21
        refine R_s1i hX dX6_scanNumber_24 li_X6_44 mk_X6_isDigit ms_X6_isDigit (c_isDigit (by constructor <;> omega)) ⟨⟨by decide, by decide⟩, by decide, by decide, rfl, Nat.le_of_ble_eq_true rfl, rfl⟩ (fun x_24 F_24 h_24 => ?_)
        obtain ⟨h_24, e_24⟩ := h_24; replace e_24 := e_24.symm; subst e_24
        refine R_ifeq (tgt := 66) hX dX6_scanNumber_27 (by decide) (by constructor <;> first | omega | (simp (disch := omega) only [up_k, up_i, up_s]; omega)) (fun c_27 => ?_) (fun c_27 => ?_)
        · skip
          first | (simp (disch := omega) only [up_k, up_i, up_s] at c_13) | skip
          have hpe : p = dgE F := by rw [← iv5_1, runE_stop (fun z => by have := dgtB_t.mp z.2; omega)]
          subst hpe
          refine R_aload_0 hX dX6_scanNumber_66 ?_
          refine R_aload_0 hX dX6_scanNumber_67 ?_
          refine R_geti hX dX6_scanNumber_68 fl_X6_9 o_21 rfl ?_
          refine R_aload_0 hX dX6_scanNumber_71 ?_
          refine R_geti hX dX6_scanNumber_72 fl_X6_19 o_21 rfl ?_
          refine R_isub hX dX6_scanNumber_75 ?_
          refine R_iconst hX dX6_scanNumber_76 ?_
          refine R_icmpgt (tgt := 84) hX dX6_scanNumber_77 (by decide) (by constructor <;> first | omega | (simp (disch := omega) only [up_k, up_i, up_s]; omega)) (by constructor <;> first | omega | (simp (disch := omega) only [up_k, up_i, up_s]; omega)) (fun c_77 => ?_) (fun c_77 => ?_)
          · skip
            simp (disch := omega) only [up_k, up_i, up_s] at c_77
            refine R_iconst hX dX6_scanNumber_84 ?_
            refine R_puti hX dX6_scanNumber_85 fl_X6_34 o_21 rfl ?_
            exact R_vret hX dX6_scanNumber_88 (by unfold nbrS; first | (rw [if_pos (by omega)]; done) | (rw [if_neg (by omega)]; done))
          · skip
            simp (disch := omega) only [up_k, up_i, up_s] at c_77
            refine R_iconst hX dX6_scanNumber_80 ?_
            refine R_goto (tgt := 85) hX dX6_scanNumber_81 (by decide) ?_
            refine R_puti hX dX6_scanNumber_85 fl_X6_34 o_21 rfl ?_
            exact R_vret hX dX6_scanNumber_88 (by unfold nbrS; first | (rw [if_pos (by omega)]; done) | (rw [if_neg (by omega)]; done))
        · skip
          refine R_aload_0 hX dX6_scanNumber_30 ?_
          refine R_aload_0 hX dX6_scanNumber_31 ?_
          refine R_geti hX dX6_scanNumber_32 fl_X6_62 o_21 rfl ?_
          refine R_bipush hX dX6_scanNumber_35 (by decide) ?_
          refine R_imul hX dX6_scanNumber_37 ?_
          refine R_aload_1 hX dX6_scanNumber_38 ?_
          refine R_aload_0 hX dX6_scanNumber_39 ?_
          refine R_geti hX dX6_scanNumber_40 fl_X6_9 o_21 rfl ?_
          refine R_v1i hX dX6_scanNumber_43 li_X6_25 mk_X9_byteAt mi_X9_byteAt rfl o_1 (c_byteAt (by simp (disch := omega) only [up_k, up_i, up_s]; omega) (by simp (disch := omega) only [up_k, up_i, up_s]; constructor <;> omega)) ⟨⟨by decide, by decide⟩, by decide, by decide, rfl, Nat.le_of_ble_eq_true rfl, rfl⟩ (fun x_43 F_43 h_43 => ?_)
          obtain ⟨h_43, e_43⟩ := h_43; replace e_43 := e_43.symm; subst e_43
          simp (disch := omega) only [up_k, up_i, up_s] at h_43
          rw [if_pos (by omega)] at h_43
          subst h_43
          refine R_bipush hX dX6_scanNumber_46 (by decide) ?_
          refine R_isub hX dX6_scanNumber_48 ?_
          refine R_iadd hX dX6_scanNumber_49 ?_
          refine R_puti hX dX6_scanNumber_50 fl_X6_62 o_21 rfl ?_
          refine R_aload_0 hX dX6_scanNumber_53 ?_
          refine R_dup hX c1_r dX6_scanNumber_54 ?_
          refine R_geti hX dX6_scanNumber_55 fl_X6_9 o_21 rfl ?_
          refine R_iconst hX dX6_scanNumber_58 ?_
          refine R_iadd hX dX6_scanNumber_59 ?_
          refine R_puti hX dX6_scanNumber_60 fl_X6_9 o_21 rfl ?_
          refine R.eq rfl rfl (show _ = up (up F 21 5 (nmC (F 2) (F 21 2) (p + 1 - F 21 2).toNat)) 21 0 (p + 1) by funext a i; simp (disch := omega) only [up_k, up_i, up_s]; rw [nmC_s (by omega)]; unfold up; split <;> (try split) <;> (try split) <;> (try split) <;> first | rfl | omega) ?_
          refine R_goto (tgt := 5) hX dX6_scanNumber_63 (by decide) ?_
          exact ih_5 _ (by omega) (by rw [← iv5_1, runE_go (p := p) (by omega) ⟨by omega, dgtB_t.mpr (by omega)⟩, show (901 - p).toNat - 1 = (901 - (p + 1)).toNat by omega]) (by omega)
  refine R.eq rfl rfl (show _ = up (up F 21 5 (nmC (F 2) (F 21 2) (F 21 0 - F 21 2).toNat)) 21 0 (F 21 0) by rw [hs, Int.sub_self]; exact (show up F 21 5 0 = up (up F 21 5 0) 21 0 (up F 21 5 0 21 0) by rw [up_id])) ?_
  exact lp_5 902 _ (by omega) (runE_st (by omega) (by omega)) (by omega)
set_option maxRecDepth 100000 in
set_option maxHeartbeats 4000000 in
theorem c_scan {V : VX} {T : Shp} {F : Hp} (hL : 0 ≤ F 1 1 ∧ F 1 1 ≤ 900) (hB : ∀ i : Int, 0 ≤ i → i < F 1 1 → -128 ≤ F 2 i ∧ F 2 i ≤ 127) (hp : 0 ≤ F 21 0 ∧ F 21 0 ≤ F 1 1)  : Ct V yX6_scan cX6_scan 3 none 6 132 0 0 (SH T) [vr V 21, vr V 1] F (SH T) 0 (fun r F' => F' = scnS F) := by
  refine Ct.of [some (vr V 21), some (vr V 1), none] (by decide) (by simp [lg_sl, vi_cat, vl_cat, vr_cat]) rfl (by simp [asc, lv_args, vi_cat, vl_cat, vr_cat]) (fun X hV hX => ?_)
  subst hV
  have hr := runE_rng (P := spcB) (ch := F 2) (len := F 1 1) 901 (F 21 0) hp.2
  have hr : F 21 0 ≤ skpE F ∧ skpE F ≤ F 1 1 := hr
  refine R_aload_0 hX dX6_scan_0 ?_
  refine R_aload_1 hX dX6_scan_1 ?_
  refine R_v1v hX dX6_scan_2 li_X6_15 mk_X6_skipSpaces mi_X6_skipSpaces rfl o_21 (c_skipSpaces hL hB hp) ⟨⟨by decide, by decide⟩, by decide, by decide, rfl, Nat.le_of_ble_eq_true rfl, rfl⟩ (fun x_2 F_2 h_2 => ?_)
  subst h_2
  refine R_aload_0 hX dX6_scan_5 ?_
  refine R_aload_0 hX dX6_scan_6 ?_
  refine R_geti hX dX6_scan_7 fl_X6_9 o_21 rfl ?_
  refine R_puti hX dX6_scan_10 fl_X6_19 o_21 rfl ?_
  refine R_aload_0 hX dX6_scan_13 ?_
  refine R_iconst hX dX6_scan_14 ?_
  refine R_puti hX dX6_scan_15 fl_X6_22 o_21 rfl ?_
  refine R.eq rfl rfl (show _ = sc0S F from by unfold sc0S; simp (disch := omega) only [up_s]) ?_
  have hn : sc0S F 21 0 = skpE F := by unfold sc0S; simp (disch := omega) only [up_k, up_i, up_s]
  have h1 : sc0S F 1 1 = F 1 1 := by unfold sc0S; simp (disch := omega) only [up_k, up_i, up_s]
  have h2 : ∀ i, sc0S F 2 i = F 2 i := fun i => by unfold sc0S; simp (disch := omega) only [up_k, up_i, up_s]
  refine R_aload_1 hX dX6_scan_18 ?_
  refine R_aload_0 hX dX6_scan_19 ?_
  refine R_geti hX dX6_scan_20 fl_X6_9 o_21 rfl ?_
  refine R_v1i hX dX6_scan_23 li_X6_25 mk_X9_byteAt mi_X9_byteAt rfl o_1 (c_byteAt (by rw [h1]; exact hL) (by rw [hn]; constructor <;> omega)) ⟨⟨by decide, by decide⟩, by decide, by decide, rfl, Nat.le_of_ble_eq_true rfl, rfl⟩ (fun x_23 F_23 h_23 => ?_)
  obtain ⟨h_23, e_23⟩ := h_23; replace e_23 := e_23.symm; subst e_23
  rw [hn, h1, h2] at h_23
  have hb : -128 ≤ x_23 ∧ x_23 ≤ 127 := by rw [h_23]; split; (exact hB _ (by omega) (by omega)); omega
  refine R_istore_2 hX c1_r dX6_scan_26 ?_
  refine R_aload_0 hX dX6_scan_27 ?_
  refine R_geti hX dX6_scan_28 fl_X6_9 o_21 rfl ?_
  refine R_aload_1 hX dX6_scan_31 ?_
  refine R_geti hX dX6_scan_32 fl_X6_31 o_1 rfl ?_
  refine R_icmplt (tgt := 46) hX dX6_scan_35 (by decide) (by rw [hn]; constructor <;> omega) (by rw [h1]; constructor <;> omega) (fun c_35 => ?_) (fun c_35 => ?_)
  · skip
    refine R_iload_2 hX dX6_scan_46 ?_
    refine R_s1i hX dX6_scan_47 li_X6_37 mk_X6_isLetter ms_X6_isLetter (c_isLetter (by constructor <;> omega)) ⟨⟨by decide, by decide⟩, by decide, by decide, rfl, Nat.le_of_ble_eq_true rfl, rfl⟩ (fun x_47 F_47 h_47 => ?_)
    obtain ⟨h_47, e_47⟩ := h_47; replace e_47 := e_47.symm; subst e_47
    refine R_ifeq (tgt := 61) hX dX6_scan_50 (by decide) ⟨by omega, by omega⟩ (fun c_50 => ?_) (fun c_50 => ?_)
    · skip
      refine R_iload_2 hX dX6_scan_61 ?_
      refine R_s1i hX dX6_scan_62 li_X6_44 mk_X6_isDigit ms_X6_isDigit (c_isDigit (by constructor <;> omega)) ⟨⟨by decide, by decide⟩, by decide, by decide, rfl, Nat.le_of_ble_eq_true rfl, rfl⟩ (fun x_62 F_62 h_62 => ?_)
      obtain ⟨h_62, e_62⟩ := h_62; replace e_62 := e_62.symm; subst e_62
      refine R_ifeq (tgt := 76) hX dX6_scan_65 (by decide) ⟨by omega, by omega⟩ (fun c_65 => ?_) (fun c_65 => ?_)
      · skip
        refine R_aload_0 hX dX6_scan_76 ?_
        refine R_iload_2 hX dX6_scan_77 ?_
        refine R_bipush hX dX6_scan_78 (by decide) ?_
        refine R_icmpne (tgt := 87) hX dX6_scan_80 (by decide) ⟨by omega, by omega⟩ ⟨by omega, by omega⟩ (fun c_80 => ?_) (fun c_80 => ?_)
        · skip
          refine R_iconst hX dX6_scan_87 ?_
          refine R_puti hX dX6_scan_88 fl_X6_34 o_21 rfl ?_
          refine R_aload_0 hX dX6_scan_91 ?_
          refine R_dup hX c1_r dX6_scan_92 ?_
          refine R_geti hX dX6_scan_93 fl_X6_9 o_21 rfl ?_
          refine R_iconst hX dX6_scan_96 ?_
          refine R_iadd hX dX6_scan_97 ?_
          refine R_puti hX dX6_scan_98 fl_X6_9 o_21 rfl ?_
          exact R_vret hX dX6_scan_101 (by rw [hn, h1] at c_35; unfold scnS; first | (rw [if_pos (by omega)]; done) | (rw [if_pos (by omega)] at h_23; rw [if_neg (by omega)]; first | (rw [if_pos (ltrB_t.mpr (by omega))]; done) | (rw [if_neg (fun z => by have := ltrB_t.mp z; omega)]; first | (rw [if_pos (dgtB_t.mpr (by omega))]; done) | (rw [if_neg (fun z => by have := dgtB_t.mp z; omega)]; first | (rw [if_pos (by omega)]; simp (disch := omega) only [up_i, hn]; done) | (rw [if_neg (by omega)]; simp (disch := omega) only [up_i, hn]; done)))))
        · skip
          refine R_iconst hX dX6_scan_83 ?_
          refine R_goto (tgt := 88) hX dX6_scan_84 (by decide) ?_
          refine R_puti hX dX6_scan_88 fl_X6_34 o_21 rfl ?_
          refine R_aload_0 hX dX6_scan_91 ?_
          refine R_dup hX c1_r dX6_scan_92 ?_
          refine R_geti hX dX6_scan_93 fl_X6_9 o_21 rfl ?_
          refine R_iconst hX dX6_scan_96 ?_
          refine R_iadd hX dX6_scan_97 ?_
          refine R_puti hX dX6_scan_98 fl_X6_9 o_21 rfl ?_
          exact R_vret hX dX6_scan_101 (by rw [hn, h1] at c_35; unfold scnS; first | (rw [if_pos (by omega)]; done) | (rw [if_pos (by omega)] at h_23; rw [if_neg (by omega)]; first | (rw [if_pos (ltrB_t.mpr (by omega))]; done) | (rw [if_neg (fun z => by have := ltrB_t.mp z; omega)]; first | (rw [if_pos (dgtB_t.mpr (by omega))]; done) | (rw [if_neg (fun z => by have := dgtB_t.mp z; omega)]; first | (rw [if_pos (by omega)]; simp (disch := omega) only [up_i, hn]; done) | (rw [if_neg (by omega)]; simp (disch := omega) only [up_i, hn]; done)))))
      · skip
        refine R_aload_0 hX dX6_scan_68 ?_
        refine R_aload_1 hX dX6_scan_69 ?_
        refine R_v1v hX dX6_scan_70 li_X6_47 mk_X6_scanNumber mi_X6_scanNumber rfl o_21 (c_scanNumber hL hB (by unfold sc0S; simp (disch := omega) only [up_k, up_i, up_s]; omega) (by unfold sc0S; simp (disch := omega) only [up_k, up_i, up_s])) ⟨⟨by decide, by decide⟩, by decide, by decide, rfl, Nat.le_of_ble_eq_true rfl, rfl⟩ (fun x_70 F_70 h_70 => ?_)
        subst h_70
        refine R_goto (tgt := 101) hX dX6_scan_73 (by decide) ?_
        exact R_vret hX dX6_scan_101 (by rw [hn, h1] at c_35; unfold scnS; first | (rw [if_pos (by omega)]; done) | (rw [if_pos (by omega)] at h_23; rw [if_neg (by omega)]; first | (rw [if_pos (ltrB_t.mpr (by omega))]; done) | (rw [if_neg (fun z => by have := ltrB_t.mp z; omega)]; first | (rw [if_pos (dgtB_t.mpr (by omega))]; done) | (rw [if_neg (fun z => by have := dgtB_t.mp z; omega)]; first | (rw [if_pos (by omega)]; simp (disch := omega) only [up_i, hn]; done) | (rw [if_neg (by omega)]; simp (disch := omega) only [up_i, hn]; done)))))
    · skip
      refine R_aload_0 hX dX6_scan_53 ?_
      refine R_aload_1 hX dX6_scan_54 ?_
      refine R_v1v hX dX6_scan_55 li_X6_41 mk_X6_scanWord mi_X6_scanWord rfl o_21 (c_scanWord hL hB (by unfold sc0S; simp (disch := omega) only [up_k, up_i, up_s]; omega) (by unfold sc0S; simp (disch := omega) only [up_k, up_i, up_s])) ⟨⟨by decide, by decide⟩, by decide, by decide, rfl, Nat.le_of_ble_eq_true rfl, rfl⟩ (fun x_55 F_55 h_55 => ?_)
      subst h_55
      refine R_goto (tgt := 101) hX dX6_scan_58 (by decide) ?_
      exact R_vret hX dX6_scan_101 (by rw [hn, h1] at c_35; unfold scnS; first | (rw [if_pos (by omega)]; done) | (rw [if_pos (by omega)] at h_23; rw [if_neg (by omega)]; first | (rw [if_pos (ltrB_t.mpr (by omega))]; done) | (rw [if_neg (fun z => by have := ltrB_t.mp z; omega)]; first | (rw [if_pos (dgtB_t.mpr (by omega))]; done) | (rw [if_neg (fun z => by have := dgtB_t.mp z; omega)]; first | (rw [if_pos (by omega)]; simp (disch := omega) only [up_i, hn]; done) | (rw [if_neg (by omega)]; simp (disch := omega) only [up_i, hn]; done)))))
  · skip
    refine R_aload_0 hX dX6_scan_38 ?_
    refine R_iconst hX dX6_scan_39 ?_
    refine R_puti hX dX6_scan_40 fl_X6_34 o_21 rfl ?_
    refine R_goto (tgt := 101) hX dX6_scan_43 (by decide) ?_
    exact R_vret hX dX6_scan_101 (by rw [hn, h1] at c_35; unfold scnS; first | (rw [if_pos (by omega)]; done) | (rw [if_pos (by omega)] at h_23; rw [if_neg (by omega)]; first | (rw [if_pos (ltrB_t.mpr (by omega))]; done) | (rw [if_neg (fun z => by have := ltrB_t.mp z; omega)]; first | (rw [if_pos (dgtB_t.mpr (by omega))]; done) | (rw [if_neg (fun z => by have := dgtB_t.mp z; omega)]; first | (rw [if_pos (by omega)]; simp (disch := omega) only [up_i, hn]; done) | (rw [if_neg (by omega)]; simp (disch := omega) only [up_i, hn]; done)))))
