theorem nx_and (a b : Nat) : nI a &&& nI b = nI (a &&& b) := by
  apply Int32.toBitVec_inj.1
  show BitVec.ofNat 32 a &&& BitVec.ofNat 32 b = BitVec.ofNat 32 (a &&& b)
  apply BitVec.eq_of_getLsbD_eq
  intro i hi
  simp [hi]
theorem bp_b (x : Int32) : x.toInt8.toInt32 &&& 255 = x &&& 255 := by
  apply Int32.toBitVec_inj.mp
  rw [Int32.toBitVec_and, Int32.toBitVec_and, Int8.toBitVec_toInt32, Int32.toBitVec_toInt8]
  apply BitVec.eq_of_getLsbD_eq
  intro i hi
  rw [BitVec.getLsbD_and, BitVec.getLsbD_and]
  have hm : ∀ i < 32, 8 ≤ i → (255 : Int32).toBitVec.getLsbD i = false := by decide
  rcases Nat.lt_or_ge i 8 with z | z
  · rw [BitVec.getLsbD_signExtend, BitVec.getLsbD_signExtend, if_pos z, if_pos hi]
    simp only [z, hi, decide_true, Bool.true_and]
  · rw [hm i hi z]; simp
theorem wb_of32 (x : Int32) : ∃ n, n < 2 ^ 32 ∧ x = nI n := ⟨x.toBitVec.toNat, x.toBitVec.isLt, Int32.toBitVec_inj.mp (by show _ = BitVec.ofNat 32 _; simp)⟩
theorem u_tn {n : Nat} (h : n < 2 ^ 64) : (UInt64.ofNat n).toNat = n := Nat.mod_eq_of_lt h
theorem g_or {k p a b : Nat} (hp : 2 ^ k = p) (ha : a < p) (h : b * p + a < 2 ^ 64) : lN (b * p) ||| lN a = lN (b * p + a) := by
  subst hp
  have h1 : b * 2 ^ k ||| a = b * 2 ^ k + a := by rw [← Nat.shiftLeft_eq, Nat.shiftLeft_add_eq_or_of_lt ha]
  have h3 : UInt64.ofNat (b * 2 ^ k) ||| UInt64.ofNat a = UInt64.ofNat (b * 2 ^ k + a) := UInt64.toNat_inj.mp (by rw [UInt64.toNat_or, u_tn (by omega), u_tn (by omega), u_tn h, h1])
  have h2 := congrArg UInt64.toInt64 h3
  exact h2
theorem pf_lI {a : Nat} (h : a < 2 ^ 63) : (lN a).toInt = (a : Int) := lg_ofNat_toInt h
theorem pf_shr {a d : Nat} {D : Int64} (hD : (D.toBitVec.smod 64).toNat = d) (h : a < 2 ^ 62) : lN a >>> D = lN (a / 2 ^ d) := by
  have hd : a / 2 ^ d ≤ a := Nat.div_le_self _ _
  apply Int64.toInt_inj.mp
  have e : (lN a >>> D).toInt = (lN a).toInt >>> d := by
    rw [← hD]
    exact BitVec.toInt_sshiftRight ..
  rw [e, Int.shiftRight_eq_div_pow, pf_lI (by omega), pf_lI (by omega)]
  rfl
/-! bits and bytes as whole numbers -/
theorem nI_int {n : Nat} (h : n < 2 ^ 32) : (nI n).toInt = if n < 2147483648 then (n : Int) else (n : Int) - 4294967296 := by
  show (BitVec.ofNat 32 n).toInt = _
  rw [BitVec.toInt_eq_toNat_cond, BitVec.toNat_ofNat, Nat.mod_eq_of_lt h]
  split <;> split <;> first | rfl | omega
theorem and_mod (z : Int32) {m k : Nat} (hk : k < 31) (hm : m = 2 ^ k - 1) : (z &&& nI m).toInt = z.toInt % ((2 ^ k : Nat) : Int) := by
  obtain ⟨n, hn, rfl⟩ := wb_of32 z
  have h2 : 2 ^ k ≤ 2 ^ 30 := Nat.pow_le_pow_right (by decide) (by omega)
  have h3 : n % 2 ^ k < 2 ^ k := Nat.mod_lt _ (Nat.pow_pos (by decide))
  rw [nx_and, hm, Nat.and_two_pow_sub_one_eq_mod, nI_int (by omega), if_pos (by omega), nI_int hn]
  have h4 : ((2 ^ k : Nat) : Int) ∣ 4294967296 := by
    have : (2 ^ k : Nat) ∣ 2 ^ 32 := Nat.pow_dvd_pow 2 (by omega)
    exact Int.natCast_dvd_natCast.mpr this
  obtain ⟨c, hc⟩ := h4
  split
  · rfl
  · rw [hc, Int.sub_mul_emod_self_left]
    rfl
theorem iand_mod {x : Int} {m k : Nat} (hk : k < 31) (hm : m = 2 ^ k - 1) : iand x (m : Int) = x % ((2 ^ k : Nat) : Int) := by
  unfold iand
  have e : Int32.ofInt (m : Int) = nI m := rfl
  rw [e, and_mod _ hk hm]
  have h4 : ((2 ^ k : Nat) : Int) ∣ 4294967296 := by
    have : (2 ^ k : Nat) ∣ 2 ^ 32 := Nat.pow_dvd_pow 2 (by omega)
    exact Int.natCast_dvd_natCast.mpr this
  have e2 : (Int32.ofInt x).toInt = x.bmod 4294967296 := Int32.toInt_ofInt
  have e3 : x.bmod 4294967296 % 4294967296 = x % 4294967296 := Int.bmod_emod
  rw [e2, ← Int.emod_emod_of_dvd _ h4, e3, Int.emod_emod_of_dvd _ h4]
theorem iand_255 (x : Int) : iand x 255 = x % 256 := iand_mod (m := 255) (k := 8) (by decide) (by decide)
theorem iand_31 (x : Int) : iand x 31 = x % 32 := iand_mod (m := 31) (k := 5) (by decide) (by decide)
theorem iand_63 (x : Int) : iand x 63 = x % 64 := iand_mod (m := 63) (k := 6) (by decide) (by decide)
theorem iand_1 (x : Int) : iand x 1 = x % 2 := iand_mod (m := 1) (k := 1) (by decide) (by decide)
/-- a byte by its sign -/
def sb (x : Int) : Int := if x < 128 then x else x - 256
theorem b8_sb (y : Int) : b8 y = sb (iand y 255) := by
  have h1 : ((Int32.ofInt y).toInt8.toInt32 &&& nI 255).toInt = (Int32.ofInt y &&& nI 255).toInt := congrArg Int32.toInt (bp_b (Int32.ofInt y))
  rw [and_mod _ (k := 8) (by decide) (by decide)] at h1
  have h2 : iand y 255 = (Int32.ofInt y &&& nI 255).toInt := rfl
  rw [h2, ← h1]
  show b8 y = sb (b8 y % 256)
  have h3 : -128 ≤ b8 y ∧ b8 y < 128 := by
    unfold b8
    rw [Int8.toInt_toInt32]
    exact ⟨Int8.le_toInt _, Int8.toInt_lt _⟩
  unfold sb
  omega
theorem sb_rng {x : Int} (h : 0 ≤ x ∧ x ≤ 255) : -128 ≤ sb x ∧ sb x ≤ 127 := by unfold sb; omega
theorem lshl_let : ∀ c : Nat, c < 32 → ∀ p : Nat, p < 8 → lshl (c : Int) (5 * (7 - (p : Int))) = (c : Int) * ((32 ^ (7 - p) : Nat) : Int) := by decide +kernel
theorem lshr_d : ∀ p : Nat, p < 8 → ((((Int32.ofInt (5 * (7 - (p : Int)))).toInt64 &&& 63)).toBitVec.smod 64).toNat = 5 * (7 - p) := by decide +kernel
theorem lor_add {b a p : Nat} (k : Nat) (hp : 2 ^ k = p) (ha : a < p) (h : b * p + a < 2 ^ 62) : lor ((b * p : Nat) : Int) (a : Int) = ((b * p + a : Nat) : Int) := by
  have e : lor ((b * p : Nat) : Int) (a : Int) = (lN (b * p) ||| lN a).toInt := rfl
  rw [e, g_or hp ha (by omega), pf_lI (by omega)]
theorem lshr_div {w p : Nat} (hw : w < 2 ^ 62) (hp : p < 8) : lshr (w : Int) (5 * (7 - (p : Int))) = ((w / 32 ^ (7 - p) : Nat) : Int) := by
  have e : lshr (w : Int) (5 * (7 - (p : Int))) = (lN w >>> ((Int32.ofInt (5 * (7 - (p : Int)))).toInt64 &&& 63)).toInt := rfl
  have h2 : w / 2 ^ (5 * (7 - p)) ≤ w := Nat.div_le_self _ _
  rw [e, pf_shr (lshr_d p hp) hw, pf_lI (by omega), Nat.pow_mul]
/-- a setting's bit among those that were given -/
def gvn (g s : Int) : Int := iand (ishr g s) 1
theorem gvn_all : ∀ g : Nat, g < 128 → ∀ s : Nat, s < 7 → (0 ≤ ior (g : Int) (ishl 1 (s : Int)) ∧ ior (g : Int) (ishl 1 (s : Int)) < 128) ∧ (gvn (g : Int) (s : Int) = 0 ∨ gvn (g : Int) (s : Int) = 1) ∧ ∀ t : Nat, t < 7 → gvn (ior (g : Int) (ishl 1 (s : Int))) (t : Int) = if t = s then 1 else gvn (g : Int) (t : Int) := by decide +kernel
theorem gvn_0 : ∀ t : Nat, t < 7 → gvn 0 (t : Int) = 0 := by decide +kernel
/-- a word with a letter more -/
def wlS (w p c : Int) : Int := if p < 8 then lor w (lshl (c - 97 + 1) (5 * (7 - p))) else w
def ltS (w i : Int) : Int := if i < 8 then iand (lshr w (5 * (7 - i))) 31 else 0
set_option maxRecDepth 100000 in
set_option maxHeartbeats 4000000 in
theorem c_withLetter {V : VX} {T : Shp} {F : Hp} {w p c : Int} (hp : 0 ≤ p ∧ p ≤ 900) (hc : 0 ≤ c ∧ c ≤ 65535) : Ct V yX11_withLetter cX11_withLetter 4 (some .long) 0 0 0 0 (SH T) [vl w, vi p, vi c] F (SH T) 2 (fun r F' => r = wlS w p c ∧ F' = F) := by
  refine Ct.of [some (vl w), none, some (vi p), some (vi c)] (by decide) (by simp [lg_sl, vi_cat, vl_cat, vr_cat]) rfl (by simp [asc, lv_args, vi_cat, vl_cat, vr_cat]) (fun X hV hX => ?_)
  subst hV
  refine R_iload_2 hX dX11_withLetter_0 ?_
  refine R_bipush hX dX11_withLetter_1 (by decide) ?_
  refine R_icmpge (tgt := 25) hX dX11_withLetter_3 (by decide) ⟨by omega, by omega⟩ ⟨by omega, by omega⟩ (fun c_3 => ?_) (fun c_3 => ?_)
  · skip
    refine R_lload_0 hX dX11_withLetter_25 ?_
    exact R_lret hX dX11_withLetter_26 ⟨by unfold wlS; first | rw [if_pos (by omega)] | rw [if_neg (by omega)], rfl⟩
  · skip
    refine R_lload_0 hX dX11_withLetter_6 ?_
    refine R_iload_3 hX dX11_withLetter_7 ?_
    refine R_bipush hX dX11_withLetter_8 (by decide) ?_
    refine R_isub hX dX11_withLetter_10 ?_
    refine R_iconst hX dX11_withLetter_11 ?_
    refine R_iadd hX dX11_withLetter_12 ?_
    refine R_i2l hX ⟨by omega, by omega⟩ dX11_withLetter_13 ?_
    refine R_iconst hX dX11_withLetter_14 ?_
    refine R_bipush hX dX11_withLetter_15 (by decide) ?_
    refine R_iload_2 hX dX11_withLetter_17 ?_
    refine R_isub hX dX11_withLetter_18 ?_
    refine R_imul hX dX11_withLetter_19 ?_
    refine R_lshl hX dX11_withLetter_20 ?_
    refine R_lor hX dX11_withLetter_21 ?_
    refine R_goto (tgt := 26) hX dX11_withLetter_22 (by decide) ?_
    exact R_lret hX dX11_withLetter_26 ⟨by unfold wlS; first | rw [if_pos (by omega)] | rw [if_neg (by omega)], rfl⟩
set_option maxRecDepth 100000 in
set_option maxHeartbeats 4000000 in
theorem c_letterOf {V : VX} {T : Shp} {F : Hp} {w i : Int} (hi : I32 i) : Ct V yX11_letterOf cX11_letterOf 3 (some .int) 0 0 0 0 (SH T) [vl w, vi i] F (SH T) 1 (fun r F' => r = ltS w i ∧ F' = F) := by
  refine Ct.of [some (vl w), none, some (vi i)] (by decide) (by simp [lg_sl, vi_cat, vl_cat, vr_cat]) rfl (by simp [asc, lv_args, vi_cat, vl_cat, vr_cat]) (fun X hV hX => ?_)
  subst hV
  refine R_iload_2 hX dX11_letterOf_0 ?_
  refine R_bipush hX dX11_letterOf_1 (by decide) ?_
  refine R_icmpge (tgt := 21) hX dX11_letterOf_3 (by decide) ⟨by omega, by omega⟩ ⟨by omega, by omega⟩ (fun c_3 => ?_) (fun c_3 => ?_)
  · skip
    refine R_iconst hX dX11_letterOf_21 ?_
    exact R_iret hX dX11_letterOf_22 ⟨by unfold ltS; first | rw [if_pos (by omega)] | rw [if_neg (by omega)], rfl⟩
  · skip
    refine R_lload_0 hX dX11_letterOf_6 ?_
    refine R_iconst hX dX11_letterOf_7 ?_
    refine R_bipush hX dX11_letterOf_8 (by decide) ?_
    refine R_iload_2 hX dX11_letterOf_10 ?_
    refine R_isub hX dX11_letterOf_11 ?_
    refine R_imul hX dX11_letterOf_12 ?_
    refine R_lshr hX dX11_letterOf_13 ?_
    refine R_l2i hX dX11_letterOf_14 ?_
    refine R_bipush hX dX11_letterOf_15 (by decide) ?_
    refine R_iand hX dX11_letterOf_17 ?_
    refine R_goto (tgt := 22) hX dX11_letterOf_18 (by decide) ?_
    exact R_iret hX dX11_letterOf_22 ⟨by unfold ltS; first | rw [if_pos (by omega)] | rw [if_neg (by omega)], rfl⟩
