/-! four letters in a word -/
def pk (w c : Int) : Int := ior (ishl w 8) c
def pkN (w : Int) (c : Int → Int) : Nat → Int
  | 0 => w
  | k + 1 => pk (pkN w c k) (c k)
theorem nx_or (a b : Nat) : nI a ||| nI b = nI (a ||| b) := by
  apply Int32.toBitVec_inj.1
  show BitVec.ofNat 32 a ||| BitVec.ofNat 32 b = BitVec.ofNat 32 (a ||| b)
  apply BitVec.eq_of_getLsbD_eq
  intro i hi
  simp [hi]
theorem nx_shl8 (n : Nat) : nI n <<< (Int32.ofInt 8 &&& 31) = nI (n * 256) := by
  apply Int32.toBitVec_inj.1
  show (BitVec.ofNat 32 n) <<< (8 : Nat) = BitVec.ofNat 32 (n * 256)
  apply BitVec.eq_of_toNat_eq
  rw [BitVec.toNat_shiftLeft, BitVec.toNat_ofNat, BitVec.toNat_ofNat, Nat.shiftLeft_eq]
  omega
theorem nI_mod (n : Nat) : nI (n % 4294967296) = nI n := by
  apply Int32.toBitVec_inj.1
  apply BitVec.eq_of_toNat_eq
  show (BitVec.ofNat 32 (n % 4294967296)).toNat = (BitVec.ofNat 32 n).toNat
  rw [BitVec.toNat_ofNat, BitVec.toNat_ofNat]
  omega
theorem nI_i {n : Nat} : (nI n).toInt % 4294967296 = (n : Int) % 4294967296 := by
  rw [← nI_mod, nI_int (Nat.mod_lt _ (by decide))]
  split <;> omega
theorem pk_u {w : Int} {c : Nat} (hc : c < 256) : pk w c % 4294967296 = (w % 4294967296 * 256 + c) % 4294967296 := by
  obtain ⟨n, hn, e⟩ := wb_of32 (Int32.ofInt w)
  have h1 : Int32.ofInt (ishl w 8) = nI ((n % 16777216) * 256) := by
    unfold ishl
    rw [Int32.ofInt_toInt, e, nx_shl8, ← nI_mod (n * 256), ← nI_mod (n % 16777216 * 256), show n * 256 % 4294967296 = n % 16777216 * 256 % 4294967296 by omega]
  have h2 : pk w c = (nI ((n % 16777216) * 256 + c)).toInt := by
    unfold pk ior
    rw [h1]
    have h3 : Int32.ofInt (c : Int) = nI c := rfl
    rw [h3, nx_or]
    have h4 : (n % 16777216) * 256 ||| c = (n % 16777216) * 256 + c := by
      have : (n % 16777216) * 256 = (n % 16777216) <<< 8 := by rw [Nat.shiftLeft_eq]
      rw [this, Nat.shiftLeft_add_eq_or_of_lt (show c < 2 ^ 8 by omega)]
    rw [h4]
  have h5 : w % 4294967296 = (n : Int) := by
    have h6 := congrArg Int32.toInt e
    have h7 : (Int32.ofInt w).toInt = w.bmod 4294967296 := Int32.toInt_ofInt
    rw [h7] at h6
    have h8 := nI_i (n := n)
    rw [← h6] at h8
    have h9 : w.bmod 4294967296 % 4294967296 = w % 4294967296 := Int.bmod_emod
    omega
  rw [h2, nI_i, h5]
  omega
theorem pk_r {w c : Int} : I32 (pk w c) := ⟨Int32.le_toInt _, by have := Int32.toInt_lt (Int32.ofInt (ishl w 8) ||| Int32.ofInt c); unfold pk ior; omega⟩
def wd (c : Int → Int) : Int := c 0 * 16777216 + c 1 * 65536 + c 2 * 256 + c 3
theorem pk4 {w : Int} {c : Int → Int} (h : ∀ i, 0 ≤ c i ∧ c i < 128) : pkN w c 4 = wd c := by
  have e : pkN w c 4 = pk (pk (pk (pk w (c 0)) (c 1)) (c 2)) (c 3) := rfl
  rw [e]
  have h0 := h 0
  have h1 := h 1
  have h2 := h 2
  have h3 := h 3
  obtain ⟨a0, ha0⟩ := Int.eq_ofNat_of_zero_le h0.1
  obtain ⟨a1, ha1⟩ := Int.eq_ofNat_of_zero_le h1.1
  obtain ⟨a2, ha2⟩ := Int.eq_ofNat_of_zero_le h2.1
  obtain ⟨a3, ha3⟩ := Int.eq_ofNat_of_zero_le h3.1
  unfold wd
  rw [ha0] at h0 ⊢
  rw [ha1] at h1 ⊢
  rw [ha2] at h2 ⊢
  rw [ha3] at h3 ⊢
  have p0 := pk_u (w := w) (c := a0) (by omega)
  have p1 := pk_u (w := pk w a0) (c := a1) (by omega)
  have p2 := pk_u (w := pk (pk w a0) a1) (c := a2) (by omega)
  have p3 := pk_u (w := pk (pk (pk w a0) a1) a2) (c := a3) (by omega)
  have r := pk_r (w := pk (pk (pk w a0) a1) a2) (c := a3)
  unfold I32 at r
  omega
theorem ishr_d {x : Int} (h : I32 x) (d : Nat) (hd : ((Int32.ofInt (d : Int) &&& 31).toBitVec.smod 32).toNat = d) : ishr x d = x / ((2 ^ d : Nat) : Int) := by
  unfold ishr
  have key : ∀ (X D : Int32) (d : Nat), (D.toBitVec.smod 32).toNat = d → (X >>> D).toInt = X.toInt >>> d := by
    intro X D d h
    subst h
    exact BitVec.toInt_sshiftRight ..
  rw [key _ _ d hd, i32_to h, Int.shiftRight_eq_div_pow]
theorem wd_b {c : Int → Int} (h : ∀ i, 0 ≤ c i ∧ c i < 128) : b8 (ishr (wd c) 24) = c 0 ∧ b8 (ishr (wd c) 16) = c 1 ∧ b8 (ishr (wd c) 8) = c 2 ∧ b8 (ishr (wd c) 0) = c 3 := by
  have h0 := h 0
  have h1 := h 1
  have h2 := h 2
  have h3 := h 3
  have hw : I32 (wd c) := by unfold I32 wd; omega
  have q0 := ishr_d hw 24 (by decide)
  have q1 := ishr_d hw 16 (by decide)
  have q2 := ishr_d hw 8 (by decide)
  have q3 := ishr_d hw 0 (by decide)
  have e24 : ((2 ^ 24 : Nat) : Int) = 16777216 := by decide
  have e16 : ((2 ^ 16 : Nat) : Int) = 65536 := by decide
  have e8 : ((2 ^ 8 : Nat) : Int) = 256 := by decide
  have e0 : ((2 ^ 0 : Nat) : Int) = 1 := by decide
  rw [e24] at q0
  rw [e16] at q1
  rw [e8] at q2
  rw [e0] at q3
  have k0 : ishr (wd c) 24 = wd c / 16777216 := q0
  have k1 : ishr (wd c) 16 = wd c / 65536 := q1
  have k2 : ishr (wd c) 8 = wd c / 256 := q2
  have k3 : ishr (wd c) 0 = wd c / 1 := q3
  rw [b8_sb, b8_sb, b8_sb, b8_sb, iand_255, iand_255, iand_255, iand_255, k0, k1, k2, k3]
  unfold sb wd
  refine ⟨?_, ?_, ?_, ?_⟩ <;> omega
/-- n letters behind the text -/
def AP (F0 F : Hp) (c : Int → Int) (n : Int) : Prop := F 1 1 = F0 1 1 + n ∧ (∀ i : Int, 0 ≤ i → i < n → F 2 (F0 1 1 + i) = c i) ∧ (∀ i : Int, i < F0 1 1 → F 2 i = F0 2 i) ∧ (∀ j : Int, j ≠ 1 → F 1 j = F0 1 j) ∧ ∀ q : Int, q ≠ 1 → q ≠ 2 → F q = F0 q
theorem AP.z {F : Hp} {c : Int → Int} : AP F F c 0 := ⟨by omega, fun i h0 h1 => by omega, fun _ _ => rfl, fun _ _ => rfl, fun _ _ _ => rfl⟩
theorem AP.one {F0 F : Hp} {c : Int → Int} {n x : Int} (h : AP F0 F c n) (hn : 0 ≤ n) (hx : x = c n) : AP F0 (up (up F 2 (F 1 1) x) 1 1 (F 1 1 + 1)) c (n + 1) := by
  obtain ⟨h1, h2, h3, h4, h5⟩ := h
  refine ⟨by rw [up_s]; omega, fun i q0 q1 => ?_, fun i q => ?_, fun j hj => ?_, fun q a b => ?_⟩
  · rw [up_k (by omega)]
    by_cases e : i = n
    · subst e
      rw [h1, up_s, hx]
    · rw [up_i (by omega)]
      exact h2 i q0 (by omega)
  · rw [up_k (by omega), up_i (by omega)]
    exact h3 i q
  · rw [up_i hj, up_k (by omega)]
    exact h4 j hj
  · rw [up_r a, up_r b]
    exact h5 q a b
theorem AP.four {F0 F : Hp} {c : Int → Int} {n W : Int} (h : AP F0 F c n) (hn : 0 ≤ n) (hc : ∀ i, 0 ≤ c i ∧ c i < 128) (hW : W = wd (fun i => c (n + i))) : AP F0 (apS W 4 F) c (n + 4) := by
  have hb := wd_b (c := fun i => c (n + i)) (fun i => hc _)
  rw [← hW] at hb
  have g1 : AP F0 (apS W 1 F) c (n + 1) := AP.one h hn (by rw [show n = n + 0 by omega]; exact hb.1)
  have g2 : AP F0 (apS W 2 F) c (n + 1 + 1) := AP.one g1 (by omega) hb.2.1
  have g3 : AP F0 (apS W 3 F) c (n + 1 + 1 + 1) := AP.one g2 (by omega) (by rw [show n + 1 + 1 = n + 2 by omega]; exact hb.2.2.1)
  have g4 : AP F0 (apS W 4 F) c (n + 1 + 1 + 1 + 1) := AP.one g3 (by omega) (by rw [show n + 1 + 1 + 1 = n + 3 by omega]; exact hb.2.2.2)
  rw [show n + 4 = n + 1 + 1 + 1 + 1 by omega]
  exact g4
/-- a text's letter, or none -/
def tch (l : List Int) (i : Int) : Int := if 0 ≤ i ∧ i < l.length then l.getD i.toNat 0 else 0
theorem tch_r {l : List Int} (h : Asc l) (i : Int) : 0 ≤ tch l i ∧ tch l i < 128 := by
  unfold tch
  by_cases c : 0 ≤ i ∧ i < l.length
  · rw [if_pos c]
    exact h i.toNat (by omega)
  · rw [if_neg c]
    omega
/-- the words after j letters from k on -/
def WK (l : List Int) (r : Int → Int) (k j : Int) : Prop := ∀ m : Int, 0 ≤ m → m < 5 → ∃ w0, r m = pkN w0 (fun i => tch l (k + 4 * m + i)) (min 4 (j - 4 * m)).toNat
theorem WK.z {l : List Int} {r : Int → Int} {k : Int} : WK l r k 0 := fun m h0 h1 => ⟨r m, by rw [show (min 4 (0 - 4 * m)).toNat = 0 by omega]; rfl⟩
theorem WK.s {l : List Int} {G : Hp} {a k j : Int} (h : WK l (G a) k j) (hj : 0 ≤ j ∧ j < 20) : WK l (up G a (j / 4) (pk (G a (j / 4)) (tch l (k + j))) a) k (j + 1) := by
  intro m h0 h1
  obtain ⟨w0, e⟩ := h m h0 h1
  refine ⟨w0, ?_⟩
  by_cases c : m = j / 4
  · subst c
    rw [up_s, e, show (min 4 (j + 1 - 4 * (j / 4))).toNat = (min 4 (j - 4 * (j / 4))).toNat + 1 by omega]
    show pk _ _ = pk _ _
    congr 2
    omega
  · rw [up_i c, e]
    congr 1
    omega
theorem WK.e {l : List Int} {r : Int → Int} {k m : Int} (hA : Asc l) (h : WK l r k 20) (h0 : 0 ≤ m) (h1 : m < 5) : r m = wd (fun i => tch l (k + 4 * m + i)) := by
  obtain ⟨w0, e⟩ := h m h0 h1
  rw [e, show (min 4 (20 - 4 * m)).toNat = 4 by omega]
  exact pk4 (fun i => tch_r hA _)
theorem feed5 {l : List Int} {F G : Hp} {r : Int → Int} {k : Int} (hA : Asc l) (h : AP F G (tch l) k) (hk : 0 ≤ k) (hw : WK l r k 20) : AP F (apS (r 4) 4 (apS (r 3) 4 (apS (r 2) 4 (apS (r 1) 4 (apS (r 0) 4 G))))) (tch l) (k + 20) := by
  have g0 := AP.four h hk (tch_r hA) (W := r 0) (by rw [WK.e hA hw (m := 0) (by omega) (by omega)]; congr 1; funext i; congr 1; omega)
  have g1 := AP.four g0 (by omega) (tch_r hA) (W := r 1) (by rw [WK.e hA hw (m := 1) (by omega) (by omega)]; congr 1)
  have g2 := AP.four g1 (by omega) (tch_r hA) (W := r 2) (by rw [WK.e hA hw (m := 2) (by omega) (by omega)]; congr 1; funext i; congr 1; omega)
  have g3 := AP.four g2 (by omega) (tch_r hA) (W := r 3) (by rw [WK.e hA hw (m := 3) (by omega) (by omega)]; congr 1; funext i; congr 1; omega)
  have g4 := AP.four g3 (by omega) (tch_r hA) (W := r 4) (by rw [WK.e hA hw (m := 4) (by omega) (by omega)]; congr 1; funext i; congr 1; omega)
  rw [show k + 20 = k + 4 + 4 + 4 + 4 + 4 by omega]
  exact g4

