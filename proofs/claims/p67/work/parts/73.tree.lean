theorem TrV.fr2 {F F' : Hp} {t : Int} (h : TrV F t) (hq : ∀ a : Int, t ≤ a → a ≤ t + 16 → F' a = F a) : TrV F' t := by
  unfold TrV at h ⊢
  rw [hq t (by omega) (by omega), hq (t + 1) (by omega) (by omega), hq (t + 2) (by omega) (by omega), hq (t + 3) (by omega) (by omega), hq (t + 4) (by omega) (by omega), hq (t + 5) (by omega) (by omega), hq (t + 6) (by omega) (by omega), hq (t + 7) (by omega) (by omega), hq (t + 8) (by omega) (by omega), hq (t + 9) (by omega) (by omega), hq (t + 10) (by omega) (by omega), hq (t + 11) (by omega) (by omega)]
  exact h
theorem tmod_lo {a n : Int} (h0 : 0 ≤ a) (h1 : a < n) : a.tmod n = a := Int.tmod_eq_of_lt h0 h1
/-- a leaf of the tree -/
def Lf (F : Hp) (t k : Int) : Prop := ∀ j : Int, 0 ≤ j → j < F t 0 → F (t + 1) j ≠ k
theorem TrV.lst {F : Hp} {t : Int} (h : TrV F t) : Lf F t (F t 0 - 1) := by
  intro j h0 h1 e
  have hn := h.n
  have := h.par j h0 h1
  omega
/-- the letters of a node -/
def hdL (F : Hp) (t k : Int) : List Int := stl 13 ++ [112 + k] ++ (if k ≤ 0 then [] else stl 14 ++ [112 + F (t + 1) k])
def ndL (F : Hp) (t k : Int) : List Int := hdL F t k ++ stl 15 ++ decS (F (t + 2) k) ++ stl 16 ++ decS (F (t + 3) k) ++ stl 17 ++ decS (F (t + 4) k) ++ stl 18 ++ decS (F (t + 5) k) ++ stl 19 ++ decS (F (t + 6) k) ++ stl 20 ++ decS (F (t + 7) k) ++ (if F (t + 8) k = 0 then stl 22 else stl 21)
def nodesL (F : Hp) (t : Int) : Nat → List Int
  | 0 => []
  | k + 1 => nodesL F t k ++ ndL F t k
def ageL (F : Hp) (t : Int) : List Int := if F t 2 < 0 then [] else stl 24 ++ decS (F t 2) ++ stl 22
def atL (F : Hp) (t : Int) : List Int := if F t 22 ≤ F t 20 then [] else stl 25 ++ decS (F t 22) ++ stl 26 ++ [112 + F t 23] ++ stl 15 ++ decS (F t 24) ++ stl 22
def txL (F : Hp) (t : Int) : List Int := nodesL F t (F t 0).toNat ++ stl 23 ++ decS (F t 1) ++ stl 22 ++ ageL F t ++ atL F t
theorem nodesL_s {F : Hp} {t k : Int} (h : 0 ≤ k) : nodesL F t (k + 1).toNat = nodesL F t k.toNat ++ ndL F t k := by
  rw [show (k + 1).toNat = k.toNat + 1 by omega]
  show nodesL F t k.toNat ++ ndL F t (k.toNat : Int) = _
  rw [Int.toNat_of_nonneg h]
theorem hdL_0 {F : Hp} {t k : Int} {l : List Int} (h : k ≤ 0) : l ++ hdL F t k = l ++ stl 13 ++ [112 + k] := by
  unfold hdL
  rw [if_pos h, List.append_nil, List.append_assoc]
theorem hdL_1 {F : Hp} {t k : Int} {l : List Int} (h : ¬ k ≤ 0) : l ++ hdL F t k = l ++ stl 13 ++ [112 + k] ++ stl 14 ++ [112 + F (t + 1) k] := by
  unfold hdL
  rw [if_neg h]
  simp only [List.append_assoc]
theorem ndL_a {F : Hp} {t k : Int} {l : List Int} (i : Nat) (h : (if F (t + 8) k = 0 then stl 22 else stl 21) = stl i) : l ++ hdL F t k ++ stl 15 ++ decS (F (t + 2) k) ++ stl 16 ++ decS (F (t + 3) k) ++ stl 17 ++ decS (F (t + 4) k) ++ stl 18 ++ decS (F (t + 5) k) ++ stl 19 ++ decS (F (t + 6) k) ++ stl 20 ++ decS (F (t + 7) k) ++ stl i = l ++ ndL F t k := by
  unfold ndL
  rw [h]
  simp only [List.append_assoc]
theorem lnA {l m : List Int} {a c : Int} (h : (l.length : Int) ≤ a) (hm : (m.length : Int) ≤ c) : ((l ++ m).length : Int) ≤ a + c := by
  rw [List.length_append]
  omega
theorem lnS {l : List Int} {a : Int} {i : Nat} (h : (l.length : Int) ≤ a) (ha : a ≤ 900) (hs : sln i ≤ 100) : (l.length : Int) + sln i ≤ 1000 := by omega
theorem decS_2 {x : Int} : ((decS x).length : Int) ≤ 2 := by
  have := decS_len x
  unfold dgs at this
  split at this <;> omega
set_option maxRecDepth 100000 in
set_option maxHeartbeats 4000000 in
theorem c_anyLeaf {V : VX} {T : Shp} {F : Hp} {t : Int} (hS : TrS T t) (hV : TrV F t) {d : Int} (hd : isA (SH T) d .int 1) (hdt : d < t) : Ct V yX12_anyLeaf cX12_anyLeaf 3 (some .int) 2 41 0 0 (SH T) [vr V t, vr V d] F (SH T) 1 (fun r F' => ((0 ≤ r ∧ r < F t 0) ∧ Lf F t r) ∧ ∃ v : Int, 0 ≤ v ∧ F' = up F d 0 v) := by
  refine Ct.of [some (vr V t), some (vr V d), none] (by decide) (by simp [lg_sl, vi_cat, vl_cat, vr_cat]) rfl (by simp [asc, lv_args, vi_cat, vl_cat, vr_cat]) (fun X hV hX => ?_)
  subst hV
  have hp := hS.p
  have hn := hV.n
  refine R_aload_1 hX dX12_anyLeaf_0 ?_
  refine R_aload_0 hX dX12_anyLeaf_1 ?_
  refine R_geti hX dX12_anyLeaf_2 fl_X12_72 hS.o rfl ?_
  try simp (disch := omega) only [up_k, up_i, up_s]
  refine R_sN2i hX dX12_anyLeaf_5 li_X12_66 mk_L_draw ms_L_draw (c_draw hd ⟨by omega, by omega⟩) ⟨⟨by decide, by decide⟩, by decide, by decide, rfl, Nat.le_of_ble_eq_true rfl, rfl⟩ (fun x_5 F_5 h_5 => ?_)
  obtain ⟨hr_5, v, hv_5, rfl⟩ := h_5
  have e0 : (up F d 0 v) t = F t := up_r (by omega)
  have e1 : (up F d 0 v) (t + 1) = F (t + 1) := up_r (by omega)
  have hVv : TrV (up F d 0 v) t := hV.fr2 (fun a h1 h2 => up_r (by omega))
  have hlst := hV.lst
  refine R_istore_2 hX c1_r dX12_anyLeaf_8 ?_
  have lp_9 : ∀ (n : Nat) (k : Int), (0 ≤ k ∧ k < F t 0) → (7 - k).toNat < n → R X (SH T) 0 0 9 [some (vr (xV X) t), some (vr (xV X) d), some (vi k)] [] (up F d 0 v) (Zq X (SH T) 1 (fun r F' => ((0 ≤ r ∧ r < F t 0) ∧ Lf F t r) ∧ ∃ v : Int, 0 ≤ v ∧ F' = up F d 0 v) 0 0) := by
    intro n
    induction n with
    | zero => intro k iv9_0 hm; exact absurd hm (Nat.not_lt_zero _)
    | succ n ih_9 =>
      intro k iv9_0 hm_9
      refine R_aload_0 hX dX12_anyLeaf_9 ?_
      refine R_iload_2 hX dX12_anyLeaf_10 ?_
      refine R_v1i hX dX12_anyLeaf_11 li_X12_191 mk_X12_isLeaf mi_X12_isLeaf rfl hS.o (c_tLeaf hS hVv ⟨by omega, by rw [e0]; omega⟩) ⟨⟨by decide, by decide⟩, by decide, by decide, rfl, Nat.le_of_ble_eq_true rfl, rfl⟩ (fun x_11 F_11 h_11 => ?_)
      obtain ⟨h_11, e_11⟩ := h_11; replace e_11 := e_11.symm; subst e_11
      rw [e0, e1] at h_11
      refine R_ifne (tgt := 29) hX dX12_anyLeaf_14 (by decide) (by constructor <;> first | omega | (simp (disch := omega) only [up_k, up_i, up_s]; omega)) (fun c_14 => ?_) (fun c_14 => ?_)
      · skip
        refine R_iload_2 hX dX12_anyLeaf_29 ?_
        exact R_iret hX dX12_anyLeaf_30 ⟨⟨iv9_0, by rcases h_11 with ⟨_, h_11⟩ | ⟨h_11, _⟩; exact h_11; exact absurd h_11 (by omega)⟩, v, hv_5, rfl⟩
      · skip
        have hkl : k + 1 < F t 0 := by
          rcases h_11 with ⟨h_11, _⟩ | ⟨_, j, hj0, hj1, hj2⟩
          · exact absurd h_11 (by omega)
          · have := hV.par j hj0 hj1
            omega
        refine R_iload_2 hX dX12_anyLeaf_17 ?_
        refine R_iconst hX dX12_anyLeaf_18 ?_
        refine R_iadd hX dX12_anyLeaf_19 ?_
        refine R_aload_0 hX dX12_anyLeaf_20 ?_
        refine R_geti hX dX12_anyLeaf_21 fl_X12_72 hS.o rfl ?_
        try simp (disch := omega) only [up_k, up_i, up_s]
        rw [show F t 0 = F t 0 from rfl]
        refine R_irem hX (by constructor <;> first | omega | (simp (disch := omega) only [up_k, up_i, up_s]; omega)) (by constructor <;> first | omega | (simp (disch := omega) only [up_k, up_i, up_s]; omega)) (by omega) dX12_anyLeaf_24 ?_
        refine R_istore_2 hX c1_r dX12_anyLeaf_25 ?_
        rw [tmod_lo (show (0 : Int) ≤ k + 1 by omega) hkl]
        refine R_goto (tgt := 9) hX dX12_anyLeaf_26 (by decide) ?_
        exact ih_9 _ (by omega) (by omega)
  exact lp_9 8 _ (by omega) (by omega)
