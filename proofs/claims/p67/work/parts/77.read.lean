/-! the reader over a text that is known -/
theorem runE_is {P : Int → Bool} {ch : Int → Int} {len : Int} : ∀ (m k : Nat) (p : Int), m ≤ k → (∀ i : Nat, i < m → P (ch (p + i)) = true) → p + m ≤ len → ¬ (p + m < len ∧ P (ch (p + m)) = true) → runE P ch len k p = p + m
  | 0, k, p, _, _, _, h => by rw [runE_stop (by rw [Int.natCast_zero, Int.add_zero] at h; exact h)]; omega
  | m + 1, 0, p, h, _, _, _ => by omega
  | m + 1, k + 1, p, h, h1, h2, h3 => by
    have q := h1 0 (by omega)
    rw [Int.natCast_zero, Int.add_zero] at q
    unfold runE
    rw [if_pos ⟨by omega, q⟩, runE_is m k (p + 1) (by omega) (fun i hi => by have := h1 (i + 1) (by omega); rw [show p + 1 + (i : Int) = p + ((i + 1 : Nat) : Int) by omega]; exact this) (by omega) (by rw [show p + 1 + (m : Int) = p + ((m + 1 : Nat) : Int) by omega]; exact h3)]
    omega
theorem wdC_cong {ch ch' : Int → Int} {a b : Int} : ∀ k : Nat, (∀ i : Nat, i < k → ch (a + i) = ch' (b + i)) → wdC ch a k = wdC ch' b k
  | 0, _ => rfl
  | k + 1, h => by
    show wlS _ _ _ = wlS _ _ _
    rw [wdC_cong k (fun i hi => h i (by omega)), h k (by omega)]
theorem nmC_cong {ch ch' : Int → Int} {a b : Int} : ∀ k : Nat, (∀ i : Nat, i < k → ch (a + i) = ch' (b + i)) → nmC ch a k = nmC ch' b k
  | 0, _ => rfl
  | k + 1, h => by
    show _ * 10 + _ = _ * 10 + _
    rw [nmC_cong k (fun i hi => h i (by omega)), h k (by omega)]
def wL (l : List Int) : Int := wdC (fun i => l.getD i.toNat 0) 0 l.length
def nL (l : List Int) : Int := nmC (fun i => l.getD i.toNat 0) 0 l.length
/-- the rest of the text -/
def RT (F : Hp) (l : List Int) : Prop := 0 ≤ F 21 0 ∧ F 1 1 = F 21 0 + l.length ∧ F 1 1 ≤ 900 ∧ ∀ i : Nat, i < l.length → F 2 (F 21 0 + i) = l.getD i 0
theorem RT.at {F : Hp} {a b : List Int} (h : RT F (a ++ b)) : (∀ i : Nat, i < a.length → F 2 (F 21 0 + i) = a.getD i 0) ∧ (∀ i : Nat, i < b.length → F 2 (F 21 0 + a.length + i) = b.getD i 0) ∧ F 1 1 = F 21 0 + a.length + b.length := by
  obtain ⟨h0, h1, h2, h3⟩ := h
  rw [List.length_append] at h1 h3
  refine ⟨fun i hi => ?_, fun i hi => ?_, by omega⟩
  · rw [h3 i (by omega), List.getD_eq_getElem?_getD, List.getD_eq_getElem?_getD, List.getElem?_append_left hi]
  · rw [show F 21 0 + (a.length : Int) + (i : Int) = F 21 0 + ((a.length + i : Nat) : Int) by omega, h3 (a.length + i) (by omega), List.getD_eq_getElem?_getD, List.getD_eq_getElem?_getD, List.getElem?_append_right (by omega)]
    congr 2
    omega
theorem RT.to {F G : Hp} {a b : List Int} (h : RT F (a ++ b)) (h1 : G 1 = F 1) (h2 : G 2 = F 2) (h3 : G 21 0 = F 21 0 + a.length) : RT G b := by
  obtain ⟨-, q2, q3⟩ := h.at
  unfold RT
  rw [h1, h2, h3]
  exact ⟨by have := h.1; omega, q3, h.2.2.1, fun i hi => q2 i hi⟩
theorem RT.keep {F G : Hp} {l : List Int} (h : RT F l) (h1 : G 1 = F 1) (h2 : G 2 = F 2) (h3 : G 21 0 = F 21 0) : RT G l := by
  unfold RT at h ⊢
  rw [h1, h2, h3]
  exact h
theorem run_is {P : Int → Bool} {F : Hp} {a tok rest : List Int} (h : RT F (a ++ (tok ++ rest))) (ht : ∀ i : Nat, i < tok.length → P (tok.getD i 0) = true) (hr : ¬ (0 < rest.length ∧ P (rest.getD 0 0) = true)) : runE P (F 2) (F 1 1) 901 (F 21 0 + a.length) = F 21 0 + a.length + tok.length := by
  obtain ⟨q1, q2, q3⟩ := h.at
  have q4 := h.2.2.1
  have q0 := h.1
  rw [List.length_append] at q2 q3
  have g1 : ∀ i : Nat, i < tok.length → (tok ++ rest).getD i 0 = tok.getD i 0 := fun i hi => by rw [List.getD_eq_getElem?_getD, List.getD_eq_getElem?_getD, List.getElem?_append_left hi]
  refine runE_is tok.length 901 _ (by omega) (fun i hi => ?_) (by omega) ?_
  · rw [q2 i (by omega), g1 i hi]
    exact ht i hi
  · intro z
    apply hr
    have e : (tok ++ rest).getD tok.length 0 = rest.getD 0 0 := by rw [List.getD_eq_getElem?_getD, List.getD_eq_getElem?_getD, List.getElem?_append_right (Nat.le_refl _), Nat.sub_self]
    have := q2 tok.length (by omega)
    rw [e] at this
    rw [this] at z
    exact ⟨by omega, z.2⟩
theorem skp_is {F : Hp} {sp rest : List Int} (h : RT F (sp ++ rest)) (hs : ∀ i : Nat, i < sp.length → spcB (sp.getD i 0) = true) (hr : ¬ (0 < rest.length ∧ spcB (rest.getD 0 0) = true)) : skpE F = F 21 0 + sp.length := by
  have h' : RT F ([] ++ (sp ++ rest)) := h
  have := run_is h' hs hr
  unfold skpE
  rw [show F 21 0 + (([] : List Int).length : Int) = F 21 0 by simp] at this
  exact this
theorem not_spc_l {c : Int} (h : ltrB c = true) : ¬ spcB c = true := by
  rw [spcB_t]
  rw [ltrB_t] at h
  omega
theorem not_spc_d {c : Int} (h : dgtB c = true) : ¬ spcB c = true := by
  rw [spcB_t]
  rw [dgtB_t] at h
  omega
theorem getD_app0 {a b : List Int} (h : 0 < a.length) : (a ++ b).getD 0 0 = a.getD 0 0 := by rw [List.getD_eq_getElem?_getD, List.getD_eq_getElem?_getD, List.getElem?_append_left h]
/-- a word -/
theorem sc_W {F : Hp} (sp tok rest : List Int) (h : RT F (sp ++ (tok ++ rest))) (hs : ∀ i : Nat, i < sp.length → spcB (sp.getD i 0) = true) (ht : ∀ i : Nat, i < tok.length → ltrB (tok.getD i 0) = true) (h1 : 0 < tok.length) (h8 : tok.length ≤ 8) (hr : ¬ (0 < rest.length ∧ ltrB (rest.getD 0 0) = true)) :
    ∃ G, scnS F = G ∧ tokK F ≠ 0 ∧ G 21 1 = 1 ∧ G 21 3 = wL tok ∧ G 21 4 = kwS (wL tok) ∧ (∀ a : Int, a ≠ 21 → G a = F a) ∧ RT G rest := by
  have e1 : skpE F = F 21 0 + sp.length := skp_is h hs (by rw [getD_app0 h1]; exact fun z => not_spc_l (ht 0 h1) z.2)
  have e2 : ltrE F = F 21 0 + sp.length + tok.length := by unfold ltrE; rw [e1]; exact run_is h ht hr
  obtain ⟨q1, q2, q3⟩ := h.at
  rw [List.length_append] at q2 q3
  have hh : F 2 (skpE F) = tok.getD 0 0 := by
    have := q2 0 (by omega)
    rw [getD_app0 h1, Int.natCast_zero, Int.add_zero, ← e1] at this
    exact this
  have k1 : tokK F = 1 := by
    unfold tokK
    rw [if_neg (by omega), if_pos (by rw [hh]; exact ht 0 h1), if_pos (by omega)]
  have k2 : tokE F = F 21 0 + sp.length + tok.length := by
    unfold tokE
    rw [if_neg (by omega), if_pos (by rw [hh]; exact ht 0 h1), e2]
  have k3 : tokW F = wL tok := by
    unfold tokW wL
    rw [k2, e1, show (F 21 0 + sp.length + tok.length - (F 21 0 + sp.length)).toNat = tok.length by omega]
    refine wdC_cong _ (fun i hi => ?_)
    rw [q2 i (by omega), List.getD_eq_getElem?_getD, List.getElem?_append_left hi, Int.zero_add, Int.toNat_natCast, List.getD_eq_getElem?_getD]
  obtain ⟨f0, f1, f2, f3, -, -⟩ := scn_f F
  refine ⟨_, rfl, by rw [k1]; decide, by rw [f1, k1], by rw [(f3 k1).1, k3], by rw [(f3 k1).2, k3], fun a ha => scn_r ha, ?_⟩
  have h2 : RT F ((sp ++ tok) ++ rest) := by rw [List.append_assoc]; exact h
  exact h2.to (scn_r (by decide)) (scn_r (by decide)) (by rw [f0, k2, List.length_append]; omega)
/-- a number -/
theorem sc_N {F : Hp} (sp tok rest : List Int) (h : RT F (sp ++ (tok ++ rest))) (hs : ∀ i : Nat, i < sp.length → spcB (sp.getD i 0) = true) (ht : ∀ i : Nat, i < tok.length → dgtB (tok.getD i 0) = true) (h1 : 0 < tok.length) (h8 : tok.length ≤ 4) (hr : ¬ (0 < rest.length ∧ dgtB (rest.getD 0 0) = true)) :
    ∃ G, scnS F = G ∧ tokK F ≠ 0 ∧ G 21 1 = 2 ∧ G 21 5 = nL tok ∧ G 21 4 = -1 ∧ (∀ a : Int, a ≠ 21 → G a = F a) ∧ RT G rest := by
  have e1 : skpE F = F 21 0 + sp.length := skp_is h hs (by rw [getD_app0 h1]; exact fun z => not_spc_d (ht 0 h1) z.2)
  have e2 : digE F = F 21 0 + sp.length + tok.length := by unfold digE; rw [e1]; exact run_is h ht hr
  obtain ⟨q1, q2, q3⟩ := h.at
  rw [List.length_append] at q2 q3
  have hh : F 2 (skpE F) = tok.getD 0 0 := by
    have := q2 0 (by omega)
    rw [getD_app0 h1, Int.natCast_zero, Int.add_zero, ← e1] at this
    exact this
  have hd := ht 0 h1
  have hnl : ¬ ltrB (F 2 (skpE F)) = true := by
    rw [hh, ltrB_t]
    rw [dgtB_t] at hd
    omega
  have k1 : tokK F = 2 := by
    unfold tokK
    rw [if_neg (by omega), if_neg hnl, if_pos (by rw [hh]; exact hd), if_pos (by omega)]
  have k2 : tokE F = F 21 0 + sp.length + tok.length := by
    unfold tokE
    rw [if_neg (by omega), if_neg hnl, if_pos (by rw [hh]; exact hd), e2]
  have k3 : tokN F = nL tok := by
    unfold tokN nL
    rw [k2, e1, show (F 21 0 + sp.length + tok.length - (F 21 0 + sp.length)).toNat = tok.length by omega]
    refine nmC_cong _ (fun i hi => ?_)
    rw [q2 i (by omega), List.getD_eq_getElem?_getD, List.getElem?_append_left hi, Int.zero_add, Int.toNat_natCast, List.getD_eq_getElem?_getD]
  obtain ⟨f0, f1, f2, -, f4, f5⟩ := scn_f F
  refine ⟨_, rfl, by rw [k1]; decide, by rw [f1, k1], by rw [f5 k1, k3], f4 (by rw [k1]; decide), fun a ha => scn_r ha, ?_⟩
  have h2 : RT F ((sp ++ tok) ++ rest) := by rw [List.append_assoc]; exact h
  exact h2.to (scn_r (by decide)) (scn_r (by decide)) (by rw [f0, k2, List.length_append]; omega)
/-- a statement's end -/
theorem sc_S {F : Hp} (rest : List Int) (h : RT F (59 :: rest)) : ∃ G, scnS F = G ∧ tokK F ≠ 0 ∧ G 21 1 = 3 ∧ G 21 4 = -1 ∧ (∀ a : Int, a ≠ 21 → G a = F a) ∧ RT G rest := by
  have h' : RT F ([] ++ (59 :: rest)) := h
  have e1 : skpE F = F 21 0 := by
    have := skp_is h' (fun i hi => absurd hi (Nat.not_lt_zero i)) (fun z => absurd z.2 (show ¬ spcB 59 = true by decide))
    rw [this]
    simp
  have hh : F 2 (skpE F) = 59 := by
    have := h.2.2.2 0 (by simp)
    rw [Int.natCast_zero, Int.add_zero, ← e1] at this
    exact this
  have hl := h.2.1
  rw [List.length_cons] at hl
  have k1 : tokK F = 3 := by
    unfold tokK
    rw [if_neg (by omega), hh]
    rfl
  have k2 : tokE F = F 21 0 + 1 := by
    unfold tokE
    rw [if_neg (by omega), hh, e1]
    rfl
  obtain ⟨f0, f1, f2, -, f4, -⟩ := scn_f F
  refine ⟨_, rfl, by rw [k1]; decide, by rw [f1, k1], f4 (by rw [k1]; decide), fun a ha => scn_r ha, ?_⟩
  have h2 : RT F ([59] ++ rest) := h
  exact h2.to (scn_r (by decide)) (scn_r (by decide)) (by rw [f0, k2]; rfl)
/-- the text's end -/
theorem sc_E {F : Hp} (h : RT F []) : tokK F = 0 := by
  have h' : RT F ([] ++ []) := h
  have e1 := skp_is h' (fun i hi => absurd hi (Nat.not_lt_zero i)) (fun z => absurd z.1 (Nat.lt_irrefl 0))
  have hl := h.2.1
  unfold tokK
  rw [if_pos]
  rw [e1, hl]
  exact Int.le_refl _
theorem rd_step {v : Int} {F G : Hp} {k : Nat} (hk : 0 < k) (e : scnS F = G) (hK : tokK F ≠ 0) (hc : (takS v G).1 = 0) : rdS v k F = rdS v (k - 1) (up (takS v G).2 3 0 0) := by
  rw [rdS_go hk (fun z => hK z.1) (by rw [e]; exact hc), e]

