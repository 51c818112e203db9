section RT
variable {X : KX} {T : Shp} {cs ss pc : Nat} {L : List (Option Value)} {st : List Value} {F : Hp} {Z : State → Prop} {own : String} {cc : ByteArray} {nL : Nat} {ret : Option FieldType} {fr lo mc ms : Nat}
set_option maxRecDepth 100000 in
theorem SH_app {T g : Shp} : SH T ++ g = SH (T ++ g) := rfl
theorem isO.up {T g : Shp} {k : Int} {ci : Nat} {rs : List Int} (h : isO (SH T) k ci rs) : isO (SH (T ++ g)) k ci rs := h.app g
theorem isA.up {T g : Shp} {k : Int} {ty : FieldType} {n : Nat} (h : isA (SH T) k ty n) : isA (SH (T ++ g)) k ty n := h.app g
theorem isO.newT {T : Shp} {ci : Nat} {rs : List Int} {k : Int} (hk : k = 136 + T.length) : isO (SH (T ++ [.inl (ci, rs)])) k ci rs := by rw [← SH_app]; exact isO.new (by rw [SH_len]; omega)
theorem isA.newT {T : Shp} {ty : FieldType} {n : Nat} (hn : n < 2147483648) {k : Int} (hk : k = 136 + T.length) : isA (SH (T ++ [.inr (ty, n)])) k ty n := by rw [← SH_app]; exact isA.new hn (by rw [SH_len]; omega)
theorem R_newT (hX : Ok X own cc nL ret fr lo mc ms) {idx ci N : Nat} {C : String} {U : u_T} (hcf : CF ci C U N) (hcl : Cond.classLink own idx C ∈ gwt) (hinst : Cond.instantiable C N ∈ gwt) (hini : Cond.initialized C ∈ gwt) (hok : (List.range N).all (fun j => okTy (ftys ci j)) = true) (hr : cs + 1 ≤ mc ∧ ss + N ≤ ms) (hd : decode cc pc = .ok (.new idx, 3))
    (kk : ∀ n : Int, n = 136 + (T.length : Int) → R X (SH (T ++ [.inl (ci, [])])) (cs + 1) (ss + N) (pc + 3) L (vr (xV X) n :: st) (row F n (z0 ci)) Z) : R X (SH T) cs ss pc L st F Z :=
  R_new hX hcf hcl hinst hini hok hr hd (by rw [SH_app]; exact kk _ (by rw [SH_len]; omega))
theorem R_newaT (hX : Ok X own cc nL ret fr lo mc ms) {atype : ArrayType} {x : Int} {ty : FieldType} (hty : newarray.typeOf atype = ty) (h4 : ty = .int ∨ ty = .long ∨ ty = .boolean ∨ ty = .byte) (harr : Cond.arrayClass ty ∈ gwt) (hx : 0 ≤ x ∧ x < 100000) {m : Nat} (hm : x.toNat = m) (hr : cs + 1 ≤ mc ∧ ss + m ≤ ms) (hd : decode cc pc = .ok (.newarray atype, 2))
    (kk : ∀ n : Int, n = 136 + (T.length : Int) → R X (SH (T ++ [.inr (ty, m)])) (cs + 1) (ss + m) (pc + 2) L (vr (xV X) n :: st) (row F n (fun _ => 0)) Z) : R X (SH T) cs ss pc L (vi x :: st) F Z := by
  subst hm
  exact R_newaI hX hty h4 harr hx hr hd (by rw [SH_app]; exact kk _ (by rw [SH_len]; omega))
theorem R_anewOT (hX : Ok X own cc nL ret fr lo mc ms) {idx n : Nat} {x : Int} (hxn : x = (n : Int)) (hcl : Cond.classLink own idx "java/lang/Object" ∈ gwt) (hn : n < 100000) (hr : cs + 1 ≤ mc ∧ ss + n ≤ ms) (hd : decode cc pc = .ok (.anewarray idx, 3))
    (kk : ∀ k : Int, k = 136 + (T.length : Int) → R X (SH (T ++ [.inr (.object "java/lang/Object", n)])) (cs + 1) (ss + n) (pc + 3) L (vr (xV X) k :: st) (row F k (fun _ => -1)) Z) : R X (SH T) cs ss pc L (vi x :: st) F Z := by
  subst hxn
  exact R_anewO hX hcl hn hr hd (by rw [SH_app]; exact kk _ (by rw [SH_len]; omega))
theorem R_anewAT (hX : Ok X own cc nL ret fr lo mc ms) {idx n : Nat} {x : Int} (hxn : x = (n : Int)) (hcl : Cond.classLink own idx "[I" ∈ gwt) (hn : n < 100000) (hr : cs + 1 ≤ mc ∧ ss + n ≤ ms) (hd : decode cc pc = .ok (.anewarray idx, 3))
    (kk : ∀ k : Int, k = 136 + (T.length : Int) → R X (SH (T ++ [.inr (.array .int, n)])) (cs + 1) (ss + n) (pc + 3) L (vr (xV X) k :: st) (row F k (fun _ => -1)) Z) : R X (SH T) cs ss pc L (vi x :: st) F Z := by
  subst hxn
  exact R_anewA hX hcl hn hr hd (by rw [SH_app]; exact kk _ (by rw [SH_len]; omega))
theorem R_cloneI (hX : Ok X own cc nL ret fr lo mc ms) {idx n : Nat} {k : Int} (hd : decode cc pc = .ok (.invokevirtual idx, 3)) (hl : Cond.methodLink own idx ⟨"[I", "clone", "()Ljava/lang/Object;"⟩ ∈ gwt) (ha : isA (SH T) k .int n)
    (hr : 1 ≤ fr ∧ 22 ≤ lo ∧ cs + 1 ≤ mc ∧ ss + n ≤ ms ∧ L.length = nL ∧ (st.map fun v => v.category).sum ≤ 8)
    (kk : ∀ m : Int, m = 136 + (T.length : Int) → R X (SH (T ++ [.inr (.int, n)])) (cs + 1) (ss + n) (pc + 3) L (vr (xV X) m :: st) (row F m (F k)) Z) : R X (SH T) cs ss pc L (vr (xV X) k :: st) F Z :=
  R_clone (ty := .int) hX (Or.inl rfl) hd hl ob_sI ob_n ob_i ob_lI ob_cI ha (fun h => by cases h) hr (by rw [SH_app]; exact kk _ (by rw [SH_len]; omega))
theorem R_cloneB (hX : Ok X own cc nL ret fr lo mc ms) {idx n : Nat} {k : Int} (hd : decode cc pc = .ok (.invokevirtual idx, 3)) (hl : Cond.methodLink own idx ⟨"[B", "clone", "()Ljava/lang/Object;"⟩ ∈ gwt) (ha : isA (SH T) k .byte n) (hb : ∀ i : Int, 0 ≤ i → i < n → -128 ≤ F k i ∧ F k i < 128)
    (hr : 1 ≤ fr ∧ 22 ≤ lo ∧ cs + 1 ≤ mc ∧ ss + n ≤ ms ∧ L.length = nL ∧ (st.map fun v => v.category).sum ≤ 8)
    (kk : ∀ m : Int, m = 136 + (T.length : Int) → R X (SH (T ++ [.inr (.byte, n)])) (cs + 1) (ss + n) (pc + 3) L (vr (xV X) m :: st) (row F m (F k)) Z) : R X (SH T) cs ss pc L (vr (xV X) k :: st) F Z :=
  R_clone (ty := .byte) hX (Or.inr rfl) hd hl ob_sB ob_n ob_i ob_lB ob_cB ha (fun _ => hb) hr (by rw [SH_app]; exact kk _ (by rw [SH_len]; omega))
theorem R_getb (hX : Ok X own cc nL ret fr lo mc ms) {idx ci : Nat} {j k : Int} {fin : Bool} (hd : decode cc pc = .ok (.getfield idx, 3)) (hf : FLk own idx ci j .byte fin) {rs : List Int} (ho : isO (SH T) k ci rs) (hz0 : rs.getD j.toNat (-1) = -1) (kk : R X (SH T) cs ss (pc + 3) L (vi (F k j) :: st) F Z) : R X (SH T) cs ss pc L (vr (xV X) k :: st) F Z := R_getf hX hd hf ho hz0 kk
theorem R_putFi (hX : Ok X own cc nL ret fr lo mc ms) {idx ci : Nat} {j k x : Int} (hin : (xM X).name = "<init>") (hd : decode cc pc = .ok (.putfield idx, 3)) (hf : FLk own idx ci j .int true) (hoc : vwCl[ci]?.map (fun q => (q.2.1 j.toNat).1) = some own) {rs : List Int} (ho : isO (SH T) k ci rs) (hz0 : rs.getD j.toNat (-1) = -1) (kk : R X (SH T) cs ss (pc + 3) L st (up F k j x) Z) : R X (SH T) cs ss pc L (vi x :: vr (xV X) k :: st) F Z := R_putF hX hin hd hf hoc ho hz0 (Or.inl rfl) kk
theorem R_putFb (hX : Ok X own cc nL ret fr lo mc ms) {idx ci : Nat} {j k x : Int} (hin : (xM X).name = "<init>") (hd : decode cc pc = .ok (.putfield idx, 3)) (hf : FLk own idx ci j .byte true) (hoc : vwCl[ci]?.map (fun q => (q.2.1 j.toNat).1) = some own) {rs : List Int} (ho : isO (SH T) k ci rs) (hz0 : rs.getD j.toNat (-1) = -1) (hb : x = 0 ∨ x = 1) (kk : R X (SH T) cs ss (pc + 3) L st (up F k j x) Z) : R X (SH T) cs ss pc L (vi x :: vr (xV X) k :: st) F Z := R_putF hX hin hd hf hoc ho hz0 (Or.inr (Or.inr (Or.inr (Or.inr ⟨Or.inr rfl, hb⟩)))) kk
/-- the field of an object becomes frozen -/
theorem R_frzT {k : Int} {ci : Nat} {rs : List Int} {Tl : Shp} {N : Nat} (ho : isO (SH T) k ci []) (hk : 136 ≤ k) (hN : fN ci = N) (hT : Tl = T.set (k - 136).toNat (.inl (ci, rs))) (hv : ∀ j : Nat, j < N → 0 ≤ rs.getD j (-1) → (mkv (xV X) (ftys ci j) (F k (j : Int)) = vr (xV X) (rs.getD j (-1)))) (kk : R X (SH Tl) cs ss pc L st F Z) : R X (SH T) cs ss pc L st F Z := by
  subst hT
  have hlt : (k - 136).toNat < T.length := by have := ho.lt; rw [SH_len] at this; omega
  have hS : SH (T.set (k - 136).toNat (.inl (ci, rs))) = (SH T).set k.toNat (.inl (ci, rs)) := by
    have : k.toNat = 136 + (k - 136).toNat := by omega
    rw [this]
    generalize (k - 136).toNat = i
    rw [Nat.add_comm]
    rfl
  have hl : (SH (T.set (k - 136).toNat (.inl (ci, rs)))).length = (SH T).length := by rw [hS, List.length_set]
  intro hz H locs ls hP hS' hL
  refine kk (by rw [hl]; exact hz) H locs ls ?_ hS' hL
  have e : wl (xV X) (SH (T.set (k - 136).toNat (.inl (ci, rs)))) F = wl (xV X) (SH T) F := by
    rw [hS]
    apply List.ext_getElem?
    intro j
    by_cases hj : j < (SH T).length
    · have hj2 : j < ((SH T).set k.toNat (.inl (ci, rs))).length := by rw [List.length_set]; exact hj
      rw [wl_at (List.getElem?_eq_getElem hj2), wl_at (List.getElem?_eq_getElem hj)]
      by_cases e0 : j = k.toNat
      · subst e0
        have e1 : ((SH T).set k.toNat (Sum.inl (ci, rs)))[k.toNat] = Sum.inl (ci, rs) := by simp
        have e2 : (SH T)[k.toNat] = Sum.inl (ci, []) := (List.getElem?_eq_some_iff.mp ho.2).2
        rw [e1, e2]
        congr 2
        unfold cE
        dsimp only
        congr 2
        apply List.map_congr_left
        intro i hi
        rw [List.mem_range, hN] at hi
        unfold fv
        have e3 : ¬ (0 : Int) ≤ ([] : List Int).getD i (-1) := by simp
        rw [if_neg e3]
        by_cases h0 : 0 ≤ rs.getD i (-1)
        · rw [if_pos h0]
          have := hv i hi h0
          rw [Int.toNat_of_nonneg ho.1]
          exact this.symm
        · rw [if_neg h0]
      · have e1 : ((SH T).set k.toNat (Sum.inl (ci, rs)))[j] = (SH T)[j] := by
          rw [List.getElem_set_ne (fun q => e0 q.symm)]
        rw [e1]
    · rw [List.getElem?_eq_none (by rw [wl_len, List.length_set]; omega), List.getElem?_eq_none (by rw [wl_len]; omega)]
  unfold HP at hP ⊢
  rw [e]
  exact hP
end RT
