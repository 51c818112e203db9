section RG
variable {X : KX} {sh : Shp} {cs ss pc : Nat} {L : List (Option Value)} {st : List Value} {F : Hp} {Z : State → Prop} {own : String} {cc : ByteArray} {nL : Nat} {ret : Option FieldType} {fr lo mc ms : Nat}
theorem isO.app {sh : Shp} {k : Int} {ci : Nat} {rs : List Int} (h : isO sh k ci rs) (g : Shp) : isO (sh ++ g) k ci rs := ⟨h.1, by rw [List.getElem?_append_left (List.getElem?_eq_some_iff.mp h.2).1]; exact h.2⟩
theorem isA.app {sh : Shp} {k : Int} {ty : FieldType} {n : Nat} (h : isA sh k ty n) (g : Shp) : isA (sh ++ g) k ty n := ⟨h.1, by rw [List.getElem?_append_left (List.getElem?_eq_some_iff.mp h.2.1).1]; exact h.2.1, h.2.2⟩
theorem isO.lt {sh : Shp} {k : Int} {ci : Nat} {rs : List Int} (h : isO sh k ci rs) : 0 ≤ k ∧ k < sh.length := ⟨h.1, by have := (List.getElem?_eq_some_iff.mp h.2).1; have := h.1; omega⟩
theorem isA.lt {sh : Shp} {k : Int} {ty : FieldType} {n : Nat} (h : isA sh k ty n) : 0 ≤ k ∧ k < sh.length := ⟨h.1, by have := (List.getElem?_eq_some_iff.mp h.2.1).1; have := h.1; omega⟩
theorem isA.new {sh : Shp} {ty : FieldType} {n : Nat} (hn : n < 2147483648) {k : Int} (hk : k = sh.length) : isA (sh ++ [.inr (ty, n)]) k ty n := ⟨by omega, by rw [hk, Int.toNat_natCast]; simp, hn⟩
theorem isO.new {sh : Shp} {ci : Nat} {rs : List Int} {k : Int} (hk : k = sh.length) : isO (sh ++ [.inl (ci, rs)]) k ci rs := ⟨by omega, by rw [hk, Int.toNat_natCast]; simp⟩
theorem fit_b {x : Int} (h : -128 ≤ x ∧ x < 128) : fits .byte (.int (Int32.ofInt x)) = true := by
  have e3 : (Int32.ofInt x).toInt = x := i32_to (by unfold I32; omega)
  have a1 : (-128 : Int32) ≤ Int32.ofInt x := by
    rw [Int32.le_iff_toInt_le, e3]
    exact h.1
  have a2 : Int32.ofInt x ≤ (127 : Int32) := by
    rw [Int32.le_iff_toInt_le, e3]
    show x ≤ 127
    omega
  simp [fits, a1, a2]
/-- the new row's cells, when the heap has grown by one -/
theorem hp_push (hX : Ok X own cc nL ret fr lo mc ms) {g : Sg} {f : Int → Int} {H H1 : Heap} (hP : HP (xV X) sh F H) (hsz : H.size = vB (xV X) + sh.length) (o1 : ∀ q : Nat, q < H.size → H1[q]? = H[q]?) (hat : va_at (vD (xV X)) vwCl (vB (xV X) + sh.length, cE (xV X) g f) H1) : HP (xV X) (sh ++ [g]) (row F (sh.length : Int) f) H1 := by
  have hk : ∀ (k : Nat) (x : Nat × va_E), (wl (xV X) sh F)[k]? = some x → H1[x.1]? = H[x.1]? := fun k x hx => o1 x.1 ((hP k x hx).lt)
  unfold HP
  rw [wl_row]
  refine va_P.app (va_P.kept hP hk) (fun k x hx => ?_)
  have hz1 : k < 1 := (List.getElem?_eq_some_iff.mp hx).1
  rw [show k = 0 by omega] at hx
  cases hx
  exact hat
theorem R_newaI (hX : Ok X own cc nL ret fr lo mc ms) {atype : ArrayType} {x : Int} {ty : FieldType} (hty : newarray.typeOf atype = ty) (h4 : ty = .int ∨ ty = .long ∨ ty = .boolean ∨ ty = .byte) (harr : Cond.arrayClass ty ∈ gwt) (hx : 0 ≤ x ∧ x < 100000) (hr : cs + 1 ≤ mc ∧ ss + x.toNat ≤ ms) (hd : decode cc pc = .ok (.newarray atype, 2))
    (kk : R X (sh ++ [.inr (ty, x.toNat)]) (cs + 1) (ss + x.toNat) (pc + 2) L (vr (xV X) (sh.length : Int) :: st) (row F (sh.length : Int) (fun _ => 0)) Z) : R X sh cs ss pc L (vi x :: st) F Z := by
  have h := R_newa (F := F) (st := st) (n := x.toNat) hX hty h4 harr (by omega) hr hd kk
  rw [Int.toNat_of_nonneg hx.1] at h
  exact h
theorem R_anewO (hX : Ok X own cc nL ret fr lo mc ms) {idx n : Nat} (hcl : Cond.classLink own idx "java/lang/Object" ∈ gwt) (hn : n < 100000) (hr : cs + 1 ≤ mc ∧ ss + n ≤ ms) (hd : decode cc pc = .ok (.anewarray idx, 3))
    (kk : R X (sh ++ [.inr (.object "java/lang/Object", n)]) (cs + 1) (ss + n) (pc + 3) L (vr (xV X) (sh.length : Int) :: st) (row F (sh.length : Int) (fun _ => -1)) Z) : R X sh cs ss pc L (vi (n : Int) :: st) F Z := by
  intro hz H locs ls hP hS hL T0 hT S
  have hsz := sz_eq hz hT hP hS hX.2.2.2.2.2.2.1.1 S
  have hr2 := hX.2.2.2.2.2.2.2.2.2
  have e0 : (Int32.ofInt (n : Int)).toInt = n := i32_to (by unfold I32; omega)
  have hneg : ¬ (Int32.ofInt (n : Int)) < 0 := fun h => by
    have := Int32.lt_iff_toInt_lt.mp h
    rw [e0] at this
    simp at this
    omega
  have hcln : (Int32.ofInt (n : Int)).toNatClampNeg = n := by
    show (Int32.ofInt (n : Int)).toInt.toNat = _
    rw [e0]
    rfl
  obtain ⟨kA0, comp0, g1, g2, g3, g4⟩ := (hX.2.2.2.2.2.1.2 4 _ rfl).2
  refine W.anew (g := F0 (xm X) pc ls (vi (n : Int) :: st)) hX.1 hX.2.1 hX.2.2.1 (hX.2.2.2.2.1 _ hcl) (va_AO.use hX.2.2.2.2.2.2.1.gx.2.2.2.2.2.2.1) rfl hd rfl hneg (by rw [hcln]; omega) (by omega) (by rw [hcln]; omega) (fun cA kA comp f1 f2 f3 f4 => ?_) T0 hT S
  have ec : cA = vA (xV X) (.object "java/lang/Object") := Option.some.inj (f1.symm.trans g4)
  subst ec
  rw [hcln]
  generalize hH1 : H.push ({ cls := vA (xV X) (.object "java/lang/Object"), slots := Array.replicate n .null, vm := .none } : Cell) = H1
  have z1 : H1.size = H.size + 1 := by rw [← hH1, Array.size_push]
  have e1 : H1[H.size]? = some (arrV (vA (xV X) (.object "java/lang/Object")) n (fun _ => .null)) := by rw [← hH1, Array.getElem?_push_size, ← arrV_new]
  have o1 : ∀ q : Nat, q < H.size → H1[q]? = H[q]? := fun q hq => by rw [← hH1, Array.getElem?_push, if_neg (Nat.ne_of_lt hq)]
  have e := kk (by rw [List.length_append, List.length_singleton]; omega) H1 locs ls (hp_push hX hP hsz o1 (by
    rw [← hsz]
    show H1[H.size]? = some (vp_cell _ _)
    rw [e1]
    rfl)) ⟨Nat.le_trans hS.1 (by omega), fun x h1 h2 => (o1 x (Nat.lt_of_lt_of_le h1 hS.1)).trans (hS.2.1 x h1 h2), hS.2.2⟩ hL
  rw [vr_ref (Int.natCast_nonneg _), Int.toNat_natCast, ← hsz] at e
  exact e
theorem R_anewA (hX : Ok X own cc nL ret fr lo mc ms) {idx n : Nat} (hcl : Cond.classLink own idx "[I" ∈ gwt) (hn : n < 100000) (hr : cs + 1 ≤ mc ∧ ss + n ≤ ms) (hd : decode cc pc = .ok (.anewarray idx, 3))
    (kk : R X (sh ++ [.inr (.array .int, n)]) (cs + 1) (ss + n) (pc + 3) L (vr (xV X) (sh.length : Int) :: st) (row F (sh.length : Int) (fun _ => -1)) Z) : R X sh cs ss pc L (vi (n : Int) :: st) F Z := by
  intro hz H locs ls hP hS hL T0 hT S
  have hsz := sz_eq hz hT hP hS hX.2.2.2.2.2.2.1.1 S
  have hr2 := hX.2.2.2.2.2.2.2.2.2
  have e0 : (Int32.ofInt (n : Int)).toInt = n := i32_to (by unfold I32; omega)
  have hneg : ¬ (Int32.ofInt (n : Int)) < 0 := fun h => by
    have := Int32.lt_iff_toInt_lt.mp h
    rw [e0] at this
    simp at this
    omega
  have hcln : (Int32.ofInt (n : Int)).toNatClampNeg = n := by
    show (Int32.ofInt (n : Int)).toInt.toNat = _
    rw [e0]
    rfl
  have g4 : (xs X).vm.findClass ("[" ++ (FieldType.array .int).toString) = some (vA (xV X) (.array .int)) := (hX.2.2.2.2.2.1.2 5 _ rfl).2
  refine W.anewA (t := .int) (g := F0 (xm X) pc ls (vi (n : Int) :: st)) hX.1 hX.2.1 hX.2.2.1 (hX.2.2.2.2.1 _ hcl) hX.2.2.2.2.2.2.1.gx.2.2.2.2.2.2.2 rfl hd rfl hneg (by rw [hcln]; omega) (by omega) (by rw [hcln]; omega) (fun cA kA comp f1 f2 f3 f4 => ?_) T0 hT S
  have ec : cA = vA (xV X) (.array .int) := Option.some.inj (f1.symm.trans g4)
  subst ec
  rw [hcln]
  generalize hH1 : H.push ({ cls := vA (xV X) (.array .int), slots := Array.replicate n .null, vm := .none } : Cell) = H1
  have z1 : H1.size = H.size + 1 := by rw [← hH1, Array.size_push]
  have e1 : H1[H.size]? = some (arrV (vA (xV X) (.array .int)) n (fun _ => .null)) := by rw [← hH1, Array.getElem?_push_size, ← arrV_new]
  have o1 : ∀ q : Nat, q < H.size → H1[q]? = H[q]? := fun q hq => by rw [← hH1, Array.getElem?_push, if_neg (Nat.ne_of_lt hq)]
  have e := kk (by rw [List.length_append, List.length_singleton]; omega) H1 locs ls (hp_push hX hP hsz o1 (by
    rw [← hsz]
    show H1[H.size]? = some (vp_cell _ _)
    rw [e1]
    rfl)) ⟨Nat.le_trans hS.1 (by omega), fun x h1 h2 => (o1 x (Nat.lt_of_lt_of_le h1 hS.1)).trans (hS.2.1 x h1 h2), hS.2.2⟩ hL
  rw [vr_ref (Int.natCast_nonneg _), Int.toNat_natCast, ← hsz] at e
  exact e
def clAd (ty : FieldType) : String := match ty with
  | .int => "[I"
  | _ => "[B"
/-- a copy of a row of ints or bytes -/
theorem R_clone (hX : Ok X own cc nL ret fr lo mc ms) {idx n : Nat} {k : Int} {ty : FieldType} (ht : ty = .int ∨ ty = .byte) (hd : decode cc pc = .ok (.invokevirtual idx, 3)) (hl : Cond.methodLink own idx ⟨clAd ty, "clone", "()Ljava/lang/Object;"⟩ ∈ gwt)
    (hs : Cond.sameMethod (clAd ty) "java/lang/Object" "clone" "()Ljava/lang/Object;" ∈ gwt) (hn : Cond.native ⟨"java/lang/Object", "clone", "()Ljava/lang/Object;"⟩ ∈ gwt) (hi : Cond.instanceMethod ⟨"java/lang/Object", "clone", "()Ljava/lang/Object;"⟩ ∈ gwt)
    (hsl : Cond.selects (clAd ty) ⟨clAd ty, "clone", "()Ljava/lang/Object;"⟩ ⟨"java/lang/Object", "clone", "()Ljava/lang/Object;"⟩ ∈ gwt) (hca : Cond.castable (clAd ty) "java/lang/Cloneable" ∈ nst) (ha : isA sh k ty n) (hb : ty = .byte → ∀ i : Int, 0 ≤ i → i < n → -128 ≤ F k i ∧ F k i < 128)
    (hr : 1 ≤ fr ∧ 22 ≤ lo ∧ cs + 1 ≤ mc ∧ ss + n ≤ ms ∧ L.length = nL ∧ (st.map fun v => v.category).sum ≤ 8)
    (kk : R X (sh ++ [.inr (ty, n)]) (cs + 1) (ss + n) (pc + 3) L (vr (xV X) (sh.length : Int) :: st) (row F (sh.length : Int) (F k)) Z) : R X sh cs ss pc L (vr (xV X) k :: st) F Z := by
  intro hz H locs ls hP hS hL T0 hT S
  have hsz := sz_eq hz hT hP hS hX.2.2.2.2.2.2.1.1 S
  have hr2 := hX.2.2.2.2.2.2.2.2.2
  have hsz0 := S.heapSize
  rw [hT] at hsz0
  have hw := wl_at (V := xV X) (F := F) ha.2.1
  rw [vr_ref ha.1]
  have hK := hX.2.2.2.2.2.1
  have ez : ∃ f : Nat → Int32, aE (xV X) ty n (F (k.toNat : Int)) = (n, .inl f) ∧ f = fun j : Nat => Int32.ofInt (F (k.toNat : Int) (j : Int)) := by
    rcases ht with rfl | rfl <;> exact ⟨_, rfl, rfl⟩
  obtain ⟨f, ef, hfd⟩ := ez
  unfold cE at hw
  dsimp only at hw
  have hfit : ∀ (i : Nat) (v : Value), (vp_cell (vA (xV X) ty) (aE (xV X) ty n (F (k.toNat : Int)))).slots[i]? = some v → fits ty v = true := by
    intro i v hv
    rw [ef] at hv
    have hlt : i < n := by
      have h1 := (Array.getElem?_eq_some_iff.mp hv).1
      rw [vp_cell_i, arrV_size] at h1
      exact h1
    rw [vp_cell_i, arrV_read _ _ hlt] at hv
    cases hv
    rcases ht with rfl | rfl
    · rfl
    · have hbb := hb rfl (i : Int) (Int.natCast_nonneg _) (by omega)
      rw [hfd]
      show fits .byte (.int (Int32.ofInt _)) = true
      rw [Int.toNat_of_nonneg ha.1]
      exact fit_b hbb
  have hnm : (xs X).vm.findClass (clAd ty) = some (vA (xV X) ty) := by
    rcases ht with rfl | rfl
    · exact (hK.2 0 _ rfl).2
    · exact (hK.2 3 _ rfl).2
  obtain ⟨t0, ht0⟩ : ∃ t0, (tys4 (xV X))[t0]? = some (vA (xV X) ty, ty) := by
    rcases ht with rfl | rfl
    · exact ⟨0, rfl⟩
    · exact ⟨3, rfl⟩
  have hlen : (aE (xV X) ty n (F (k.toNat : Int))).1 = n := by rw [ef]
  refine va_clone hX.1 hX.2.1 (by rw [hX.2.2.2.1, hL.1, hr.2.2.2.2.1]) hX.2.2.1 (hX.2.2.2.2.1 _ hl) (hX.2.2.2.2.1 _ hs) (hX.2.2.2.2.1 _ hn) (hX.2.2.2.2.1 _ hi) (hX.2.2.2.2.1 _ hsl) (hX.2.2.2.2.2.2.1.nsts _ hca) hK hP wl_D hS (fun q h => by
    unfold AB
    have := hX.2.2.2.2.2.2.1.1
    omega) k.toNat t0 hw ht0 hnm hfit (by omega) (by omega) (by omega) (by rw [hlen]; omega) hd (fun q H1 hK1 hP1 hD1 hS1 T1 hT1 S1 => ?_) T0 hT S
  have hb1 := S1.heapSize
  rw [hT1] at hb1
  have hq : (wl (xV X) sh F ++ [(q, (Sum.inl (vA (xV X) ty, aE (xV X) ty n (F (k.toNat : Int))) : va_E))])[sh.length]? = some (q, .inl (vA (xV X) ty, aE (xV X) ty n (F (k.toNat : Int)))) := by
    rw [List.getElem?_append_right (by rw [wl_len]; exact Nat.le_refl _), wl_len, Nat.sub_self]
    rfl
  have hqlt := (hP1 sh.length _ hq).lt
  have hqA : vB (xV X) ≤ q := hD1.2 sh.length _ hq
  have eq0 : q = vB (xV X) + sh.length := by
    rcases Nat.lt_or_ge q (vB (xV X) + sh.length) with hlt | hge
    · exfalso
      have hj : q - vB (xV X) < sh.length := by omega
      have hx : (wl (xV X) sh F ++ [(q, (Sum.inl (vA (xV X) ty, aE (xV X) ty n (F (k.toNat : Int))) : va_E))])[q - vB (xV X)]? = some (vB (xV X) + (q - vB (xV X)), cE (xV X) sh[q - vB (xV X)] (F ((q - vB (xV X) : Nat) : Int))) := by
        rw [List.getElem?_append_left (by rw [wl_len]; exact hj)]
        exact wl_at (List.getElem?_eq_getElem hj)
      have := hD1.1 _ _ _ _ hx hq (by dsimp only; omega)
      omega
    · dsimp only at hqlt
      omega
  subst eq0
  have e := kk (by rw [List.length_append, List.length_singleton]; omega) H1 locs ls (by
    unfold HP
    rw [wl_row]
    unfold cE
    dsimp only
    rw [Int.toNat_of_nonneg ha.1] at hP1
    exact hP1) hS1 hL
  rw [vr_ref (Int.natCast_nonneg _), Int.toNat_natCast] at e
  rw [hlen] at S1
  exact e T1 hT1 S1
theorem R_castA (hX : Ok X own cc nL ret fr lo mc ms) {idx n : Nat} {k : Int} {ty : FieldType} (ht : ty = .int ∨ ty = .byte) (hd : decode cc pc = .ok (.checkcast idx, 3)) (hl : Cond.classLink own idx (clAd ty) ∈ gwt) (ha : isA sh k ty n) (kk : R X sh cs ss (pc + 3) L (vr (xV X) k :: st) F Z) : R X sh cs ss pc L (vr (xV X) k :: st) F Z := by
  intro hz H locs ls hP hS hL
  have h := kk hz H locs ls hP hS hL
  rw [vr_ref ha.1] at h ⊢
  have hnm : (xs X).vm.findClass (clAd ty) = some (vA (xV X) ty) := by
    rcases ht with rfl | rfl
    · exact (hX.2.2.2.2.2.1.2 0 _ rfl).2
    · exact (hX.2.2.2.2.2.1.2 3 _ rfl).2
  exact va_castA hX.1 hX.2.1 hX.2.2.1 (hX.2.2.2.2.1 _ hl) hP k.toNat (wl_at (V := xV X) (F := F) ha.2.1) hnm hd h
theorem R_castO (hX : Ok X own cc nL ret fr lo mc ms) {idx ci N : Nat} {k : Int} {C : String} {T : u_T} {rs : List Int} (hd : decode cc pc = .ok (.checkcast idx, 3)) (hl : Cond.classLink own idx C ∈ gwt) (ho : isO sh k ci rs) (hcl : vwCl[ci]? = some (C, T, N)) (kk : R X sh cs ss (pc + 3) L (vr (xV X) k :: st) F Z) : R X sh cs ss pc L (vr (xV X) k :: st) F Z := by
  intro hz H locs ls hP hS hL
  have h := kk hz H locs ls hP hS hL
  have hr := recv_at hX hP ho (C := C) (by rw [hcl]; rfl)
  rw [vr_ref ho.1] at h ⊢
  exact va_castS hX.1 hX.2.1 hX.2.2.1 (hX.2.2.2.2.1 _ hl) (hX.2.2.2.2.2.1.1 ci _ hcl).2 hr hd h
-- rows of bytes: copies of rows and of texts
theorem sum_cat (l : List Value) (h : l.length ≤ 4) : (l.map fun v => v.category).sum ≤ 8 := by
  have := cat_le l
  omega
theorem i32_pos {q : Int} (hq : 0 ≤ q) (hq2 : q ≤ 2147483647) : ¬ (Int32.ofInt q < 0) ∧ (Int32.ofInt q).toNatClampNeg = q.toNat := by
  have e : (Int32.ofInt q).toInt = q := i32_to (by unfold I32; omega)
  refine ⟨fun h => ?_, ?_⟩
  · have := Int32.lt_iff_toInt_lt.mp h
    rw [e] at this
    simp at this
    omega
  · show (Int32.ofInt q).toInt.toNat = _
    rw [e]
theorem cpy_eq {F : Hp} {a b sp dp n : Int} (ha : 0 ≤ a) (hb : 0 ≤ b) (h1 : 0 ≤ sp) (h2 : 0 ≤ dp) (h3 : 0 ≤ n) : va_cpy (fun j : Nat => Int32.ofInt (F (a.toNat : Int) (j : Int))) (fun j : Nat => Int32.ofInt (F (b.toNat : Int) (j : Int))) sp.toNat dp.toNat n.toNat = fun j : Nat => Int32.ofInt (cpy F a sp b dp n (b.toNat : Int) (j : Int)) := by
  funext j
  unfold va_cpy cpy
  by_cases h : dp.toNat ≤ j ∧ j < dp.toNat + n.toNat
  · rw [if_pos h, if_pos ⟨by omega, by omega, by omega⟩]
    show Int32.ofInt (F (a.toNat : Int) ((sp.toNat + (j - dp.toNat) : Nat) : Int)) = Int32.ofInt (F a (sp + ((j : Int) - dp)))
    rw [Int.toNat_of_nonneg ha, show ((sp.toNat + (j - dp.toNat) : Nat) : Int) = sp + ((j : Int) - dp) by omega]
  · rw [if_neg h, if_neg (fun q => h ⟨by omega, by omega⟩)]
theorem R_acopyB (hX : Ok X own cc nL ret fr lo mc ms) {a b sp dp n : Int} {na nb idx : Nat} (hd : decode cc pc = .ok (.invokestatic idx, 3)) (hl : Cond.methodLink own idx arraycopyName ∈ gwt) (hnat : Cond.native arraycopyName ∈ gwt) (hst : Cond.static arraycopyName ∈ gwt) (hini : Cond.initialized "java/lang/System" ∈ gwt) (ha : isA sh a .byte na) (hb : isA sh b .byte nb) (h1 : 0 ≤ sp) (h2 : 0 ≤ dp) (h3 : 0 ≤ n) (h4 : sp + n ≤ na) (h5 : dp + n ≤ nb) (hfit : ∀ i : Int, sp ≤ i → i < sp + n → -128 ≤ F a i ∧ F a i < 128) (hr : 1 ≤ fr ∧ 60 ≤ lo ∧ L.length = nL ∧ (st.map fun v => v.category).sum ≤ 8) (kk : R X sh cs ss (pc + 3) L st (cpy F a sp b dp n) Z) : R X sh cs ss pc L (vi n :: vi dp :: vr (xV X) b :: vi sp :: vr (xV X) a :: st) F Z := by
  intro hz H locs ls hP hS hL
  rw [vr_ref ha.1, vr_ref hb.1]
  have hna := ha.2.2
  have hnb := hb.2.2
  obtain ⟨z1, y1⟩ := i32_pos h1 (by omega)
  obtain ⟨z2, y2⟩ := i32_pos h2 (by omega)
  obtain ⟨z3, y3⟩ := i32_pos h3 (by omega)
  have hnw : nativeFrameWords "java/lang/System" "arraycopy" 5 + 11 ≤ 52 := by decide
  have hr2 := hX.2.2.2.2.2.2.2.2.2
  refine va_copyi hX.1 hX.2.1 (by rw [hX.2.2.2.1, hL.1, hr.2.2.1]) hX.2.2.1 (hX.2.2.2.2.1 _ hl) (hX.2.2.2.2.1 _ hnat) (hX.2.2.2.2.1 _ hst) (hX.2.2.2.2.1 _ hini) hX.2.2.2.2.2.1 hP wl_D hS a.toNat b.toNat 3 3 (wl_at ha.2.1) (wl_at hb.2.1) rfl rfl rfl z1 z2 z3 (by omega) (by omega) (fun i hi => ?_) (by omega) (by omega) hd (fun H1 locs1 hP1 hD1 hS1 => ?_)
  · rw [y1]
    rw [y3] at hi
    show fits .byte (.int (Int32.ofInt (F (a.toNat : Int) ((sp.toNat + i : Nat) : Int)))) = true
    rw [Int.toNat_of_nonneg ha.1]
    exact fit_b (hfit _ (by omega) (by omega))
  · rw [y1, y2, y3, cpy_eq ha.1 hb.1 h1 h2 h3] at hP1
    have e := wl_ext (V := xV X) (F := F) (F' := cpy F a sp b dp n) hb.2.1 (fun j hj hne => by
      funext i
      unfold cpy
      rw [if_neg (fun q => hne (by have := q.1; have := hb.1; omega))])
    have e3 : (wl (xV X) sh F).set b.toNat (vB (xV X) + b.toNat, Sum.inl (vA (xV X) .byte, nb, Sum.inl fun j : Nat => Int32.ofInt (cpy F a sp b dp n (b.toNat : Int) (j : Int)))) = wl (xV X) sh (cpy F a sp b dp n) := e
    rw [e3] at hP1
    exact kk hz H1 locs1 ls hP1 hS1 hL
/-- a text's bytes put into a row -/
def cpyT (F : Hp) (g : Nat → Int32) (b dp n : Int) : Hp := fun q i => if q = b ∧ dp ≤ i ∧ i < dp + n then (g (i - dp).toNat).toInt else F q i
theorem R_copyT (hX : Ok X own cc nL ret fr lo mc ms) {t N : Nat} {g : Nat → Int32} {b dp n : Int} {nb idx : Nat} (hd : decode cc pc = .ok (.invokestatic idx, 3)) (hl : Cond.methodLink own idx arraycopyName ∈ gwt) (hnat : Cond.native arraycopyName ∈ gwt) (hst : Cond.static arraycopyName ∈ gwt) (hini : Cond.initialized "java/lang/System" ∈ gwt) (hT : va_T .byte t N (fun j => .int (g j)) (AB (xV X)) (xs X) (xs X).heap) (hN : N < 2147483648) (hb : isA sh b .byte nb) (h2 : 0 ≤ dp) (h3 : 0 ≤ n) (h4 : n ≤ N) (h5 : dp + n ≤ nb) (hfit : ∀ i : Nat, i < N → fits .byte (.int (g i)) = true) (hr : 1 ≤ fr ∧ 60 ≤ lo ∧ L.length = nL ∧ (st.map fun v => v.category).sum ≤ 8) (kk : R X sh cs ss (pc + 3) L st (cpyT F g b dp n) Z) : R X sh cs ss pc L (vi n :: vi dp :: vr (xV X) b :: vi 0 :: .ref t :: st) F Z := by
  intro hz H locs ls hP hS hL
  rw [vr_ref hb.1]
  have hnb := hb.2.2
  obtain ⟨z1, y1⟩ := i32_pos (q := 0) (by omega) (by omega)
  obtain ⟨z2, y2⟩ := i32_pos h2 (by omega)
  obtain ⟨z3, y3⟩ := i32_pos h3 (by omega)
  have hnw : nativeFrameWords "java/lang/System" "arraycopy" 5 + 11 ≤ 52 := by decide
  have hr2 := hX.2.2.2.2.2.2.2.2.2
  refine vk_copyt hX.1 hX.2.1 (by rw [hX.2.2.2.1, hL.1, hr.2.2.1]) hX.2.2.1 (hX.2.2.2.2.1 _ hl) (hX.2.2.2.2.1 _ hnat) (hX.2.2.2.2.1 _ hst) (hX.2.2.2.2.1 _ hini) hX.2.2.2.2.2.1 hP wl_D hS hT b.toNat 3 (wl_at hb.2.1) rfl z1 z2 z3 (by omega) (by omega) (fun i hi => hfit _ (by omega)) (by omega) (by omega) hd (fun H1 locs1 hP1 hD1 hS1 => ?_)
  rw [y1, y2, y3] at hP1
  have e2 : va_cpy g (fun j : Nat => Int32.ofInt (F (b.toNat : Int) (j : Int))) (0 : Int).toNat dp.toNat n.toNat = fun j : Nat => Int32.ofInt (cpyT F g b dp n (b.toNat : Int) (j : Int)) := by
    funext j
    unfold va_cpy cpyT
    have hb1 := hb.1
    by_cases h : dp.toNat ≤ j ∧ j < dp.toNat + n.toNat
    · rw [if_pos h, if_pos ⟨by omega, by omega, by omega⟩, Int32.ofInt_toInt]
      congr 1
      omega
    · rw [if_neg h, if_neg (fun q => h ⟨by omega, by omega⟩)]
  rw [e2] at hP1
  have e := wl_ext (V := xV X) (F := F) (F' := cpyT F g b dp n) hb.2.1 (fun j hj hne => by
    funext i
    unfold cpyT
    rw [if_neg (fun q => hne (by have := q.1; have := hb.1; omega))])
  have e3 : (wl (xV X) sh F).set b.toNat (vB (xV X) + b.toNat, Sum.inl (vA (xV X) .byte, nb, Sum.inl fun j : Nat => Int32.ofInt (cpyT F g b dp n (b.toNat : Int) (j : Int)))) = wl (xV X) sh (cpyT F g b dp n) := e
  rw [e3] at hP1
  exact kk hz H1 locs1 ls hP1 hS1 hL
-- the lists' rows
theorem vq_ge {V : VX} {x : Int} (h : 0 ≤ x) : vq V x = vr V x := if_neg (by omega)
theorem R_getQ (hX : Ok X own cc nL ret fr lo mc ms) {idx ci : Nat} {j k : Int} {n : String} {fin : Bool} (hd : decode cc pc = .ok (.getfield idx, 3)) (hf : FLk own idx ci j (.array (.object n)) fin) {rs : List Int} (ho : isO sh k ci rs) (hz0 : rs.getD j.toNat (-1) = -1) (kk : R X sh cs ss (pc + 3) L (vq (xV X) (F k j) :: st) F Z) : R X sh cs ss pc L (vr (xV X) k :: st) F Z := R_getf hX hd hf ho hz0 kk
theorem R_putQ (hX : Ok X own cc nL ret fr lo mc ms) {idx ci : Nat} {j k x : Int} {n : String} (hd : decode cc pc = .ok (.putfield idx, 3)) (hf : FLk own idx ci j (.array (.object n)) false) {rs : List Int} (ho : isO sh k ci rs) (hz0 : rs.getD j.toNat (-1) = -1) (kk : R X sh cs ss (pc + 3) L st (up F k j x) Z) : R X sh cs ss pc L (vq (xV X) x :: vr (xV X) k :: st) F Z := R_putf hX hd hf ho hz0 (Or.inr (Or.inr (Or.inr (Or.inl ⟨_, rfl⟩)))) kk
theorem R_acmpeqT (hX : Ok X own cc nL ret fr lo mc ms) {q : Nat} {off : Int} {tgt : Nat} (hd : decode cc pc = .ok (.if_acmp .eq off, 3)) (ht : (pc : Int) + off = (tgt : Int)) (kk : R X sh cs ss tgt L st F Z) : R X sh cs ss pc L (.ref q :: .ref q :: st) F Z := fun hz H locs ls hP hS hL =>
  lv_acmp_eq (rx := some q) (ry := some q) hX.1 hX.2.1 hd ht (fun _ => kk hz H locs ls hP hS hL) (fun h => absurd rfl h)
end RG
