section RH
variable {X : KX} {sh : Shp} {cs ss pc : Nat} {L : List (Option Value)} {st : List Value} {F : Hp} {Z : State → Prop} {own : String} {cc : ByteArray} {nL : Nat} {ret : Option FieldType} {fr lo mc ms : Nat}
theorem fl_same (hX : Ok X own cc nL ret fr lo mc ms) {T : u_T} {k : Nat} {rf : String} (h : rf = (T k).1 ∨ Cond.sameField rf (T k).1 (T k).2.1 (T k).2.2.1 ∈ gwt) : ∀ x, (xs X).fieldFound? (T k).1 (T k).2.1 (T k).2.2.1 = some x → (xs X).fieldFound? rf (T k).2.1 (T k).2.2.1 = some x := fun x hx => by
  rcases h with h | h
  · rw [h]; exact hx
  · exact u_same (hX.2.2.2.2.1 _ h) x hx
theorem R_getf (hX : Ok X own cc nL ret fr lo mc ms) {idx ci : Nat} {j k : Int} {ty : FieldType} {fin : Bool} (hd : decode cc pc = .ok (.getfield idx, 3)) (hf : FLk own idx ci j ty fin) {rs : List Int} (ho : isO sh k ci rs) (hz0 : rs.getD j.toNat (-1) = -1) (kk : R X sh cs ss (pc + 3) L (mkv (xV X) ty (F k j) :: st) F Z) : R X sh cs ss pc L (vr (xV X) k :: st) F Z := by
  intro hz H locs ls hP hS hL
  obtain ⟨hj, hty, C, T, N, rf, hcf, hjN, hl, -, hrf⟩ := hf
  have hcf' := hcf
  obtain ⟨c1', c2, c3, c4, c5⟩ := hcf
  rw [vr_ref ho.1]
  have hw := wl_at (V := xV X) (F := F) ho.2
  refine va_get (v := mkv (xV X) ty (F k j)) hX.1 hX.2.1 hX.2.2.2.2.1 c3 hX.2.2.1 hX.2.2.2.2.2.1 hP k.toNat hw c1' j.toNat hjN (hX.2.2.2.2.1 _ hl) (fl_same hX hrf) ?_ hd (kk hz H locs ls hP hS hL)
  rw [List.getElem?_map, List.getElem?_range (by rw [c2]; exact hjN)]
  show some (fv (xV X) rs (ftys ci j.toNat) j.toNat (F (k.toNat : Int) (j.toNat : Int))) = _
  unfold fv
  rw [hz0, if_neg (by decide), hty, Int.toNat_of_nonneg hj, Int.toNat_of_nonneg ho.1]
theorem R_geti (hX : Ok X own cc nL ret fr lo mc ms) {idx ci : Nat} {j k : Int} {fin : Bool} (hd : decode cc pc = .ok (.getfield idx, 3)) (hf : FLk own idx ci j .int fin) {rs : List Int} (ho : isO sh k ci rs) (hz0 : rs.getD j.toNat (-1) = -1) (kk : R X sh cs ss (pc + 3) L (vi (F k j) :: st) F Z) : R X sh cs ss pc L (vr (xV X) k :: st) F Z := R_getf hX hd hf ho hz0 kk
theorem R_getz (hX : Ok X own cc nL ret fr lo mc ms) {idx ci : Nat} {j k : Int} {fin : Bool} (hd : decode cc pc = .ok (.getfield idx, 3)) (hf : FLk own idx ci j .boolean fin) {rs : List Int} (ho : isO sh k ci rs) (hz0 : rs.getD j.toNat (-1) = -1) (kk : R X sh cs ss (pc + 3) L (vi (F k j) :: st) F Z) : R X sh cs ss pc L (vr (xV X) k :: st) F Z := R_getf hX hd hf ho hz0 kk
theorem R_getl (hX : Ok X own cc nL ret fr lo mc ms) {idx ci : Nat} {j k : Int} {fin : Bool} (hd : decode cc pc = .ok (.getfield idx, 3)) (hf : FLk own idx ci j .long fin) {rs : List Int} (ho : isO sh k ci rs) (hz0 : rs.getD j.toNat (-1) = -1) (kk : R X sh cs ss (pc + 3) L (vl (F k j) :: st) F Z) : R X sh cs ss pc L (vr (xV X) k :: st) F Z := R_getf hX hd hf ho hz0 kk
theorem R_geto (hX : Ok X own cc nL ret fr lo mc ms) {idx ci : Nat} {j k : Int} {fin : Bool} {n : String} (hd : decode cc pc = .ok (.getfield idx, 3)) (hf : FLk own idx ci j (.object n) fin) {rs : List Int} (ho : isO sh k ci rs) (hz0 : rs.getD j.toNat (-1) = -1) (kk : R X sh cs ss (pc + 3) L (vr (xV X) (F k j) :: st) F Z) : R X sh cs ss pc L (vr (xV X) k :: st) F Z := R_getf hX hd hf ho hz0 kk
theorem R_geta (hX : Ok X own cc nL ret fr lo mc ms) {idx ci : Nat} {j k : Int} {fin : Bool} {t : FieldType} (hm : ∀ V x, mkv V (.array t) x = vr V x) (hd : decode cc pc = .ok (.getfield idx, 3)) (hf : FLk own idx ci j (.array t) fin) {rs : List Int} (ho : isO sh k ci rs) (hz0 : rs.getD j.toNat (-1) = -1) (kk : R X sh cs ss (pc + 3) L (vr (xV X) (F k j) :: st) F Z) : R X sh cs ss pc L (vr (xV X) k :: st) F Z := R_getf hX hd hf ho hz0 (by rw [hm]; exact kk)
theorem R_getq (hX : Ok X own cc nL ret fr lo mc ms) {idx ci : Nat} {j k v : Int} {ty : FieldType} {fin : Bool} (hd : decode cc pc = .ok (.getfield idx, 3)) (hf : FLk own idx ci j ty fin) {rs : List Int} (ho : isO sh k ci rs) (hv : rs.getD j.toNat (-1) = v) (h0 : 0 ≤ v) (kk : R X sh cs ss (pc + 3) L (vr (xV X) v :: st) F Z) : R X sh cs ss pc L (vr (xV X) k :: st) F Z := by
  intro hz H locs ls hP hS hL
  obtain ⟨hj, hty, C, T, N, rf, hcf, hjN, hl, -, hrf⟩ := hf
  have hcf' := hcf
  obtain ⟨c1', c2, c3, c4, c5⟩ := hcf
  rw [vr_ref ho.1]
  have hw := wl_at (V := xV X) (F := F) ho.2
  refine va_get (v := vr (xV X) v) hX.1 hX.2.1 hX.2.2.2.2.1 c3 hX.2.2.1 hX.2.2.2.2.2.1 hP k.toNat hw c1' j.toNat hjN (hX.2.2.2.2.1 _ hl) (fl_same hX hrf) ?_ hd (kk hz H locs ls hP hS hL)
  rw [List.getElem?_map, List.getElem?_range (by rw [c2]; exact hjN)]
  show some (fv (xV X) rs (ftys ci j.toNat) j.toNat (F (k.toNat : Int) (j.toNat : Int))) = _
  unfold fv
  rw [hv, if_pos h0]
theorem cE_put {V : VX} {F : Hp} {k : Nat} {ci j : Nat} {rs : List Int} {x : Int} (hj : j < fN ci) (hz0 : rs.getD j (-1) = -1) : (cE V (.inl (ci, rs)) (up F (k : Int) (j : Int) x (k : Int))) = .inr (ci, ((List.range (fN ci)).map fun (i : Nat) => fv V rs (ftys ci i) i (F (k : Int) (i : Int))).set j (mkv V (ftys ci j) x)) := by
  show Sum.inr _ = Sum.inr _
  congr 2
  apply List.ext_getElem?
  intro i
  by_cases hi : i < fN ci
  · rw [List.getElem?_map, List.getElem?_range hi]
    by_cases hij : i = j
    · subst hij
      rw [List.getElem?_set_self (by simpa using hi)]
      show some (fv V rs (ftys ci i) i (up F k i x k i)) = _
      unfold fv
      rw [up_s, hz0, if_neg (by decide)]
    · rw [List.getElem?_set_ne (fun e => hij e.symm), List.getElem?_map, List.getElem?_range hi]
      show some (fv V rs (ftys ci i) i (up F k j x k i)) = some (fv V rs (ftys ci i) i (F k i))
      rw [up_i (by omega)]
  · rw [List.getElem?_eq_none (by simp; omega), List.getElem?_eq_none (by simp; omega)]
theorem wl_put {V : VX} {sh : Shp} {F : Hp} {k : Int} {ci : Nat} {rs : List Int} {j x : Int} (ho : isO sh k ci rs) (hj : 0 ≤ j) (hj2 : j.toNat < fN ci) (hz0 : rs.getD j.toNat (-1) = -1) :
    (wl V sh F).set k.toNat (vB V + k.toNat, .inr (ci, ((List.range (fN ci)).map fun (i : Nat) => fv V rs (ftys ci i) i (F (k.toNat : Int) (i : Int))).set j.toNat (mkv V (ftys ci j.toNat) x))) = wl V sh (up F k j x) := by
  have e := wl_ext (V := V) (F := F) (F' := up F k j x) ho.2 (fun i hi hne => up_row (by have := ho.1; omega))
  rw [← e]
  congr 1
  have h2 := cE_put (V := V) (F := F) (k := k.toNat) (x := x) hj2 hz0
  rw [Int.toNat_of_nonneg hj, Int.toNat_of_nonneg ho.1] at h2
  rw [Int.toNat_of_nonneg ho.1, h2]
theorem mkv_nar {V : VX} {ty : FieldType} {x : Int} (h : ty = .int ∨ ty = .long ∨ (∃ n, ty = .object n) ∨ (∃ t, ty = .array t) ∨ ((ty = .boolean ∨ ty = .byte) ∧ (x = 0 ∨ x = 1))) : narrow ty (mkv V ty x) = mkv V ty x ∧ fits ty (mkv V ty x) = true := by
  rcases h with rfl | rfl | ⟨n, rfl⟩ | ⟨t, rfl⟩ | ⟨rfl | rfl, rfl | rfl⟩
  · exact ⟨rfl, rfl⟩
  · exact ⟨rfl, rfl⟩
  · unfold mkv vr
    dsimp only
    split <;> exact ⟨rfl, rfl⟩
  · unfold mkv
    cases t <;> (dsimp only; first | (unfold vr; split <;> exact ⟨rfl, rfl⟩) | (unfold vq vr; split <;> (try split) <;> exact ⟨rfl, rfl⟩))
  · exact ⟨rfl, rfl⟩
  · exact ⟨rfl, rfl⟩
  · exact ⟨rfl, rfl⟩
  · exact ⟨rfl, rfl⟩
theorem R_putf (hX : Ok X own cc nL ret fr lo mc ms) {idx ci : Nat} {j k x : Int} {ty : FieldType} (hd : decode cc pc = .ok (.putfield idx, 3)) (hf : FLk own idx ci j ty false) {rs : List Int} (ho : isO sh k ci rs) (hz0 : rs.getD j.toNat (-1) = -1) (ht : ty = .int ∨ ty = .long ∨ (∃ n, ty = .object n) ∨ (∃ t, ty = .array t) ∨ ((ty = .boolean ∨ ty = .byte) ∧ (x = 0 ∨ x = 1))) (kk : R X sh cs ss (pc + 3) L st (up F k j x) Z) : R X sh cs ss pc L (mkv (xV X) ty x :: vr (xV X) k :: st) F Z := by
  intro hz H locs ls hP hS hL
  obtain ⟨hj, hty, C, T, N, rf, hcf, hjN, hl, hfin, hrf⟩ := hf
  have hcf' := hcf
  obtain ⟨q1, q2, q3, q4, q5⟩ := hcf
  rw [vr_ref ho.1]
  have hw := wl_at (V := xV X) (F := F) ho.2
  obtain ⟨hn, hfit⟩ := mkv_nar (V := xV X) ht
  subst hty
  refine va_put (v := mkv (xV X) (ftys ci j.toNat) x) hX.1 hX.2.1 hX.2.2.2.2.1 q3 (ftys ci) q5 q4 hX.2.2.1 hX.2.2.2.2.2.1 hP wl_D hS k.toNat hw q1 j.toNat hjN (hX.2.2.2.2.1 _ hl) (fl_same hX hrf) hfin (q5 _ hjN) hn hfit (by simp; omega) hd (fun H1 locs1 hP1 hD1 hS1 => ?_)
  rw [wl_put ho hj (by omega) hz0] at hP1
  exact kk hz H1 locs1 ls hP1 hS1 hL
theorem R_puti (hX : Ok X own cc nL ret fr lo mc ms) {idx ci : Nat} {j k x : Int} (hd : decode cc pc = .ok (.putfield idx, 3)) (hf : FLk own idx ci j .int false) {rs : List Int} (ho : isO sh k ci rs) (hz0 : rs.getD j.toNat (-1) = -1) (kk : R X sh cs ss (pc + 3) L st (up F k j x) Z) : R X sh cs ss pc L (vi x :: vr (xV X) k :: st) F Z := R_putf hX hd hf ho hz0 (Or.inl rfl) kk
theorem R_putl (hX : Ok X own cc nL ret fr lo mc ms) {idx ci : Nat} {j k x : Int} (hd : decode cc pc = .ok (.putfield idx, 3)) (hf : FLk own idx ci j .long false) {rs : List Int} (ho : isO sh k ci rs) (hz0 : rs.getD j.toNat (-1) = -1) (kk : R X sh cs ss (pc + 3) L st (up F k j x) Z) : R X sh cs ss pc L (vl x :: vr (xV X) k :: st) F Z := R_putf hX hd hf ho hz0 (Or.inr (Or.inl rfl)) kk
theorem R_puto (hX : Ok X own cc nL ret fr lo mc ms) {idx ci : Nat} {j k x : Int} {n : String} (hd : decode cc pc = .ok (.putfield idx, 3)) (hf : FLk own idx ci j (.object n) false) {rs : List Int} (ho : isO sh k ci rs) (hz0 : rs.getD j.toNat (-1) = -1) (kk : R X sh cs ss (pc + 3) L st (up F k j x) Z) : R X sh cs ss pc L (vr (xV X) x :: vr (xV X) k :: st) F Z := R_putf hX hd hf ho hz0 (Or.inr (Or.inr (Or.inl ⟨n, rfl⟩))) kk
theorem R_putz (hX : Ok X own cc nL ret fr lo mc ms) {idx ci : Nat} {j k x : Int} (hd : decode cc pc = .ok (.putfield idx, 3)) (hf : FLk own idx ci j .boolean false) {rs : List Int} (ho : isO sh k ci rs) (hz0 : rs.getD j.toNat (-1) = -1) (hb : x = 0 ∨ x = 1) (kk : R X sh cs ss (pc + 3) L st (up F k j x) Z) : R X sh cs ss pc L (vi x :: vr (xV X) k :: st) F Z := R_putf hX hd hf ho hz0 (Or.inr (Or.inr (Or.inr (Or.inr ⟨Or.inl rfl, hb⟩)))) kk
theorem R_puta (hX : Ok X own cc nL ret fr lo mc ms) {idx ci : Nat} {j k x : Int} {t : FieldType} (hm : ∀ V x, mkv V (.array t) x = vr V x) (hd : decode cc pc = .ok (.putfield idx, 3)) (hf : FLk own idx ci j (.array t) false) {rs : List Int} (ho : isO sh k ci rs) (hz0 : rs.getD j.toNat (-1) = -1) (kk : R X sh cs ss (pc + 3) L st (up F k j x) Z) : R X sh cs ss pc L (vr (xV X) x :: vr (xV X) k :: st) F Z := by rw [← hm]; exact R_putf hX hd hf ho hz0 (Or.inr (Or.inr (Or.inr (Or.inl ⟨t, rfl⟩)))) kk
theorem R_putb (hX : Ok X own cc nL ret fr lo mc ms) {idx ci : Nat} {j k x : Int} (hd : decode cc pc = .ok (.putfield idx, 3)) (hf : FLk own idx ci j .byte false) {rs : List Int} (ho : isO sh k ci rs) (hz0 : rs.getD j.toNat (-1) = -1) (hb : x = 0 ∨ x = 1) (kk : R X sh cs ss (pc + 3) L st (up F k j x) Z) : R X sh cs ss pc L (vi x :: vr (xV X) k :: st) F Z := R_putf hX hd hf ho hz0 (Or.inr (Or.inr (Or.inr (Or.inr ⟨Or.inr rfl, hb⟩)))) kk
theorem R_putF (hX : Ok X own cc nL ret fr lo mc ms) {idx ci : Nat} {j k x : Int} {ty : FieldType} (hin : (xM X).name = "<init>") (hd : decode cc pc = .ok (.putfield idx, 3)) (hf : FLk own idx ci j ty true) (hoc : vwCl[ci]?.map (fun q => (q.2.1 j.toNat).1) = some own) {rs : List Int} (ho : isO sh k ci rs) (hz0 : rs.getD j.toNat (-1) = -1) (ht : ty = .int ∨ ty = .long ∨ (∃ n, ty = .object n) ∨ (∃ t, ty = .array t) ∨ ((ty = .boolean ∨ ty = .byte) ∧ (x = 0 ∨ x = 1))) (kk : R X sh cs ss (pc + 3) L st (up F k j x) Z) : R X sh cs ss pc L (mkv (xV X) ty x :: vr (xV X) k :: st) F Z := by
  intro hz H locs ls hP hS hL
  obtain ⟨hj, hty, C, T, N, rf, hcf, hjN, hl, hfin, hrf⟩ := hf
  have hcf' := hcf
  obtain ⟨q1, q2, q3, q4, q5⟩ := hcf
  have hown : (T j.toNat).1 = own := by
    rw [q1] at hoc
    exact Option.some.inj hoc
  rw [vr_ref ho.1]
  have hw := wl_at (V := xV X) (F := F) ho.2
  obtain ⟨hn, hfit⟩ := mkv_nar (V := xV X) ht
  subst hty
  refine va_putF (v := mkv (xV X) (ftys ci j.toNat) x) hX.1 hX.2.1 hX.2.2.2.2.1 q3 (ftys ci) q5 q4 hX.2.2.1 hX.2.2.2.2.2.1 hP wl_D hS k.toNat hw q1 j.toNat hjN (hX.2.2.2.2.1 _ hl) (fl_same hX hrf) hfin hin hown (q5 _ hjN) hn hfit (by simp; omega) hd (fun H1 locs1 hP1 hD1 hS1 => ?_)
  rw [wl_put ho hj (by omega) hz0] at hP1
  exact kk hz H1 locs1 ls hP1 hS1 hL
theorem R_putFo (hX : Ok X own cc nL ret fr lo mc ms) {idx ci : Nat} {j k x : Int} {n : String} (hin : (xM X).name = "<init>") (hd : decode cc pc = .ok (.putfield idx, 3)) (hf : FLk own idx ci j (.object n) true) (hoc : vwCl[ci]?.map (fun q => (q.2.1 j.toNat).1) = some own) {rs : List Int} (ho : isO sh k ci rs) (hz0 : rs.getD j.toNat (-1) = -1) (kk : R X sh cs ss (pc + 3) L st (up F k j x) Z) : R X sh cs ss pc L (vr (xV X) x :: vr (xV X) k :: st) F Z := R_putF hX hin hd hf hoc ho hz0 (Or.inr (Or.inr (Or.inl ⟨n, rfl⟩))) kk
theorem R_putFa (hX : Ok X own cc nL ret fr lo mc ms) {idx ci : Nat} {j k x : Int} {t : FieldType} (hm : ∀ V x, mkv V (.array t) x = vr V x) (hin : (xM X).name = "<init>") (hd : decode cc pc = .ok (.putfield idx, 3)) (hf : FLk own idx ci j (.array t) true) (hoc : vwCl[ci]?.map (fun q => (q.2.1 j.toNat).1) = some own) {rs : List Int} (ho : isO sh k ci rs) (hz0 : rs.getD j.toNat (-1) = -1) (kk : R X sh cs ss (pc + 3) L st (up F k j x) Z) : R X sh cs ss pc L (vr (xV X) x :: vr (xV X) k :: st) F Z := by rw [← hm]; exact R_putF hX hin hd hf hoc ho hz0 (Or.inr (Or.inr (Or.inr (Or.inl ⟨t, rfl⟩)))) kk
-- arrays
theorem ix_in {i : Int} {n : Nat} (hi : 0 ≤ i) (hn : i < n) (h : n < 2147483648) : vp_in (Int32.ofInt i) n ∧ (Int32.ofInt i).toNatClampNeg = i.toNat := by
  have e : (Int32.ofInt i).toInt = i := i32_to (by unfold I32; omega)
  refine ⟨vp_in_iff.mpr ⟨by omega, by omega⟩, ?_⟩
  show (Int32.ofInt i).toInt.toNat = _
  rw [e]
theorem ty_at (V : VX) : (tys4 V)[0]? = some (vA V .int, .int) ∧ (tys4 V)[1]? = some (vA V .long, .long) ∧ (tys4 V)[2]? = some (vA V .boolean, .boolean) ∧ (tys4 V)[3]? = some (vA V .byte, .byte) := ⟨rfl, rfl, rfl, rfl⟩
theorem upd_up {F : Hp} {k i x : Int} (hk : 0 ≤ k) (hi : 0 ≤ i) {z : Int32} (hz : z = Int32.ofInt x) : upd (fun j : Nat => Int32.ofInt (F (k.toNat : Int) (j : Int))) i.toNat z = fun j : Nat => Int32.ofInt (up F k i x (k.toNat : Int) (j : Int)) := by
  funext j
  unfold upd
  rw [Int.toNat_of_nonneg hk]
  by_cases h : j = i.toNat
  · rw [if_pos h, show ((j : Nat) : Int) = i by omega, up_s, hz]
  · rw [if_neg h, up_i (by omega)]
theorem updL_up {F : Hp} {k i x : Int} (hk : 0 ≤ k) (hi : 0 ≤ i) : vp_updL (fun j : Nat => Int64.ofInt (F (k.toNat : Int) (j : Int))) i.toNat (Int64.ofInt x) = fun j : Nat => Int64.ofInt (up F k i x (k.toNat : Int) (j : Int)) := by
  funext j
  unfold vp_updL
  rw [Int.toNat_of_nonneg hk]
  by_cases h : j = i.toNat
  · rw [if_pos h, show ((j : Nat) : Int) = i by omega, up_s]
  · rw [if_neg h, up_i (by omega)]
theorem R_iald (hX : Ok X own cc nL ret fr lo mc ms) {k i : Int} {n : Nat} (hd : decode cc pc = .ok (.iaload, 1)) (ha : isA sh k .int n) (hi : 0 ≤ i ∧ i < n) (kk : R X sh cs ss (pc + 1) L (vi (F k i) :: st) F Z) : R X sh cs ss pc L (vi i :: vr (xV X) k :: st) F Z := by
  intro hz H locs ls hP hS hL
  rw [vr_ref ha.1]
  obtain ⟨h1, h2⟩ := ix_in hi.1 hi.2 ha.2.2
  refine va_iald hX.1 hX.2.1 hX.2.2.2.2.2.1 hP k.toNat 0 (wl_at ha.2.1) rfl h1 hd ?_
  have h := kk hz H locs ls hP hS hL
  rw [h2, Int.toNat_of_nonneg hi.1, Int.toNat_of_nonneg ha.1]
  exact h
theorem R_bald (hX : Ok X own cc nL ret fr lo mc ms) {k i : Int} {n : Nat} (hd : decode cc pc = .ok (.baload, 1)) (ha : isA sh k .byte n) (hi : 0 ≤ i ∧ i < n) (kk : R X sh cs ss (pc + 1) L (vi (F k i) :: st) F Z) : R X sh cs ss pc L (vi i :: vr (xV X) k :: st) F Z := by
  intro hz H locs ls hP hS hL
  rw [vr_ref ha.1]
  obtain ⟨h1, h2⟩ := ix_in hi.1 hi.2 ha.2.2
  refine va_bald hX.1 hX.2.1 hX.2.2.2.2.2.1 hP k.toNat 3 (wl_at ha.2.1) rfl h1 hd ?_
  have h := kk hz H locs ls hP hS hL
  rw [h2, Int.toNat_of_nonneg hi.1, Int.toNat_of_nonneg ha.1]
  exact h
theorem R_zald (hX : Ok X own cc nL ret fr lo mc ms) {k i : Int} {n : Nat} (hd : decode cc pc = .ok (.baload, 1)) (ha : isA sh k .boolean n) (hi : 0 ≤ i ∧ i < n) (kk : R X sh cs ss (pc + 1) L (vi (F k i) :: st) F Z) : R X sh cs ss pc L (vi i :: vr (xV X) k :: st) F Z := by
  intro hz H locs ls hP hS hL
  rw [vr_ref ha.1]
  obtain ⟨h1, h2⟩ := ix_in hi.1 hi.2 ha.2.2
  refine va_zald hX.1 hX.2.1 hX.2.2.2.2.2.1 hP k.toNat 2 (wl_at ha.2.1) rfl h1 hd ?_
  have h := kk hz H locs ls hP hS hL
  rw [h2, Int.toNat_of_nonneg hi.1, Int.toNat_of_nonneg ha.1]
  exact h
theorem R_lald (hX : Ok X own cc nL ret fr lo mc ms) {k i : Int} {n : Nat} (hd : decode cc pc = .ok (.laload, 1)) (ha : isA sh k .long n) (hi : 0 ≤ i ∧ i < n) (kk : R X sh cs ss (pc + 1) L (vl (F k i) :: st) F Z) : R X sh cs ss pc L (vi i :: vr (xV X) k :: st) F Z := by
  intro hz H locs ls hP hS hL
  rw [vr_ref ha.1]
  obtain ⟨h1, h2⟩ := ix_in hi.1 hi.2 ha.2.2
  refine va_lald hX.1 hX.2.1 hX.2.2.2.2.2.1 hP k.toNat 1 (wl_at ha.2.1) rfl h1 hd ?_
  have h := kk hz H locs ls hP hS hL
  rw [h2, Int.toNat_of_nonneg hi.1, Int.toNat_of_nonneg ha.1]
  exact h
theorem R_alen (hX : Ok X own cc nL ret fr lo mc ms) {k : Int} {n : Nat} {ty : FieldType} (ht : ty = .int ∨ ty = .long ∨ ty = .boolean ∨ ty = .byte) (hd : decode cc pc = .ok (.arraylength, 1)) (ha : isA sh k ty n) (kk : R X sh cs ss (pc + 1) L (vi (n : Int) :: st) F Z) : R X sh cs ss pc L (vr (xV X) k :: st) F Z := by
  intro hz H locs ls hP hS hL
  rw [vr_ref ha.1]
  have h := kk hz H locs ls hP hS hL
  have e : Int32.ofNat n = Int32.ofInt (n : Int) := rfl
  rcases ht with rfl | rfl | rfl | rfl
  · exact va_alen hX.1 hX.2.1 hX.2.2.2.2.2.1 hP k.toNat 0 (wl_at ha.2.1) rfl e hd h
  · exact va_alen hX.1 hX.2.1 hX.2.2.2.2.2.1 hP k.toNat 1 (wl_at ha.2.1) rfl e hd h
  · exact va_alen hX.1 hX.2.1 hX.2.2.2.2.2.1 hP k.toNat 2 (wl_at ha.2.1) rfl e hd h
  · exact va_alen hX.1 hX.2.1 hX.2.2.2.2.2.1 hP k.toNat 3 (wl_at ha.2.1) rfl e hd h
theorem wl_ast {V : VX} {sh : Shp} {F : Hp} {k i x : Int} {n : Nat} {ty : FieldType} (ha : isA sh k ty n) (hi : 0 ≤ i) : (wl V sh F).set k.toNat (vB V + k.toNat, .inl (vA V ty, aE V ty n (up F k i x (k.toNat : Int)))) = wl V sh (up F k i x) :=
  wl_ext (V := V) (F := F) (F' := up F k i x) ha.2.1 (fun j hj hne => up_row (by have := ha.1; omega))
theorem R_iast (hX : Ok X own cc nL ret fr lo mc ms) {k i x : Int} {n : Nat} (hd : decode cc pc = .ok (.iastore, 1)) (ha : isA sh k .int n) (hi : 0 ≤ i ∧ i < n) (kk : R X sh cs ss (pc + 1) L st (up F k i x) Z) : R X sh cs ss pc L (vi x :: vi i :: vr (xV X) k :: st) F Z := by
  intro hz H locs ls hP hS hL
  rw [vr_ref ha.1]
  obtain ⟨h1, h2⟩ := ix_in hi.1 hi.2 ha.2.2
  refine va_iast hX.1 hX.2.1 hX.2.2.2.2.2.1 hP wl_D hS k.toNat 0 (wl_at ha.2.1) rfl h1 hd (fun H1 locs1 hP1 hD1 hS1 => ?_)
  rw [h2, upd_up (x := x) ha.1 hi.1 rfl] at hP1
  have e := wl_ast (V := xV X) (F := F) (x := x) ha hi.1
  unfold aE at e
  rw [e] at hP1
  exact kk hz H1 locs1 ls hP1 hS1 hL
theorem R_bast (hX : Ok X own cc nL ret fr lo mc ms) {k i x : Int} {n : Nat} (hd : decode cc pc = .ok (.bastore, 1)) (ha : isA sh k .byte n) (hi : 0 ≤ i ∧ i < n) (kk : R X sh cs ss (pc + 1) L st (up F k i (b8 x)) Z) : R X sh cs ss pc L (vi x :: vi i :: vr (xV X) k :: st) F Z := by
  intro hz H locs ls hP hS hL
  rw [vr_ref ha.1]
  obtain ⟨h1, h2⟩ := ix_in hi.1 hi.2 ha.2.2
  refine va_bast hX.1 hX.2.1 hX.2.2.2.2.2.1 hP wl_D hS k.toNat 3 (wl_at ha.2.1) rfl h1 hd (fun H1 locs1 hP1 hD1 hS1 => ?_)
  rw [h2, upd_up (x := b8 x) ha.1 hi.1 (by rw [vp_nar_byte]; unfold b8; rw [Int32.ofInt_toInt])] at hP1
  have e := wl_ast (V := xV X) (F := F) (x := b8 x) ha hi.1
  unfold aE at e
  rw [e] at hP1
  exact kk hz H1 locs1 ls hP1 hS1 hL
theorem R_zast (hX : Ok X own cc nL ret fr lo mc ms) {k i x : Int} {n : Nat} (hd : decode cc pc = .ok (.bastore, 1)) (ha : isA sh k .boolean n) (hi : 0 ≤ i ∧ i < n) (hx : x = 0 ∨ x = 1) (kk : R X sh cs ss (pc + 1) L st (up F k i x) Z) : R X sh cs ss pc L (vi x :: vi i :: vr (xV X) k :: st) F Z := by
  intro hz H locs ls hP hS hL
  rw [vr_ref ha.1]
  obtain ⟨h1, h2⟩ := ix_in hi.1 hi.2 ha.2.2
  refine va_zast hX.1 hX.2.1 hX.2.2.2.2.2.1 hP wl_D hS k.toNat 2 (wl_at ha.2.1) rfl h1 hd (fun H1 locs1 hP1 hD1 hS1 => ?_)
  rw [h2, upd_up (x := x) ha.1 hi.1 (by rcases hx with rfl | rfl <;> rfl)] at hP1
  have e := wl_ast (V := xV X) (F := F) (x := x) ha hi.1
  unfold aE at e
  rw [e] at hP1
  exact kk hz H1 locs1 ls hP1 hS1 hL
theorem R_last (hX : Ok X own cc nL ret fr lo mc ms) {k i x : Int} {n : Nat} (hd : decode cc pc = .ok (.lastore, 1)) (ha : isA sh k .long n) (hi : 0 ≤ i ∧ i < n) (kk : R X sh cs ss (pc + 1) L st (up F k i x) Z) : R X sh cs ss pc L (vl x :: vi i :: vr (xV X) k :: st) F Z := by
  intro hz H locs ls hP hS hL
  rw [vr_ref ha.1]
  obtain ⟨h1, h2⟩ := ix_in hi.1 hi.2 ha.2.2
  refine va_last hX.1 hX.2.1 hX.2.2.2.2.2.1 hP wl_D hS k.toNat 1 (wl_at ha.2.1) rfl h1 hd (fun H1 locs1 hP1 hD1 hS1 => ?_)
  rw [h2, updL_up (x := x) ha.1 hi.1] at hP1
  have e := wl_ast (V := xV X) (F := F) (x := x) ha hi.1
  unfold aE at e
  rw [e] at hP1
  exact kk hz H1 locs1 ls hP1 hS1 hL
/-- the statics' tables -/
theorem R_tald (hX : Ok X own cc nL ret fr lo mc ms) {t : Nat} {i : Int} {f : Nat → Int} (hT : va_T .int t 6 (fun j => vi (f j)) (AB (xV X)) (xs X) (xs X).heap) (hd : decode cc pc = .ok (.iaload, 1)) (hi : 0 ≤ i ∧ i < 6) (kk : R X sh cs ss (pc + 1) L (vi (f i.toNat) :: st) F Z) : R X sh cs ss pc L (vi i :: .ref t :: st) F Z := by
  intro hz H locs ls hP hS hL
  obtain ⟨h1, h2⟩ := ix_in (n := 6) hi.1 (by omega) (by omega)
  exact va_ti hX.1 hX.2.1 hT hS h1 (by rw [h2]) hd (kk hz H locs ls hP hS hL)
theorem R_gets (hX : Ok X own cc nL ret fr lo mc ms) {n d : String} {idx t : Nat} (hZ : va_Z own n d (.ref t) (AB (xV X)) (xs X) (xs X).heap) (hl : Cond.fieldLink own idx own n d ∈ gwt) (hd : decode cc pc = .ok (.getstatic idx, 3)) (kk : R X sh cs ss (pc + 3) L (.ref t :: st) F Z) : R X sh cs ss pc L st F Z :=
  fun hz H locs ls hP hS hL => va_gets hX.1 hX.2.1 hZ hS hX.2.2.1 (hX.2.2.2.2.1 _ hl) (fun _ h => h) hd (kk hz H locs ls hP hS hL)
theorem R_getsN (hX : Ok X own cc nL ret fr lo mc ms) {C n d host : String} {idx t : Nat} (hZ : va_Z C n d (.ref t) (AB (xV X)) (xs X) (xs X).heap) (hl : Cond.fieldLinkNest own idx C n d host ∈ nst) (hd : decode cc pc = .ok (.getstatic idx, 3)) (kk : R X sh cs ss (pc + 3) L (.ref t :: st) F Z) : R X sh cs ss pc L st F Z :=
  fun hz H locs ls hP hS hL => va_getsN hX.1 hX.2.1 hZ hS hX.2.2.1 (hX.2.2.2.2.2.2.1.nest hl rfl) (fun _ h => h) hd (kk hz H locs ls hP hS hL)
/-- System.arraycopy over ints -/
def cpy (F : Hp) (a sp b dp n : Int) : Hp := fun q i => if q = b ∧ dp ≤ i ∧ i < dp + n then F a (sp + (i - dp)) else F q i
theorem R_acopy (hX : Ok X own cc nL ret fr lo mc ms) {a b sp dp n : Int} {na nb idx : Nat} (hd : decode cc pc = .ok (.invokestatic idx, 3)) (hl : Cond.methodLink own idx arraycopyName ∈ gwt) (hnat : Cond.native arraycopyName ∈ gwt) (hst : Cond.static arraycopyName ∈ gwt) (hini : Cond.initialized "java/lang/System" ∈ gwt) (ha : isA sh a .int na) (hb : isA sh b .int nb) (h1 : 0 ≤ sp) (h2 : 0 ≤ dp) (h3 : 0 ≤ n) (h4 : sp + n ≤ na) (h5 : dp + n ≤ nb) (hr : 1 ≤ fr ∧ 60 ≤ lo) (hL' : L.length = nL) (hst2 : st.length ≤ 4) (kk : R X sh cs ss (pc + 3) L st (cpy F a sp b dp n) Z) : R X sh cs ss pc L (vi n :: vi dp :: vr (xV X) b :: vi sp :: vr (xV X) a :: st) F Z := by
  intro hz H locs ls hP hS hL
  rw [vr_ref ha.1, vr_ref hb.1]
  have z : ∀ q : Int, 0 ≤ q → q ≤ 2147483647 → ¬ (Int32.ofInt q < 0) ∧ (Int32.ofInt q).toNatClampNeg = q.toNat := by
    intro q hq hq2
    have e : (Int32.ofInt q).toInt = q := i32_to (by unfold I32; omega)
    refine ⟨fun h => ?_, ?_⟩
    · have := Int32.lt_iff_toInt_lt.mp h
      rw [e] at this
      simp at this
      omega
    · show (Int32.ofInt q).toInt.toNat = _
      rw [e]
  have hna := ha.2.2
  have hnb := hb.2.2
  obtain ⟨z1, y1⟩ := z sp h1 (by omega)
  obtain ⟨z2, y2⟩ := z dp h2 (by omega)
  obtain ⟨z3, y3⟩ := z n h3 (by omega)
  have hcat : (st.map fun v => v.category).sum ≤ 8 := by
    have : ∀ l : List Value, (l.map fun v => v.category).sum ≤ 2 * l.length := by
      intro l
      induction l with
      | nil => simp
      | cons v l ih =>
        have hv : v.category ≤ 2 := by rcases lv_cat v with h | h <;> omega
        simp only [List.map_cons, List.sum_cons, List.length_cons]
        omega
    have := this st
    omega
  have hnw : nativeFrameWords "java/lang/System" "arraycopy" 5 + 11 ≤ 52 := by decide
  have hr2 := hX.2.2.2.2.2.2.2.2.2
  refine va_copyi hX.1 hX.2.1 (by rw [hX.2.2.2.1, hL.1, hL']) hX.2.2.1 (hX.2.2.2.2.1 _ hl) (hX.2.2.2.2.1 _ hnat) (hX.2.2.2.2.1 _ hst) (hX.2.2.2.2.1 _ hini) hX.2.2.2.2.2.1 hP wl_D hS a.toNat b.toNat 0 0 (wl_at ha.2.1) (wl_at hb.2.1) rfl rfl rfl z1 z2 z3 (by omega) (by omega) (fun _ _ => rfl) (by omega) (by omega) hd (fun H1 locs1 hP1 hD1 hS1 => ?_)
  have e := wl_ext (V := xV X) (F := F) (F' := cpy F a sp b dp n) hb.2.1 (fun j hj hne => by
    funext i
    unfold cpy
    rw [if_neg (fun q => hne (by have := q.1; omega))])
  have e2 : va_cpy (fun j : Nat => Int32.ofInt (F (a.toNat : Int) (j : Int))) (fun j : Nat => Int32.ofInt (F (b.toNat : Int) (j : Int))) (Int32.ofInt sp).toNatClampNeg (Int32.ofInt dp).toNatClampNeg (Int32.ofInt n).toNatClampNeg = fun j : Nat => Int32.ofInt (cpy F a sp b dp n (b.toNat : Int) (j : Int)) := by
    rw [y1, y2, y3]
    funext j
    unfold va_cpy cpy
    have hb1 := hb.1
    have ha1 := ha.1
    by_cases h : dp.toNat ≤ j ∧ j < dp.toNat + n.toNat
    · rw [if_pos h, if_pos ⟨by omega, by omega, by omega⟩]
      show Int32.ofInt (F (a.toNat : Int) ((sp.toNat + (j - dp.toNat) : Nat) : Int)) = Int32.ofInt (F a (sp + ((j : Int) - dp)))
      rw [Int.toNat_of_nonneg ha1, show ((sp.toNat + (j - dp.toNat) : Nat) : Int) = sp + ((j : Int) - dp) by omega]
    · rw [if_neg h, if_neg (fun q => h ⟨by omega, by omega⟩)]
  rw [e2] at hP1
  have e3 : (wl (xV X) sh F).set b.toNat (vB (xV X) + b.toNat, Sum.inl (vA (xV X) .int, nb, Sum.inl fun j : Nat => Int32.ofInt (cpy F a sp b dp n (b.toNat : Int) (j : Int)))) = wl (xV X) sh (cpy F a sp b dp n) := e
  rw [e3] at hP1
  exact kk hz H1 locs1 ls hP1 hS1 hL
/-- Math -/
theorem R_mmin (hX : Ok X own cc nL ret fr lo mc ms) {x y : Int} {idx : Nat} (hd : decode cc pc = .ok (.invokestatic idx, 3)) (hl : Cond.methodLink own idx Lib.Math.min.name ∈ gwt) (hst : Cond.static Lib.Math.min.name ∈ gwt) (hini : Cond.initialized "java/lang/Math" ∈ gwt) (hco : Cond.code Lib.Math.min.name Lib.Math.min.code 2 (some .int) ∈ gwt) (hx : I32 x) (hy : I32 y) (hr : 1 ≤ fr ∧ 21 ≤ lo ∧ cs ≤ mc ∧ ss ≤ ms) (hL' : L.length = nL) (hst2 : st.length ≤ 4) (kk : R X sh cs ss (pc + 3) L (vi (min x y) :: st) F Z) : R X sh cs ss pc L (vi y :: vi x :: st) F Z := by
  intro hz H locs ls hP hS hL
  have hcat : (st.map fun v => v.category).sum ≤ 8 := by
    have : ∀ l : List Value, (l.map fun v => v.category).sum ≤ 2 * l.length := by
      intro l
      induction l with
      | nil => simp
      | cons v l ih =>
        have hv : v.category ≤ 2 := by rcases lv_cat v with h | h <;> omega
        simp only [List.map_cons, List.sum_cons, List.length_cons]
        omega
    have := this st
    omega
  have hr2 := hX.2.2.2.2.2.2.2.2.2
  refine va_mmin hX.1 hX.2.1 (by rw [hX.2.2.2.1, hL.1, hL']) hX.2.2.1 (hX.2.2.2.2.1 _ hl) (hX.2.2.2.2.1 _ hst) (hX.2.2.2.2.1 _ hini) (hX.2.2.2.2.1 _ hco) (by omega) (by omega) (by omega) (by omega) hd ?_
  have h := kk hz H locs ls hP hS hL
  have e : vi (min x y) = .int (if Int32.ofInt y < Int32.ofInt x then Int32.ofInt y else Int32.ofInt x) := by
    unfold vi
    simp only [i32_lt hy hx]
    by_cases q : y < x
    · rw [if_pos q, show min x y = y by omega]
    · rw [if_neg q, show min x y = x by omega]
  rw [e] at h
  exact h
theorem R_mmax (hX : Ok X own cc nL ret fr lo mc ms) {x y : Int} {idx : Nat} (hd : decode cc pc = .ok (.invokestatic idx, 3)) (hl : Cond.methodLink own idx Lib.Math.max.name ∈ gwt) (hst : Cond.static Lib.Math.max.name ∈ gwt) (hini : Cond.initialized "java/lang/Math" ∈ gwt) (hco : Cond.code Lib.Math.max.name Lib.Math.max.code 2 (some .int) ∈ gwt) (hx : I32 x) (hy : I32 y) (hr : 1 ≤ fr ∧ 21 ≤ lo ∧ cs ≤ mc ∧ ss ≤ ms) (hL' : L.length = nL) (hst2 : st.length ≤ 4) (kk : R X sh cs ss (pc + 3) L (vi (max x y) :: st) F Z) : R X sh cs ss pc L (vi y :: vi x :: st) F Z := by
  intro hz H locs ls hP hS hL
  have hcat : (st.map fun v => v.category).sum ≤ 8 := by
    have : ∀ l : List Value, (l.map fun v => v.category).sum ≤ 2 * l.length := by
      intro l
      induction l with
      | nil => simp
      | cons v l ih =>
        have hv : v.category ≤ 2 := by rcases lv_cat v with h | h <;> omega
        simp only [List.map_cons, List.sum_cons, List.length_cons]
        omega
    have := this st
    omega
  have hr2 := hX.2.2.2.2.2.2.2.2.2
  refine va_mmax hX.1 hX.2.1 (by rw [hX.2.2.2.1, hL.1, hL']) hX.2.2.1 (hX.2.2.2.2.1 _ hl) (hX.2.2.2.2.1 _ hst) (hX.2.2.2.2.1 _ hini) (hX.2.2.2.2.1 _ hco) (by omega) (by omega) (by omega) (by omega) hd ?_
  have h := kk hz H locs ls hP hS hL
  have e : vi (max x y) = .int (if Int32.ofInt x < Int32.ofInt y then Int32.ofInt y else Int32.ofInt x) := by
    unfold vi
    simp only [i32_lt hx hy]
    by_cases q : x < y
    · rw [if_pos q, show max x y = y by omega]
    · rw [if_neg q, show max x y = x by omega]
  rw [e] at h
  exact h
/-! ends -/
theorem R_iret (hX : Ok X own cc nL (some .int) fr lo mc ms) {x : Int} {Q : Int → Hp → Prop} (hd : decode cc pc = .ok (.ireturn, 1)) (hq : Q x F) : R X sh cs ss pc L [vi x] F (Zq X sh 1 Q cs ss) := fun hz H locs ls hP hS hL =>
  W.iret hX.1 hX.2.1 hX.2.2.2.2.2.2.2.1 (fun t ht hW => ⟨⟨x, F, rfl, hq, by rw [ht]; exact hP⟩, hS.F ht⟩) hS.2.2 hd hX.2.2.2.2.2.2.2.2.1
theorem R_zret (hX : Ok X own cc nL (some .boolean) fr lo mc ms) {x : Int} {Q : Int → Hp → Prop} (hb : x = 0 ∨ x = 1) (hd : decode cc pc = .ok (.ireturn, 1)) (hq : Q x F) : R X sh cs ss pc L [vi x] F (Zq X sh 1 Q cs ss) := fun hz H locs ls hP hS hL =>
  W.zret hX.1 hX.2.1 hX.2.2.2.2.2.2.2.1 (by rcases hb with rfl | rfl <;> rfl) (fun t ht hW => ⟨⟨x, F, rfl, hq, by rw [ht]; exact hP⟩, hS.F ht⟩) hS.2.2 hd hX.2.2.2.2.2.2.2.2.1
theorem R_lret (hX : Ok X own cc nL (some .long) fr lo mc ms) {x : Int} {Q : Int → Hp → Prop} (hd : decode cc pc = .ok (.lreturn, 1)) (hq : Q x F) : R X sh cs ss pc L [vl x] F (Zq X sh 2 Q cs ss) := fun hz H locs ls hP hS hL =>
  W.lret hX.1 hX.2.1 hX.2.2.2.2.2.2.2.1 (fun t ht hW => ⟨⟨x, F, rfl, hq, by rw [ht]; exact hP⟩, hS.F ht⟩) hS.2.2 hd hX.2.2.2.2.2.2.2.2.1
theorem R_vret (hX : Ok X own cc nL none fr lo mc ms) {Q : Int → Hp → Prop} (hd : decode cc pc = .ok (.return_, 1)) (hq : Q 0 F) : R X sh cs ss pc L [] F (Zq X sh 0 Q cs ss) := fun hz H locs ls hP hS hL =>
  W.vret hX.1 hX.2.1 hX.2.2.2.2.2.2.2.1 (fun t ht hW => ⟨⟨0, F, rfl, hq, by rw [ht]; exact hP⟩, hS.F ht⟩) hS.2.2 hd hX.2.2.2.2.2.2.2.2.1
theorem R_aret {rt : FieldType} (hX : Ok X own cc nL (some rt) fr lo mc ms) {x : Int} {Q : Int → Hp → Prop} (hrt : (∃ n, rt = .object n) ∨ ∃ t, rt = .array t) (hd : decode cc pc = .ok (.areturn, 1)) (hq : Q x F) : R X sh cs ss pc L [vr (xV X) x] F (Zq X sh 3 Q cs ss) := fun hz H locs ls hP hS hL =>
  W.aret hX.1 hX.2.1 hX.2.2.2.2.2.2.2.1 hrt (by unfold vr; split; exact Or.inl rfl; exact Or.inr ⟨_, rfl⟩) (fun t ht hW => ⟨⟨x, F, rfl, hq, by rw [ht]; exact hP⟩, hS.F ht⟩) hS.2.2 hd hX.2.2.2.2.2.2.2.2.1
/-! calls -/
theorem R_after {p : Program} {l : Launch} {e : Env} {Rm : Room} {s : State} {m : MethodId} {args : Array Value} {below : List Frame} {meth : Method} {c : Code} {H : Heap} {locs : List Loc} {cells slots mc2 ms2 : Nat} {V : VX} {sh2 : Shp} {kd : Nat} {Q : Int → Hp → Prop} {a : Array Value} {ls : Array Slot} {st0 rest : List Value}
    (hr : va_Run p l e Rm s m args below meth c H locs cells slots mc2 ms2 (F0 m pc ls st0) rest (Post V sh2 kd Q a) (AB V)) (hS : va_S (AB V) s.heap H locs)
    (kk : ∀ (x : Int) (F' : Hp) (H1 : Heap) (locs1 : List Loc), Q x F' → HP V sh2 F' H1 → va_S (AB V) s.heap H1 locs1 → W p l e Rm s m args below meth c H1 locs1 (cells + mc2) (slots + ms2) Z (F0 m (pc + 3) ls ((rv V kd x).toList ++ rest))) : W p l e Rm s m args below meth c H locs cells slots Z (F0 m pc ls st0) := by
  intro T hT X
  obtain ⟨v, st₀, t, T', Lc, h0, X', hL, e1, e2, ⟨⟨x, F', hv, hq, hp⟩, hz, hk⟩, st⟩ := hr T hT X
  cases hv
  rw [h0] at hz hk
  obtain ⟨t2, a1, b1⟩ := kk x F' T'.heap (locs ++ Lc) hq (by rw [e1]; exact hp)
    ⟨Nat.le_trans hS.1 (by rw [e1]; exact hz), fun q h1 h2 => by rw [e1, hk q (Nat.lt_of_lt_of_le h1 hS.1) h2]; exact hS.2.1 q h1 h2, fun q hq => by
      rcases List.mem_append.mp hq with h | h
      · exact hS.2.2 q h
      · exact hL q h⟩ T' rfl X'
  exact ⟨t2, st t2 a1, b1⟩
theorem sz_eq {H : Heap} {locs : List Loc} {T : State} (hz : (xs X).heap.size + cs = vB (xV X) + sh.length) (hT : T.heap = H) (hP : HP (xV X) sh F H) (hS : va_S (AB (xV X)) (xs X).heap H locs) (hB : vB (xV X) ≤ (xs X).heap.size) (S : Stand (xp X) (vL (xV X)) (xe X) (xr X) (xs X) (xm X) (xa X) (xb X) (xM X) (xc X) T locs cs ss) : H.size = vB (xV X) + sh.length := by
  have h1 := S.heapSize
  rw [hT] at h1
  have h2 := hS.1
  rcases Nat.eq_zero_or_pos sh.length with h | h
  · omega
  · have h3 := (hP (sh.length - 1) _ (wl_at (List.getElem?_eq_getElem (by omega)))).lt
    dsimp only at h3
    omega
theorem cat_le : ∀ l : List Value, (l.map fun v => v.category).sum ≤ 2 * l.length := by
  intro l
  induction l with
  | nil => simp
  | cons v l ih =>
    have hv : v.category ≤ 2 := by rcases lv_cat v with h | h <;> omega
    simp only [List.map_cons, List.sum_cons, List.length_cons]
    omega
theorem pre_blind {V : VX} {sh : Shp} {F : Hp} {av : List Value} : FrameBlind (va_Pc av (fun U => U.heap.size = vB V + sh.length ∧ HP V sh F U.heap ∧ va_K (vD V) vwCl (tys4 V) U ∧ GF V U)) := by
  intro a U g mk q
  obtain ⟨q0, q1, q2, q3, q4⟩ := q
  exact ⟨q0, q1, q2, va_K.moved (u := U) (U := U.calling g mk a) (Vm.Alike.refl U.vm) q3, q4.move (State.WarmedH.refl U) (Nat.le_refl _) (fun _ _ => rfl)⟩
theorem pre_at {V : VX} {sh : Shp} {F : Hp} {av : List Value} {s : State} {H : Heap} {locs : List Loc} (hz : H.size = vB V + sh.length) (hP : HP V sh F H) (hK : va_K (vD V) vwCl (tys4 V) s) (hG : GF V s) (hS : va_S (AB V) s.heap H locs) : ∀ U : State, U.heap = H → s.WarmedH U.vm → va_Pc av (fun U => U.heap.size = vB V + sh.length ∧ HP V sh F U.heap ∧ va_K (vD V) vwCl (tys4 V) U ∧ GF V U) av.toArray U := by
  intro U hU hW
  refine ⟨rfl, by rw [hU]; exact hz, by rw [hU]; exact hP, va_K.moved hW.alike hK, hG.move hW (by rw [hU]; exact hS.1) (fun a ha => ?_)⟩
  rw [hU]
  exact hS.2.1 a (Nat.lt_of_lt_of_le ha hG.1) (by unfold AB; omega)
theorem callB_mk {y : MethodName} {idx n fr2 lo2 mc2 ms2 nL2 : Nat} {c2 : ByteArray} {ret2 : Option FieldType} (hX : Ok X own cc nL ret fr lo mc ms) (hl : LK own idx y) (hm : MK y c2 nL2 ret2 n) (hr : fr2 + 1 ≤ fr ∧ 8 + (nL2 + 11) + lo2 ≤ lo) : CallB (xr X) (xs X) (xa X) own idx y c2 nL2 ret2 (.code y c2 nL2 ret2 :: gwt) ({ frames := fr2, cells := mc2, slots := ms2, locals := lo2 }) mc2 ms2 n := by
  have hr2 := hX.2.2.2.2.2.2.2.2.2
  exact callB_of n hX.2.2.2.2.1 (good_cons hm.1) rfl rfl rfl (hX.2.2.2.2.1 _ hm.2.1) (hX.2.2.2.2.1 _ hl) hm.2.2 ⟨Nat.le_trans hr.1 hr2.1, Nat.le_trans hr.2 hr2.2.1⟩
theorem callN_mk {y : MethodName} {host : String} {idx n fr2 lo2 mc2 ms2 nL2 : Nat} {c2 : ByteArray} {ret2 : Option FieldType} (hX : Ok X own cc nL ret fr lo mc ms) (hl : LN own idx y host) (hm : MK y c2 nL2 ret2 n) (hr : fr2 + 1 ≤ fr ∧ 8 + (nL2 + 11) + lo2 ≤ lo) : va_CN (xr X) (xs X) (xa X) own idx y host c2 nL2 ret2 (.code y c2 nL2 ret2 :: gwt) ({ frames := fr2, cells := mc2, slots := ms2, locals := lo2 }) mc2 ms2 n := by
  have hr2 := hX.2.2.2.2.2.2.2.2.2
  have hc : Cond.code y c2 nL2 ret2 ∈ (.code y c2 nL2 ret2 :: gwt : List Cond) := List.mem_cons_self
  refine ⟨⟨rfl, rfl, Nat.le_trans hr.1 hr2.1, Nat.le_trans hr.2 hr2.2.1, pay_in hX.2.2.2.2.1 (good_cons hm.1), hc⟩, hX.2.2.2.2.1 _ hm.1, hX.2.2.2.2.1 _ hm.2.1, ⟨hm.2.2.1, hm.2.2.2.1⟩, fun sig h => ?_, hX.2.2.2.2.2.2.1.nest hl rfl⟩
  have h2 := hm.2.2.2.2
  rw [h] at h2
  exact (Option.some.inj h2).symm
theorem recv_at {k : Int} {ci : Nat} {C : String} {H : Heap} (hX : Ok X own cc nL ret fr lo mc ms) (hP : HP (xV X) sh F H) {rs : List Int} (ho : isO sh k ci rs) (hC : vwCl[ci]?.map (fun q => q.1) = some C) : ∃ cellB : Cell, H[vB (xV X) + k.toNat]? = some cellB ∧ cellB.vm.isStatics = false ∧ (xs X).vm.findClass C = some cellB.cls := by
  cases hv : vwCl[ci]? with
  | none => rw [hv] at hC; cases hC
  | some q =>
    rw [hv] at hC
    cases hC
    exact va_recv hX.2.2.2.2.2.1 hP hv (wl_at ho.2)
theorem R_callV0 (hX : Ok X own cc nL ret fr lo mc ms) {y : MethodName} {idx n nL2 fr2 lo2 mc2 ms2 ci kd : Nat} {c2 : ByteArray} {ret2 : Option FieldType} {sh2 : Shp} {As : List Value} {k : Int} {Q : Int → Hp → Prop} (hd : decode cc pc = .ok (.invokevirtual idx, 3)) (hl : LK own idx y) (hm : MK y c2 nL2 ret2 n) (hi : MI y) (hC : vwCl[ci]?.map (fun q => q.1) = some y.cls) {rs : List Int} (ho : isO sh k ci rs) (hc : Ct (xV X) y c2 nL2 ret2 fr2 lo2 mc2 ms2 sh (vr (xV X) k :: As) F sh2 kd Q)
    (hr : (fr2 + 1 ≤ fr ∧ 8 + (nL2 + 11) + lo2 ≤ lo) ∧ cs + mc2 ≤ mc ∧ ss + ms2 ≤ ms ∧ As.length = n ∧ L.length = nL ∧ st.length ≤ 4 ∧ sh2.length = sh.length + mc2) (kk : ∀ x F', Q x F' → R X sh2 (cs + mc2) (ss + ms2) (pc + 3) L ((rv (xV X) kd x).toList ++ st) F' Z) : R X sh cs ss pc L (As.reverse ++ vr (xV X) k :: st) F Z := by
  intro hz H locs ls hP hS hL T hT S
  have hz2 := sz_eq hz hT hP hS hX.2.2.2.2.2.2.1.1 S
  have hr2 := hX.2.2.2.2.2.2.2.2.2
  rw [vr_ref ho.1] at hc ⊢
  have hcat := cat_le st
  refine R_after (va_runV (C := y.cls) (As := As) (rest := st) ⟨hX.1, hX.2.1, hX.2.2.2.1, hX.2.2.1, hX.2.2.2.2.1⟩ hc ⟨callB_mk hX hl hm hr.1, hX.2.2.2.2.1 _ hi.1, hX.2.2.2.2.1 _ hi.2⟩ ⟨pre_blind, recv_at hX hP ho hC, pre_at hz2 hP hX.2.2.2.2.2.1 hX.2.2.2.2.2.2.1 hS⟩ rfl hr.2.2.2.1 (hL.1.trans hr.2.2.2.2.1) rfl (lv_room (by omega)) hd ⟨by omega, by omega⟩) hS (fun x F' H1 locs1 hq hp hS1 => kk x F' hq (by omega) H1 locs1 ls hp hS1 hL) T hT S
theorem R_callVN0 (hX : Ok X own cc nL ret fr lo mc ms) {y : MethodName} {host : String} {idx n nL2 fr2 lo2 mc2 ms2 ci kd : Nat} {c2 : ByteArray} {ret2 : Option FieldType} {sh2 : Shp} {As : List Value} {k : Int} {Q : Int → Hp → Prop} (hd : decode cc pc = .ok (.invokevirtual idx, 3)) (hl : LN own idx y host) (hm : MK y c2 nL2 ret2 n) (hi : MI y) (hC : vwCl[ci]?.map (fun q => q.1) = some y.cls) {rs : List Int} (ho : isO sh k ci rs) (hc : Ct (xV X) y c2 nL2 ret2 fr2 lo2 mc2 ms2 sh (vr (xV X) k :: As) F sh2 kd Q)
    (hr : (fr2 + 1 ≤ fr ∧ 8 + (nL2 + 11) + lo2 ≤ lo) ∧ cs + mc2 ≤ mc ∧ ss + ms2 ≤ ms ∧ As.length = n ∧ L.length = nL ∧ st.length ≤ 4 ∧ sh2.length = sh.length + mc2) (kk : ∀ x F', Q x F' → R X sh2 (cs + mc2) (ss + ms2) (pc + 3) L ((rv (xV X) kd x).toList ++ st) F' Z) : R X sh cs ss pc L (As.reverse ++ vr (xV X) k :: st) F Z := by
  intro hz H locs ls hP hS hL T hT S
  have hz2 := sz_eq hz hT hP hS hX.2.2.2.2.2.2.1.1 S
  rw [vr_ref ho.1] at hc ⊢
  have hr2 := hX.2.2.2.2.2.2.2.2.2
  have hcat := cat_le st
  refine R_after (va_runVN (C := y.cls) (As := As) (rest := st) ⟨hX.1, hX.2.1, hX.2.2.2.1, hX.2.2.1, hX.2.2.2.2.1⟩ hc ⟨callN_mk hX hl hm hr.1, hX.2.2.2.2.1 _ hi.1, hX.2.2.2.2.1 _ hi.2⟩ ⟨pre_blind, recv_at hX hP ho hC, pre_at hz2 hP hX.2.2.2.2.2.1 hX.2.2.2.2.2.2.1 hS⟩ rfl hr.2.2.2.1 (hL.1.trans hr.2.2.2.2.1) rfl (lv_room (by omega)) hd ⟨by omega, by omega⟩) hS (fun x F' H1 locs1 hq hp hS1 => kk x F' hq (by omega) H1 locs1 ls hp hS1 hL) T hT S
theorem R_callS0 (hX : Ok X own cc nL ret fr lo mc ms) {y : MethodName} {idx n nL2 fr2 lo2 mc2 ms2 kd : Nat} {c2 : ByteArray} {ret2 : Option FieldType} {sh2 : Shp} {As : List Value} {Q : Int → Hp → Prop} (hd : decode cc pc = .ok (.invokestatic idx, 3)) (hl : LK own idx y) (hm : MK y c2 nL2 ret2 n) (hi : MS y) (hc : Ct (xV X) y c2 nL2 ret2 fr2 lo2 mc2 ms2 sh As F sh2 kd Q)
    (hr : (fr2 + 1 ≤ fr ∧ 8 + (nL2 + 11) + lo2 ≤ lo) ∧ cs + mc2 ≤ mc ∧ ss + ms2 ≤ ms ∧ As.length = n ∧ L.length = nL ∧ st.length ≤ 4 ∧ sh2.length = sh.length + mc2) (kk : ∀ x F', Q x F' → R X sh2 (cs + mc2) (ss + ms2) (pc + 3) L ((rv (xV X) kd x).toList ++ st) F' Z) : R X sh cs ss pc L (As.reverse ++ st) F Z := by
  intro hz H locs ls hP hS hL T hT S
  have hz2 := sz_eq hz hT hP hS hX.2.2.2.2.2.2.1.1 S
  have hr2 := hX.2.2.2.2.2.2.2.2.2
  have hcat := cat_le st
  refine R_after (va_runS (As := As) (rest := st) ⟨hX.1, hX.2.1, hX.2.2.2.1, hX.2.2.1, hX.2.2.2.2.1⟩ hc ⟨callB_mk hX hl hm hr.1, hX.2.2.2.2.1 _ hi⟩ ⟨pre_blind, pre_at hz2 hP hX.2.2.2.2.2.1 hX.2.2.2.2.2.2.1 hS⟩ rfl hr.2.2.2.1 (hL.1.trans hr.2.2.2.2.1) rfl (lv_room (by omega)) hd ⟨by omega, by omega⟩) hS (fun x F' H1 locs1 hq hp hS1 => kk x F' hq (by omega) H1 locs1 ls hp hS1 hL) T hT S
theorem R_callSN0 (hX : Ok X own cc nL ret fr lo mc ms) {y : MethodName} {host : String} {idx n nL2 fr2 lo2 mc2 ms2 kd : Nat} {c2 : ByteArray} {ret2 : Option FieldType} {sh2 : Shp} {As : List Value} {Q : Int → Hp → Prop} (hd : decode cc pc = .ok (.invokestatic idx, 3)) (hl : LN own idx y host) (hm : MK y c2 nL2 ret2 n) (hi : MS y) (hc : Ct (xV X) y c2 nL2 ret2 fr2 lo2 mc2 ms2 sh As F sh2 kd Q)
    (hr : (fr2 + 1 ≤ fr ∧ 8 + (nL2 + 11) + lo2 ≤ lo) ∧ cs + mc2 ≤ mc ∧ ss + ms2 ≤ ms ∧ As.length = n ∧ L.length = nL ∧ st.length ≤ 4 ∧ sh2.length = sh.length + mc2) (kk : ∀ x F', Q x F' → R X sh2 (cs + mc2) (ss + ms2) (pc + 3) L ((rv (xV X) kd x).toList ++ st) F' Z) : R X sh cs ss pc L (As.reverse ++ st) F Z := by
  intro hz H locs ls hP hS hL T hT S
  have hz2 := sz_eq hz hT hP hS hX.2.2.2.2.2.2.1.1 S
  have hr2 := hX.2.2.2.2.2.2.2.2.2
  have hcat := cat_le st
  refine R_after (va_runSN (As := As) (rest := st) ⟨hX.1, hX.2.1, hX.2.2.2.1, hX.2.2.1, hX.2.2.2.2.1⟩ hc ⟨callN_mk hX hl hm hr.1, hX.2.2.2.2.1 _ hi, trivial⟩ ⟨pre_blind, pre_at hz2 hP hX.2.2.2.2.2.1 hX.2.2.2.2.2.2.1 hS⟩ rfl hr.2.2.2.1 (hL.1.trans hr.2.2.2.2.1) rfl (lv_room (by omega)) hd ⟨by omega, by omega⟩) hS (fun x F' H1 locs1 hq hp hS1 => kk x F' hq (by omega) H1 locs1 ls hp hS1 hL) T hT S
theorem R_callI0 (hX : Ok X own cc nL ret fr lo mc ms) {y : MethodName} {idx n nL2 fr2 lo2 mc2 ms2 ci : Nat} {c2 : ByteArray} {sh2 : Shp} {As : List Value} {k : Int} {Q : Int → Hp → Prop} (hd : decode cc pc = .ok (.invokespecial idx, 3)) (hl : LK own idx y) (hm : MK y c2 nL2 none n) (hi : MC y) {rs : List Int} (ho : isO sh k ci rs) (hc : Ct (xV X) y c2 nL2 none fr2 lo2 mc2 ms2 sh (vr (xV X) k :: As) F sh2 0 Q)
    (hr : (fr2 + 1 ≤ fr ∧ 8 + (nL2 + 11) + lo2 ≤ lo) ∧ cs + mc2 ≤ mc ∧ ss + ms2 ≤ ms ∧ As.length = n ∧ L.length = nL ∧ st.length ≤ 4 ∧ sh2.length = sh.length + mc2) (kk : ∀ x F', Q x F' → R X sh2 (cs + mc2) (ss + ms2) (pc + 3) L st F' Z) : R X sh cs ss pc L (As.reverse ++ vr (xV X) k :: st) F Z := by
  intro hz H locs ls hP hS hL T hT S
  have hz2 := sz_eq hz hT hP hS hX.2.2.2.2.2.2.1.1 S
  rw [vr_ref ho.1] at hc ⊢
  have hr2 := hX.2.2.2.2.2.2.2.2.2
  have hcat := cat_le st
  refine R_after (va_runI (As := As) (rest := st) ⟨hX.1, hX.2.1, hX.2.2.2.1, hX.2.2.1, hX.2.2.2.2.1⟩ hc ⟨callB_mk hX hl hm hr.1, hi.2, hX.2.2.2.2.1 _ hi.1⟩ ⟨pre_blind, pre_at hz2 hP hX.2.2.2.2.2.1 hX.2.2.2.2.2.2.1 hS⟩ rfl hr.2.2.2.1 (hL.1.trans hr.2.2.2.2.1) rfl (lv_room (by omega)) hd ⟨by omega, by omega⟩) hS (fun x F' H1 locs1 hq hp hS1 => kk x F' hq (by omega) H1 locs1 ls hp hS1 hL) T hT S
theorem R_callIN0 (hX : Ok X own cc nL ret fr lo mc ms) {y : MethodName} {host : String} {idx n nL2 fr2 lo2 mc2 ms2 ci : Nat} {c2 : ByteArray} {sh2 : Shp} {As : List Value} {k : Int} {Q : Int → Hp → Prop} (hd : decode cc pc = .ok (.invokespecial idx, 3)) (hl : LN own idx y host) (hm : MK y c2 nL2 none n) (hi : MC y) {rs : List Int} (ho : isO sh k ci rs) (hc : Ct (xV X) y c2 nL2 none fr2 lo2 mc2 ms2 sh (vr (xV X) k :: As) F sh2 0 Q)
    (hr : (fr2 + 1 ≤ fr ∧ 8 + (nL2 + 11) + lo2 ≤ lo) ∧ cs + mc2 ≤ mc ∧ ss + ms2 ≤ ms ∧ As.length = n ∧ L.length = nL ∧ st.length ≤ 4 ∧ sh2.length = sh.length + mc2) (kk : ∀ x F', Q x F' → R X sh2 (cs + mc2) (ss + ms2) (pc + 3) L st F' Z) : R X sh cs ss pc L (As.reverse ++ vr (xV X) k :: st) F Z := by
  intro hz H locs ls hP hS hL T hT S
  have hz2 := sz_eq hz hT hP hS hX.2.2.2.2.2.2.1.1 S
  rw [vr_ref ho.1] at hc ⊢
  have hr2 := hX.2.2.2.2.2.2.2.2.2
  have hcat := cat_le st
  refine R_after (va_runIN (As := As) (rest := st) ⟨hX.1, hX.2.1, hX.2.2.2.1, hX.2.2.1, hX.2.2.2.2.1⟩ hc ⟨callN_mk hX hl hm hr.1, hi.2, hX.2.2.2.2.1 _ hi.1⟩ ⟨pre_blind, pre_at hz2 hP hX.2.2.2.2.2.1 hX.2.2.2.2.2.2.1 hS⟩ rfl hr.2.2.2.1 (hL.1.trans hr.2.2.2.2.1) rfl (lv_room (by omega)) hd ⟨by omega, by omega⟩) hS (fun x F' H1 locs1 hq hp hS1 => kk x F' hq (by omega) H1 locs1 ls hp hS1 hL) T hT S
/-- Object's own constructor -/
theorem R_objInit (hX : Ok X own cc nL ret fr lo mc ms) {idx : Nat} {k : Int} (hk : 0 ≤ k) (hd : decode cc pc = .ok (.invokespecial idx, 3)) (hl : Cond.methodLink own idx objectInit ∈ gwt) (hi : Cond.instanceMethod objectInit ∈ gwt) (hco : Cond.code objectInit ⟨#[0xb1]⟩ 1 none ∈ gwt) (hr : 1 ≤ fr ∧ 20 ≤ lo ∧ L.length = nL ∧ st.length ≤ 4) (kk : R X sh cs ss (pc + 3) L st F Z) : R X sh cs ss pc L (vr (xV X) k :: st) F Z := by
  intro hz H locs ls hP hS hL
  rw [vr_ref hk]
  have hr2 := hX.2.2.2.2.2.2.2.2.2
  have hcat := cat_le st
  exact W.objInit hX.1 hX.2.1 hX.2.2.1 (hX.2.2.2.2.1 _ hl) (hX.2.2.2.2.1 _ hi) (hX.2.2.2.2.1 _ hco) rfl (by show ls.size = _; rw [hX.2.2.2.1, hL.1, hr.2.2.1]) rfl hd (by omega) (by show 2 * 0 + _ + 12 ≤ _; omega) (kk hz H locs ls hP hS hL)

end RH
