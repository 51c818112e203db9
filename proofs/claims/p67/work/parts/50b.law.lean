theorem GF.nsts {V : VX} {U : State} (h : GF V U) : ∀ w ∈ nst, va_Nw w U := h.2.2.2.2.2.2.2.2.2.2.2.1
theorem GF.gx {V : VX} {U : State} (h : GF V U) : GX V U := h.2.2.2.2.2.2.2.2.2.2.2.2
section RF
variable {X : KX} {sh : Shp} {cs ss pc : Nat} {L : List (Option Value)} {st : List Value} {F : Hp} {Z : State → Prop} {own : String} {cc : ByteArray} {nL : Nat} {ret : Option FieldType} {fr lo mc ms : Nat}
theorem R_callSUE (hX : Ok X own cc nL ret fr lo mc ms) {y : MethodName} {C : String} {TT : u_T} {NN : Nat} {idx n nL2 fr2 lo2 mc2 ms2 kd : Nat} {ci : Nat} {k : Int} {c2 : ByteArray} {ret2 : Option FieldType} {As : List Value} {Q : Int → Shp → Hp → Prop} (hd : decode cc pc = .ok (.invokespecial idx, 3)) (hl : LK own idx y) (hm : MK y c2 nL2 ret2 n) (hu : MV own y) (hsg : (parseMethodDescriptor y.desc).map (fun d => d.parameters.length) = some n) (hcl : vwCl[ci]? = some (C, TT, NN)) {rs : List Int} (ho : isO sh k ci rs) (hc : CtE (xV X) y c2 nL2 ret2 fr2 lo2 mc2 ms2 sh (vr (xV X) k :: As) F kd Q)
    (hr : (fr2 + 1 ≤ fr ∧ 8 + (nL2 + 11) + lo2 ≤ lo) ∧ cs + mc2 ≤ mc ∧ ss + ms2 ≤ ms ∧ As.length = n ∧ L.length = nL ∧ (st.map fun v => v.category).sum ≤ 8) (kk : ∀ (x : Int) (sh2 : Shp) (F' : Hp) (d : Nat), Q x sh2 F' → sh2.length = sh.length + d → d ≤ mc2 → R X sh2 (cs + d) (ss + ms2) (pc + 3) L ((rv (xV X) kd x).toList ++ st) F' Z) : R X sh cs ss pc L (As.reverse ++ vr (xV X) k :: st) F Z := by
  intro hz H locs ls hP hS hL T hT S
  have hz2 := sz_eq hz hT hP hS hX.2.2.2.2.2.2.1.1 S
  have hr2 := hX.2.2.2.2.2.2.2.2.2
  rw [vr_ref ho.1] at hc ⊢
  have hcat := hr.2.2.2.2.2
  refine R_afterE (sh1 := sh) (va_runSU (C := C) (hX.2.2.2.2.2.1.1 ci _ hcl).2 (As := As) (rest := st) ⟨hX.1, hX.2.1, hX.2.2.2.1, hX.2.2.1, hX.2.2.2.2.1⟩ hc ⟨⟨rfl, rfl, Nat.le_trans hr.1.1 hr2.1, Nat.le_trans hr.1.2 hr2.2.1, pay_in hX.2.2.2.2.1 (good_cons hm.1), List.mem_cons_self⟩, hX.2.2.2.2.1 _ hl, hX.2.2.2.2.1 _ hu.2.2.1, hX.2.2.2.2.1 _ hu.2.1, hX.2.2.2.2.1 _ hu.1, hX.2.2.2.2.1 _ hm.2.1, hX.2.2.2.2.1 _ hm.1, hu.2.2.2, fun sig h => by rw [h] at hsg; exact (Option.some.inj hsg).symm⟩ ⟨pre_blind, recv_at hX hP ho (by rw [hcl]; rfl), pre_at hz2 hP hX.2.2.2.2.2.1 hX.2.2.2.2.2.2.1 hS⟩ rfl hr.2.2.2.1 (hL.1.trans hr.2.2.2.2.1) rfl (lv_room (by omega)) hd ⟨by omega, by omega⟩) hS hz hz2 (fun x sh2 F' d H1 locs1 hq hl2 hd2 hp hS1 => kk x sh2 F' d hq hl2 hd2 (by omega) H1 locs1 ls hp hS1 hL) T hT S
theorem R_dup_x1 (hX : Ok X own cc nL ret fr lo mc ms) {v u : Value} (hc : v.category = 1) (hc2 : u.category = 1) (hd : decode cc pc = .ok (.dup_x1, 1)) (k : R X sh cs ss (pc + 1) L (v :: u :: v :: st) F Z) : R X sh cs ss pc L (v :: u :: st) F Z := fun hz H locs ls hP hS hL => lv_dup_x1 hX.1 hX.2.1 hd hc hc2 (k hz H locs ls hP hS hL)
theorem R_ineg (hX : Ok X own cc nL ret fr lo mc ms) {x : Int} (hd : decode cc pc = .ok (.ineg, 1)) (k : R X sh cs ss (pc + 1) L (vi (-x) :: st) F Z) : R X sh cs ss pc L (vi x :: st) F Z := fun hz H locs ls hP hS hL => by
  have h := k hz H locs ls hP hS hL
  have e : vi (-x) = .int (-(Int32.ofInt x)) := by
    unfold vi
    rw [Int32.ofInt_neg]
  rw [e] at h
  exact lv_ineg hX.1 hX.2.1 hd h
theorem shr_ok (a : UInt32) (n : UInt32) (k : Nat) (hk : n.toNat = k) (h1 : 1 ≤ k) (h2 : k < 32) : 0 ≤ ((a >>> n).toInt32).toInt ∧ ((a >>> n).toInt32).toInt < 2 ^ (32 - k) := by
  have e : (a >>> n).toNat = a.toNat / 2 ^ k := by
    rw [UInt32.toNat_shiftRight, hk, Nat.mod_eq_of_lt h2, Nat.shiftRight_eq_div_pow]
  have hlt : a.toNat < 2 ^ 32 := a.toNat_lt
  have hp : (2 : Nat) ^ 32 = 2 ^ k * 2 ^ (32 - k) := by rw [← Nat.pow_add]; congr 1; omega
  have h3 : (a >>> n).toNat < 2 ^ (32 - k) := by
    rw [e]
    exact Nat.div_lt_of_lt_mul (by omega)
  have h4 : (2 : Nat) ^ (32 - k) ≤ 2 ^ 31 := Nat.pow_le_pow_right (by decide) (by omega)
  have h5 : ((a >>> n).toInt32).toInt = ((a >>> n).toNat : Int) := by
    show ((a >>> n).toInt32.toBitVec).toInt = _
    have : ((a >>> n).toInt32.toBitVec).toNat = (a >>> n).toNat := rfl
    rw [BitVec.toInt_eq_toNat_of_lt (by rw [this]; omega), this]
  rw [h5]
  refine ⟨Int.natCast_nonneg _, ?_⟩
  exact_mod_cast h3
theorem R_iushr (hX : Ok X own cc nL ret fr lo mc ms) {x n : Int} {k : Nat} (hn : (((Int32.ofInt n).toUInt32 &&& Int32.toUInt32 31).toNat = k)) (h1 : 1 ≤ k) (h2 : k < 32) (hd : decode cc pc = .ok (.iushr, 1)) (kk : ∀ y : Int, 0 ≤ y → y < 2 ^ (32 - k) → R X sh cs ss (pc + 1) L (vi y :: st) F Z) : R X sh cs ss pc L (vi n :: vi x :: st) F Z := fun hz H locs ls hP hS hL => by
  obtain ⟨q1, q2⟩ := shr_ok (Int32.ofInt x).toUInt32 ((Int32.ofInt n).toUInt32 &&& Int32.toUInt32 31) k hn h1 h2
  have h := kk _ q1 q2 hz H locs ls hP hS hL
  rw [vi_to] at h
  exact lv_iushr hX.1 hX.2.1 hd rfl h
theorem R_ldcS (hX : Ok X own cc nL ret fr lo mc ms) {idx q : Nat} {tx : String} (hr : vk_R own idx tx q (xs X)) (hd : decode cc pc = .ok (.ldc idx, 2)) (k : R X sh cs ss (pc + 2) L (.ref q :: st) F Z) : R X sh cs ss pc L st F Z := fun hz H locs ls hP hS hL => va_ldcS hX.1 hX.2.1 hX.2.2.1 hr hd (k hz H locs ls hP hS hL)
-- nest mates' fields
theorem R_getfN (hX : Ok X own cc nL ret fr lo mc ms) {idx ci : Nat} {j k : Int} {ty : FieldType} {fin : Bool} (hd : decode cc pc = .ok (.getfield idx, 3)) (hf : FLN own idx ci j ty fin) {rs : List Int} (ho : isO sh k ci rs) (kk : R X sh cs ss (pc + 3) L (fv (xV X) rs ty j.toNat (F k j) :: st) F Z) : R X sh cs ss pc L (vr (xV X) k :: st) F Z := by
  intro hz H locs ls hP hS hL
  obtain ⟨hj, hty, C, T, N, host, hcf, hjN, hl, -⟩ := hf
  obtain ⟨c1', c2, c3, c4, c5⟩ := hcf
  rw [vr_ref ho.1]
  have hw := wl_at (V := xV X) (F := F) ho.2
  refine va_getN (v := fv (xV X) rs ty j.toNat (F k j)) hX.1 hX.2.1 hX.2.2.2.2.1 c3 hX.2.2.1 hX.2.2.2.2.2.1 hP k.toNat hw c1' j.toNat hjN (hX.2.2.2.2.2.2.1.nest hl rfl) (fun _ h => h) ?_ hd (kk hz H locs ls hP hS hL)
  rw [List.getElem?_map, List.getElem?_range (by rw [c2]; exact hjN)]
  show some (fv (xV X) rs (ftys ci j.toNat) j.toNat (F (k.toNat : Int) (j.toNat : Int))) = _
  rw [hty, Int.toNat_of_nonneg hj, Int.toNat_of_nonneg ho.1]
theorem R_getNq (hX : Ok X own cc nL ret fr lo mc ms) {idx ci : Nat} {j k v : Int} {ty : FieldType} {fin : Bool} (hd : decode cc pc = .ok (.getfield idx, 3)) (hf : FLN own idx ci j ty fin) {rs : List Int} (ho : isO sh k ci rs) (hv : rs.getD j.toNat (-1) = v) (h0 : 0 ≤ v) (kk : R X sh cs ss (pc + 3) L (vr (xV X) v :: st) F Z) : R X sh cs ss pc L (vr (xV X) k :: st) F Z :=
  R_getfN hX hd hf ho (by unfold fv; rw [hv, if_pos h0]; exact kk)
theorem R_getNi (hX : Ok X own cc nL ret fr lo mc ms) {idx ci : Nat} {j k : Int} {fin : Bool} (hd : decode cc pc = .ok (.getfield idx, 3)) (hf : FLN own idx ci j .int fin) {rs : List Int} (ho : isO sh k ci rs) (hz0 : rs.getD j.toNat (-1) = -1) (kk : R X sh cs ss (pc + 3) L (vi (F k j) :: st) F Z) : R X sh cs ss pc L (vr (xV X) k :: st) F Z :=
  R_getfN hX hd hf ho (by unfold fv; rw [hz0, if_neg (by decide)]; exact kk)
-- rows of references
theorem tq_at (V : VX) : (tys4 V)[4]? = some (vA V (.object "java/lang/Object"), .object "java/lang/Object") ∧ (tys4 V)[5]? = some (vA V (.array .int), .array .int) := ⟨rfl, rfl⟩
def isQ (ty : FieldType) : Prop := ty = .object "java/lang/Object" ∨ ty = .array .int
theorem aE_q {V : VX} {ty : FieldType} (h : isQ ty) {n : Nat} {f : Int → Int} : aE V ty n f = (n, .inr (.inr (.inr (.inr fun j => rq V (f (j : Int)))))) := by rcases h with rfl | rfl <;> rfl
theorem arr_q (hX : Ok X own cc nL ret fr lo mc ms) {ty : FieldType} (h : isQ ty) : ArrOfT (xs X) (vA (xV X) ty) ty := by
  rcases h with rfl | rfl
  · exact (hX.2.2.2.2.2.1.2 4 _ rfl).1
  · exact (hX.2.2.2.2.2.1.2 5 _ rfl).1
theorem R_alenq (hX : Ok X own cc nL ret fr lo mc ms) {k : Int} {n : Nat} {ty : FieldType} (ht : isQ ty) (hd : decode cc pc = .ok (.arraylength, 1)) (ha : isA sh k ty n) (kk : R X sh cs ss (pc + 1) L (vi (n : Int) :: st) F Z) : R X sh cs ss pc L (vr (xV X) k :: st) F Z := by
  intro hz H locs ls hP hS hL
  rw [vr_ref ha.1]
  have h := kk hz H locs ls hP hS hL
  have e : Int32.ofNat n = Int32.ofInt (n : Int) := rfl
  have hw := wl_at (V := xV X) (F := F) ha.2.1
  unfold cE at hw
  dsimp only at hw
  rw [aE_q ht] at hw
  rcases ht with rfl | rfl
  · exact va_alen hX.1 hX.2.1 hX.2.2.2.2.2.1 hP k.toNat 4 hw rfl e hd h
  · exact va_alen hX.1 hX.2.1 hX.2.2.2.2.2.1 hP k.toNat 5 hw rfl e hd h
theorem R_aald (hX : Ok X own cc nL ret fr lo mc ms) {k i : Int} {n : Nat} {ty : FieldType} (ht : isQ ty) (hd : decode cc pc = .ok (.aaload, 1)) (ha : isA sh k ty n) (hi : 0 ≤ i ∧ i < n) (kk : R X sh cs ss (pc + 1) L (vr (xV X) (F k i) :: st) F Z) : R X sh cs ss pc L (vi i :: vr (xV X) k :: st) F Z := by
  intro hz H locs ls hP hS hL
  rw [vr_ref ha.1]
  obtain ⟨h1, h2⟩ := ix_in hi.1 hi.2 ha.2.2
  have hw := wl_at (V := xV X) (F := F) ha.2.1
  unfold cE at hw
  dsimp only at hw
  rw [aE_q ht] at hw
  have h := kk hz H locs ls hP hS hL
  refine W.aald (v := vr (xV X) (F k i)) (ty := ty) hX.1 hX.2.1 (hP k.toNat _ hw) (arr_q hX ht n (fun j => va_rf (rq (xV X) (F (k.toNat : Int) (j : Int))))) (by rcases ht with rfl | rfl <;> rfl) (fun q => by cases q) ?_ ?_ rfl rfl hd h
  · show ¬ (_ ∨ (arrV _ _ _).slots.size ≤ _)
    rw [arrV_size]
    exact h1
  · show (arrV _ _ _).slots[_]? = _
    have hlt : i.toNat < n := by omega
    rw [h2, arrV_read _ _ hlt]
    rw [rq_vr, Int.toNat_of_nonneg hi.1, Int.toNat_of_nonneg ha.1]
theorem rq_up {V : VX} {F : Hp} {k i x : Int} {v : Nat} (hk : 0 ≤ k) (hi : 0 ≤ i) (hx : 0 ≤ x) (hv : v = vB V + x.toNat) : va_up (fun j : Nat => rq V (F (k.toNat : Int) (j : Int))) i.toNat (some v) = fun j : Nat => rq V (up F k i x (k.toNat : Int) (j : Int)) := by
  funext j
  unfold va_up
  rw [Int.toNat_of_nonneg hk]
  by_cases h : j = i.toNat
  · rw [if_pos h, show ((j : Nat) : Int) = i by omega, up_s, hv]
    unfold rq
    rw [if_neg (by omega)]
  · rw [if_neg h, up_i (by omega)]
/-- an object into a row of objects -/
theorem R_aastO (hX : Ok X own cc nL ret fr lo mc ms) {k i x : Int} {n ci N : Nat} {C : String} {T : u_T} {rs : List Int} (hd : decode cc pc = .ok (.aastore, 1)) (ha : isA sh k (.object "java/lang/Object") n) (hi : 0 ≤ i ∧ i < n) (ho : isO sh x ci rs) (hcl : vwCl[ci]? = some (C, T, N)) (hca : Cond.castable C "java/lang/Object" ∈ nst) (kk : R X sh cs ss (pc + 1) L st (up F k i x) Z) : R X sh cs ss pc L (vr (xV X) x :: vi i :: vr (xV X) k :: st) F Z := by
  intro hz H locs ls hP hS hL
  rw [vr_ref ha.1, vr_ref ho.1]
  obtain ⟨h1, h2⟩ := ix_in hi.1 hi.2 ha.2.2
  refine va_astqO (ci := ci) hX.1 hX.2.1 hX.2.2.2.2.2.1 hP wl_D hS k.toNat 4 x.toNat (wl_at ha.2.1) rfl (hX.2.2.2.2.2.2.1.nsts _ hca) (wl_at ho.2) hcl h1 hd (fun H1 locs1 hP1 hD1 hS1 => ?_)
  rw [h2, rq_up (x := x) ha.1 hi.1 ho.1 rfl] at hP1
  have e := wl_ast (V := xV X) (F := F) (x := x) ha hi.1
  unfold aE at e
  dsimp only at e
  rw [e] at hP1
  exact kk hz H1 locs1 ls hP1 hS1 hL
/-- a row of ints into a row of rows -/
theorem R_aastA (hX : Ok X own cc nL ret fr lo mc ms) {k i x : Int} {n n2 : Nat} (hd : decode cc pc = .ok (.aastore, 1)) (ha : isA sh k (.array .int) n) (hi : 0 ≤ i ∧ i < n) (hb : isA sh x .int n2) (kk : R X sh cs ss (pc + 1) L st (up F k i x) Z) : R X sh cs ss pc L (vr (xV X) x :: vi i :: vr (xV X) k :: st) F Z := by
  intro hz H locs ls hP hS hL
  rw [vr_ref ha.1, vr_ref hb.1]
  obtain ⟨h1, h2⟩ := ix_in hi.1 hi.2 ha.2.2
  have hD := wl_D (V := xV X) (sh := sh) (F := F)
  have hwa := wl_at (V := xV X) (F := F) ha.2.1
  have hwb := wl_at (V := xV X) (F := F) hb.2.1
  have hca := hP _ _ hwa
  have hcb := hP _ _ hwb
  obtain ⟨comp, cA, kA, f1, f2, f3, f4, f5⟩ := arrayOverA_spec hX.2.2.2.2.2.2.1.gx.2.2.2.2.2.2.2
  have hA : (xs X).vm.findClass ("[" ++ (FieldType.array .int).toString) = some (vA (xV X) (.array .int)) := (hX.2.2.2.2.2.1.2 5 _ rfl).2
  have hI : (xs X).vm.findClass ("[" ++ FieldType.int.toString) = some (vA (xV X) .int) := (hX.2.2.2.2.2.1.2 0 _ rfl).2
  have ecA : cA = vA (xV X) (.array .int) := Option.some.inj (f5.symm.trans hA)
  have eco : comp = vA (xV X) .int := Option.some.inj (f1.symm.trans hI)
  subst ecA
  obtain ⟨kE, hkE, -⟩ := Vm.findClass_spec f1
  have hlt : i.toNat < n := by omega
  refine W.aast (k := kA) (kv := kE) (kcomp := kE) (comp := comp) (t := .array .int) hX.1 hX.2.1 hca (fun q h => by cases h) (fun h => by cases h) f3 f4 rfl hkE ⟨fun q => h1 (Or.inl q), by show _ < (arrV _ _ _).slots.size; rw [arrV_size, h2]; exact hlt⟩ hcb (fun q h => by cases h) (by rw [eco] at hkE; exact hkE) (by rw [eco]; exact va_asg _ _) rfl rfl hd (fun H1 e z oq => ?_)
  have hP1 : HP (xV X) sh (up F k i x) H1 := by
    unfold HP
    rw [← wl_ast (V := xV X) (F := F) (x := x) ha hi.1]
    refine hP.set hD hwa ?_ oq
    show H1[_]? = some (vp_cell _ _)
    rw [e]
    show _ = some (vp_cell _ (n, .inr (.inr (.inr (.inr fun j : Nat => rq (xV X) (up F k i x (k.toNat : Int) (j : Int)))))))
    rw [← rq_up (V := xV X) (F := F) (i := i) (x := x) ha.1 hi.1 hb.1 rfl]
    show some (Cell.setSlot (vp_cell _ (n, .inr (.inr (.inr (.inr fun j : Nat => rq (xV X) (F (k.toNat : Int) (j : Int))))))) _ _) = _
    rw [vp_cell_q, vp_cell_q, arrV_store]
    congr 2
    funext q
    rw [h2]
    by_cases hq : q = i.toNat
    · subst hq
      simp [updV, va_up, va_rf]
    · simp [updV, va_up, hq]
  exact kk hz H1 _ ls hP1 (hS.put z oq (hD.2 _ _ hwa)) hL
end RF
