/-! the law: a row of ints that was there before; the new tree's references frozen -/
theorem i32_rng (z : Int32) : I32 z.toInt := ⟨Int32.le_toInt z, by have := Int32.toInt_lt z; omega⟩
theorem vi_x (z : Int32) : vi z.toInt = .int z := by unfold vi; rw [Int32.ofInt_toInt]
/-- a method's contract that knows such a row too -/
def CtA (V : VX) (b Ln : Nat) (f : Nat → Int32) (y : MethodName) (cc : ByteArray) (nL : Nat) (ret : Option FieldType) (fr lo mc ms : Nat) (sh : Shp) (args : List Value) (F : Hp) (sh' : Shp) (kd : Nat) (Q : Int → Hp → Prop) : Prop :=
  Met (vL V) y (.code y cc nL ret :: gwt) ({ frames := fr, cells := mc, slots := ms, locals := lo }) (va_Pc args (fun U => U.heap.size = vB V + sh.length ∧ HP V sh F U.heap ∧ va_K (vD V) vwCl (tys4 V) U ∧ GF V U ∧ va_X b Ln f U U.heap)) (Post V sh' kd Q) mc ms (AB V)
theorem CtA.of {V : VX} {b Ln : Nat} {f : Nat → Int32} {y : MethodName} {cc : ByteArray} {nL : Nat} {ret : Option FieldType} {fr lo mc ms : Nat} {sh sh' : Shp} {args : List Value} {F : Hp} {kd : Nat} {Q : Int → Hp → Prop} (L : List (Option Value)) (hy : plainName y.cls = true) (hlen : (lg_sl args).length ≤ nL) (hL : L.length = nL) (hLa : asc 0 L = lv_args 0 args)
    (body : ∀ X : KX, xV X = V → Ok X y.cls cc nL ret fr lo mc ms → va_X b Ln f (xs X) (xs X).heap → R X sh 0 0 0 L [] F (Zq X sh' kd Q mc ms)) : CtA V b Ln f y cc nL ret fr lo mc ms sh args F sh' kd Q := by
  refine Met.ofW (cc := cc) (maxL := nL) (ret := ret) hy rfl ?_
  intro p e s m as below meth c s₁ B hml hv
  obtain ⟨rfl, hz, hP, hK, hG, hA⟩ := hv
  have hts0 := atoms_spec (ws := .code y cc nL ret :: gwt) B.pre
  have hts : ∀ w ∈ gwt, w.before args.toArray s = true := fun w hw => hts0 w (List.mem_cons_of_mem _ hw)
  have hown : s.vm.findClass y.cls = some m.cls := findClass_of_methodNamed B.named
  have key := body (V, p, e, (headSpec (.code y cc nL ret :: gwt) ({ frames := fr, cells := mc, slots := ms, locals := lo } : Room)).room, s, m, args.toArray, below, meth, c) rfl ⟨B.exec, B.bytes, hown, hml, hts, hK, hG, B.returns, B.notSynchronized, Nat.le_refl _, Nat.le_refl _, Nat.le_refl _, Nat.le_refl _⟩ hA
  have hl := lv_entry args (n := nL) hlen
  rw [lg_entry_eq]
  exact key hz s.heap [] _ hP va_S.rf (by unfold LSl; rw [hL, hLa]; exact hl)
theorem preA_blind {V : VX} {b Ln : Nat} {f : Nat → Int32} {sh : Shp} {F : Hp} {av : List Value} : FrameBlind (va_Pc av (fun U => U.heap.size = vB V + sh.length ∧ HP V sh F U.heap ∧ va_K (vD V) vwCl (tys4 V) U ∧ GF V U ∧ va_X b Ln f U U.heap)) := by
  intro a U g mk q
  obtain ⟨q0, q1, q2, q3, q4, q5⟩ := q
  exact ⟨q0, q1, q2, va_K.moved (u := U) (U := U.calling g mk a) (Vm.Alike.refl U.vm) q3, q4.move (State.WarmedH.refl U) (Nat.le_refl _) (fun _ _ => rfl), va_X.moved (u := U) (U := U.calling g mk a) (Vm.Alike.refl U.vm) q5⟩
theorem preA_at {V : VX} {b Ln : Nat} {f : Nat → Int32} {sh : Shp} {F : Hp} {av : List Value} {s : State} {H : Heap} {locs : List Loc} (hz : H.size = vB V + sh.length) (hP : HP V sh F H) (hK : va_K (vD V) vwCl (tys4 V) s) (hG : GF V s) (hA : va_X b Ln f s s.heap) (hb : b < vB V) (hS : va_S (AB V) s.heap H locs) : ∀ U : State, U.heap = H → s.WarmedH U.vm → va_Pc av (fun U => U.heap.size = vB V + sh.length ∧ HP V sh F U.heap ∧ va_K (vD V) vwCl (tys4 V) U ∧ GF V U ∧ va_X b Ln f U U.heap) av.toArray U := by
  intro U hU hW
  have hq : ∀ a : Nat, a < vB V → U.heap[a]? = s.heap[a]? := fun a ha => by
    rw [hU]
    exact hS.2.1 a (Nat.lt_of_lt_of_le ha hG.1) (by unfold AB; omega)
  exact ⟨rfl, by rw [hU]; exact hz, by rw [hU]; exact hP, va_K.moved hW.alike hK, hG.move hW (by rw [hU]; exact hS.1) hq, (va_X.moved hW.alike hA).kept (hq b hb)⟩
section LR
variable {X : KX} {sh : Shp} {cs ss pc : Nat} {L : List (Option Value)} {st : List Value} {F : Hp} {Z : State → Prop} {own : String} {cc : ByteArray} {nL : Nat} {ret : Option FieldType} {fr lo mc ms : Nat}
theorem R_callSA (hX : Ok X own cc nL ret fr lo mc ms) {b Ln : Nat} {f : Nat → Int32} (hA : va_X b Ln f (xs X) (xs X).heap) (hb : b < vB (xV X)) {y : MethodName} {idx n nL2 fr2 lo2 mc2 ms2 kd : Nat} {c2 : ByteArray} {ret2 : Option FieldType} {sh2 : Shp} {As : List Value} {Q : Int → Hp → Prop} (hd : decode cc pc = .ok (.invokestatic idx, 3)) (hl : LK own idx y) (hm : MK y c2 nL2 ret2 n) (hi : MS y) (hc : CtA (xV X) b Ln f y c2 nL2 ret2 fr2 lo2 mc2 ms2 sh As F sh2 kd Q)
    (hr : (fr2 + 1 ≤ fr ∧ 8 + (nL2 + 11) + lo2 ≤ lo) ∧ cs + mc2 ≤ mc ∧ ss + ms2 ≤ ms ∧ As.length = n ∧ L.length = nL ∧ (st.map fun v => v.category).sum ≤ 8 ∧ sh2.length = sh.length + mc2) (kk : ∀ x F', Q x F' → R X sh2 (cs + mc2) (ss + ms2) (pc + 3) L ((rv (xV X) kd x).toList ++ st) F' Z) : R X sh cs ss pc L (As.reverse ++ st) F Z := by
  intro hz H locs ls hP hS hL T hT S
  have hz2 := sz_eq hz hT hP hS hX.2.2.2.2.2.2.1.1 S
  have hr2 := hX.2.2.2.2.2.2.2.2.2
  have hcat := hr.2.2.2.2.2.1
  refine R_after (va_runS (As := As) (rest := st) ⟨hX.1, hX.2.1, hX.2.2.2.1, hX.2.2.1, hX.2.2.2.2.1⟩ hc ⟨callB_mk hX hl hm hr.1, hX.2.2.2.2.1 _ hi⟩ ⟨preA_blind, preA_at hz2 hP hX.2.2.2.2.2.1 hX.2.2.2.2.2.2.1 hA hb hS⟩ rfl hr.2.2.2.1 (hL.1.trans hr.2.2.2.2.1) rfl (lv_room (by omega)) hd ⟨by omega, by omega⟩) hS (fun x F' H1 locs1 hq hp hS1 => kk x F' hq (by omega) H1 locs1 ls hp hS1 hL) T hT S
theorem R_sld (hX : Ok X own cc nL ret fr lo mc ms) {b N : Nat} {f : Nat → Int32} {i : Int} (hT : va_X b N f (xs X) (xs X).heap) (hb : b < (xs X).heap.size) (hA : ¬ AB (xV X) b) (hN : N < 2147483648) (hi : 0 ≤ i ∧ i < N) (hd : decode cc pc = .ok (.iaload, 1)) (kk : R X sh cs ss (pc + 1) L (vi (f i.toNat).toInt :: st) F Z) : R X sh cs ss pc L (vi i :: .ref b :: st) F Z := by
  intro hz H locs ls hP hS hL
  obtain ⟨h1, h2⟩ := ix_in (n := N) hi.1 hi.2 hN
  have e := kk hz H locs ls hP hS hL
  rw [vi_x] at e
  exact va_sld hX.1 hX.2.1 hT hb hA hS h1 hd (by rw [h2]; exact e)
theorem R_slen (hX : Ok X own cc nL ret fr lo mc ms) {b N : Nat} {f : Nat → Int32} (hT : va_X b N f (xs X) (xs X).heap) (hb : b < (xs X).heap.size) (hA : ¬ AB (xV X) b) (hd : decode cc pc = .ok (.arraylength, 1)) (kk : R X sh cs ss (pc + 1) L (vi (N : Int) :: st) F Z) : R X sh cs ss pc L (.ref b :: st) F Z :=
  fun hz H locs ls hP hS hL => va_slen hX.1 hX.2.1 hT hb hA hS hd (kk hz H locs ls hP hS hL)
end LR
theorem c_cell {V : VX} {T : Shp} {b Ln : Nat} {f : Nat → Int32} {F : Hp} (hbV : b < vB V) (hLn : Ln ≤ 260) {k : Int} (hk : 0 ≤ k ∧ k ≤ 4) : CtA V b Ln f yL_cell cL_cell 2 (some .int) 0 0 0 0 (SH T) [.ref b, vi k] F (SH T) 1 (fun r F' => I32 r ∧ F' = F) := by
  refine CtA.of [some (.ref b), some (vi k)] (by decide) (by simp [lg_sl, vi_cat, rf_cat]) rfl (by simp [asc, lv_args, vi_cat, rf_cat]) (fun X hV hX hA => ?_)
  subst hV
  have hb1 : b < (xs X).heap.size := Nat.lt_of_lt_of_le hbV hX.2.2.2.2.2.2.1.1
  have hb2 : ¬ AB (xV X) b := by unfold AB; omega
  refine R_iload_1 hX dL_cell_0 ?_
  refine R_aload_0_raw hX dL_cell_1 ?_
  refine R_slen hX hA hb1 hb2 dL_cell_2 ?_
  refine R_icmpge (tgt := 12) hX dL_cell_3 (by decide) ⟨by omega, by omega⟩ ⟨by omega, by omega⟩ (fun c_3 => ?_) (fun c_3 => ?_)
  · refine R_iconst hX dL_cell_12 ?_
    exact R_iret hX dL_cell_13 ⟨⟨by omega, by omega⟩, rfl⟩
  · refine R_aload_0_raw hX dL_cell_6 ?_
    refine R_iload_1 hX dL_cell_7 ?_
    refine R_sld hX hA hb1 hb2 (by omega) (by omega) dL_cell_8 ?_
    refine R_goto (tgt := 13) hX dL_cell_9 (by decide) ?_
    exact R_iret hX dL_cell_13 ⟨i32_rng _, rfl⟩
/-! the new tree -/
theorem SH_set {T : Shp} {k : Int} {g : Sg} (hk : 136 ≤ k) : SH (T.set (k - 136).toNat g) = (SH T).set k.toNat g := by
  have : k.toNat = 136 + (k - 136).toNat := by omega
  rw [this]
  generalize (k - 136).toNat = i
  rw [Nat.add_comm]
  rfl
theorem isA.set {T : Shp} {k a : Int} {g : Sg} {ty : FieldType} {n : Nat} (h : isA (SH T) a ty n) (hk : 136 ≤ k) (ha : a ≠ k) : isA (SH (T.set (k - 136).toNat g)) a ty n := ⟨h.1, by rw [SH_set hk, List.getElem?_set_ne (by have := h.1; omega)]; exact h.2.1, h.2.2⟩
theorem isO.set {T : Shp} {k a : Int} {g : Sg} {ci : Nat} {rs : List Int} (h : isO (SH T) a ci rs) (hk : 136 ≤ k) (ha : a ≠ k) : isO (SH (T.set (k - 136).toNat g)) a ci rs := ⟨h.1, by rw [SH_set hk, List.getElem?_set_ne (by have := h.1; omega)]; exact h.2⟩
theorem isO.set_s {T : Shp} {k : Int} {ci : Nat} {rs rs' : List Int} (h : isO (SH T) k ci rs) (hk : 136 ≤ k) : isO (SH (T.set (k - 136).toNat (.inl (ci, rs')))) k ci rs' := ⟨h.1, by rw [SH_set hk]; exact List.getElem?_set_self (by have := h.lt; omega)⟩
theorem tra_s {T : Shp} {t : Int} (hp : 136 ≤ t) (h : TrA T t) (h19 : isA (SH T) (t + 19) (.object "java/lang/Object") 10) : TrS (T.set (t - 136).toNat (.inl (12, trs t))) t := by
  obtain ⟨h0, h1, h2, h3, h4, h5, h6, h7, h8, h9, h10, h11, h12, h13, h14, h15, h16, h17⟩ := h
  exact ⟨h0.set_s hp, hp, h1.set hp (by omega), h2.set hp (by omega), h3.set hp (by omega), h4.set hp (by omega), h5.set hp (by omega), h6.set hp (by omega), h7.set hp (by omega), h8.set hp (by omega), h9.set hp (by omega), h10.set hp (by omega), h11.set hp (by omega), h12.set hp (by omega), h13.set hp (by omega), h14.set hp (by omega), h15.set hp (by omega), h16.set hp (by omega), h17.set hp (by omega), h19.set hp (by omega)⟩
theorem tq_set {T : Shp} {g : Sg} {F : Hp} {t : Int} (hp : 136 ≤ t) (h : TQ T F t) : TQ (T.set (t - 136).toNat g) F t := ⟨h.1, h.2.1, fun k k0 k1 => ⟨(h.2.2 k k0 k1).1, (h.2.2 k k0 k1).2.1.set hp (by have := (qc_b (t := t) k0).1; omega), (h.2.2 k k0 k1).2.2⟩⟩
theorem it_frz {V : VX} {F0 F : Hp} {t d k : Int} (h : IT F0 F t d k) : ∀ j : Nat, j < 25 → 0 ≤ (trs t).getD j (-1) → mkv V (ftys 12 j) (F t (j : Int)) = vr V ((trs t).getD j (-1)) := by
  intro j hj h0
  have h2 := h.2.1
  have q : j = 0 ∨ j = 1 ∨ j = 2 ∨ j = 3 ∨ j = 4 ∨ j = 5 ∨ j = 6 ∨ j = 7 ∨ j = 8 ∨ j = 9 ∨ j = 10 ∨ j = 11 ∨ j = 12 ∨ j = 13 ∨ j = 14 ∨ j = 15 ∨ j = 16 ∨ j = 17 ∨ j = 18 ∨ j = 19 ∨ j = 20 ∨ j = 21 ∨ j = 22 ∨ j = 23 ∨ j = 24 := by omega
  rcases q with rfl | rfl | rfl | rfl | rfl | rfl | rfl | rfl | rfl | rfl | rfl | rfl | rfl | rfl | rfl | rfl | rfl | rfl | rfl | rfl | rfl | rfl | rfl | rfl | rfl
  · exact absurd h0 (by show ¬ (0 : Int) ≤ -1; decide)
  · exact absurd h0 (by show ¬ (0 : Int) ≤ -1; decide)
  · exact absurd h0 (by show ¬ (0 : Int) ≤ -1; decide)
  · rw [show F t ((3 : Nat) : Int) = t + 1 from (h2 3 (by decide) (by decide)).trans (by omega)]; rfl
  · rw [show F t ((4 : Nat) : Int) = t + 2 from (h2 4 (by decide) (by decide)).trans (by omega)]; rfl
  · rw [show F t ((5 : Nat) : Int) = t + 3 from (h2 5 (by decide) (by decide)).trans (by omega)]; rfl
  · rw [show F t ((6 : Nat) : Int) = t + 4 from (h2 6 (by decide) (by decide)).trans (by omega)]; rfl
  · rw [show F t ((7 : Nat) : Int) = t + 5 from (h2 7 (by decide) (by decide)).trans (by omega)]; rfl
  · rw [show F t ((8 : Nat) : Int) = t + 6 from (h2 8 (by decide) (by decide)).trans (by omega)]; rfl
  · rw [show F t ((9 : Nat) : Int) = t + 7 from (h2 9 (by decide) (by decide)).trans (by omega)]; rfl
  · rw [show F t ((10 : Nat) : Int) = t + 8 from (h2 10 (by decide) (by decide)).trans (by omega)]; rfl
  · rw [show F t ((11 : Nat) : Int) = t + 9 from (h2 11 (by decide) (by decide)).trans (by omega)]; rfl
  · rw [show F t ((12 : Nat) : Int) = t + 10 from (h2 12 (by decide) (by decide)).trans (by omega)]; rfl
  · rw [show F t ((13 : Nat) : Int) = t + 11 from (h2 13 (by decide) (by decide)).trans (by omega)]; rfl
  · rw [show F t ((14 : Nat) : Int) = t + 12 from (h2 14 (by decide) (by decide)).trans (by omega)]; rfl
  · rw [show F t ((15 : Nat) : Int) = t + 13 from (h2 15 (by decide) (by decide)).trans (by omega)]; rfl
  · rw [show F t ((16 : Nat) : Int) = t + 14 from (h2 16 (by decide) (by decide)).trans (by omega)]; rfl
  · rw [show F t ((17 : Nat) : Int) = t + 15 from (h2 17 (by decide) (by decide)).trans (by omega)]; rfl
  · rw [show F t ((18 : Nat) : Int) = t + 16 from (h2 18 (by decide) (by decide)).trans (by omega)]; rfl
  · rw [show F t ((19 : Nat) : Int) = t + 17 from (h2 19 (by decide) (by decide)).trans (by omega)]; rfl
  · exact absurd h0 (by show ¬ (0 : Int) ≤ -1; decide)
  · exact absurd h0 (by show ¬ (0 : Int) ≤ -1; decide)
  · exact absurd h0 (by show ¬ (0 : Int) ≤ -1; decide)
  · exact absurd h0 (by show ¬ (0 : Int) ≤ -1; decide)
  · exact absurd h0 (by show ¬ (0 : Int) ≤ -1; decide)

