section RE
variable {X : KX} {sh : Shp} {cs ss pc : Nat} {L : List (Option Value)} {st : List Value} {F : Hp} {Z : State → Prop} {own : String} {cc : ByteArray} {nL : Nat} {ret : Option FieldType} {fr lo mc ms : Nat}
/-- a post that tells the cells' shape behind -/
def PostE (V : VX) (kd : Nat) (Q : Int → Shp → Hp → Prop) : Array Value → State → Outcome → State → Prop := fun _ st oc t =>
  (∃ (x : Int) (sh : Shp) (F : Hp), oc = .returned (rv V kd x) ∧ Q x sh F ∧ HP V sh F t.heap ∧ t.heap.size = vB V + sh.length) ∧ va_F (AB V) st t
def CtE (V : VX) (y : MethodName) (cc : ByteArray) (nL : Nat) (ret : Option FieldType) (fr lo mc ms : Nat) (sh : Shp) (args : List Value) (F : Hp) (kd : Nat) (Q : Int → Shp → Hp → Prop) : Prop :=
  Met (vL V) y (.code y cc nL ret :: gwt) ({ frames := fr, cells := mc, slots := ms, locals := lo }) (va_Pc args (fun U => U.heap.size = vB V + sh.length ∧ HP V sh F U.heap ∧ va_K (vD V) vwCl (tys4 V) U ∧ GF V U)) (PostE V kd Q) mc ms (AB V)
def ZE (X : KX) (kd : Nat) (Q : Int → Shp → Hp → Prop) (mc ms : Nat) : State → Prop := MQ (xb X) (PostE (xV X) kd Q) (xa X) (xs X) mc ms (AB (xV X))
theorem CtE.ofI {V : VX} {y : MethodName} {cc : ByteArray} {nL : Nat} {ret : Option FieldType} {fr lo mc ms : Nat} {sh : Shp} {args : List Value} {F : Hp} {kd : Nat} {Q : Int → Shp → Hp → Prop} (L : List (Option Value)) (hy : plainName y.cls = true) (hlen : (lg_sl args).length ≤ nL) (hL : L.length = nL) (hLa : asc 0 L = lv_args 0 args)
    (body : ∀ X : KX, xV X = V → Ok X y.cls cc nL ret fr lo mc ms → (xM X).name = y.name → R X sh 0 0 0 L [] F (ZE X kd Q mc ms)) : CtE V y cc nL ret fr lo mc ms sh args F kd Q := by
  refine Met.ofW (cc := cc) (maxL := nL) (ret := ret) hy rfl ?_
  intro p e s m as below meth c s₁ B hml hv
  obtain ⟨rfl, hz, hP, hK, hG⟩ := hv
  have hts0 := atoms_spec (ws := .code y cc nL ret :: gwt) B.pre
  have hts : ∀ w ∈ gwt, w.before args.toArray s = true := fun w hw => hts0 w (List.mem_cons_of_mem _ hw)
  have hown : s.vm.findClass y.cls = some m.cls := findClass_of_methodNamed B.named
  have hin : meth.name = y.name := (name_of_methodNamed B.named B.method).1
  have key := body (V, p, e, (headSpec (.code y cc nL ret :: gwt) ({ frames := fr, cells := mc, slots := ms, locals := lo } : Room)).room, s, m, args.toArray, below, meth, c) rfl ⟨B.exec, B.bytes, hown, hml, hts, hK, hG, B.returns, B.notSynchronized, Nat.le_refl _, Nat.le_refl _, Nat.le_refl _, Nat.le_refl _⟩ hin
  have hl := lv_entry args (n := nL) hlen
  rw [lg_entry_eq]
  exact key hz s.heap [] _ hP va_S.rf (by unfold LSl; rw [hL, hLa]; exact hl)
theorem CtE.of {V : VX} {y : MethodName} {cc : ByteArray} {nL : Nat} {ret : Option FieldType} {fr lo mc ms : Nat} {sh : Shp} {args : List Value} {F : Hp} {kd : Nat} {Q : Int → Shp → Hp → Prop} (L : List (Option Value)) (hy : plainName y.cls = true) (hlen : (lg_sl args).length ≤ nL) (hL : L.length = nL) (hLa : asc 0 L = lv_args 0 args)
    (body : ∀ X : KX, xV X = V → Ok X y.cls cc nL ret fr lo mc ms → R X sh 0 0 0 L [] F (ZE X kd Q mc ms)) : CtE V y cc nL ret fr lo mc ms sh args F kd Q := CtE.ofI L hy hlen hL hLa (fun X h1 h2 _ => body X h1 h2)
theorem CtE.weaken {V : VX} {y : MethodName} {cc : ByteArray} {nL : Nat} {ret : Option FieldType} {fr lo mc ms : Nat} {sh : Shp} {args : List Value} {F : Hp} {kd : Nat} {Q Q' : Int → Shp → Hp → Prop} (h : CtE V y cc nL ret fr lo mc ms sh args F kd Q) (hq : ∀ x s F', Q x s F' → Q' x s F') : CtE V y cc nL ret fr lo mc ms sh args F kd Q' := by
  intro p e h1 h2 h3 s m as below h4 h5 h6 h7
  obtain ⟨k, o, a1, a2, a3, ⟨⟨x, sh', F', e1, q1, p1⟩, fr'⟩, a5⟩ := h p e h1 h2 h3 s m as below h4 h5 h6 h7
  exact ⟨k, o, a1, a2, a3, ⟨⟨x, sh', F', e1, hq _ _ _ q1, p1⟩, fr'⟩, a5⟩
theorem R_szE (k : (∀ H : Heap, HP (xV X) sh F H → H.size = vB (xV X) + sh.length → (∀ locs : List Loc, va_S (AB (xV X)) (xs X).heap H locs → ∀ ls : Array Slot, LSl ls L → W (xp X) (vL (xV X)) (xe X) (xr X) (xs X) (xm X) (xa X) (xb X) (xM X) (xc X) H locs cs ss Z (F0 (xm X) pc ls st)))) (hB : vB (xV X) ≤ (xs X).heap.size) : R X sh cs ss pc L st F Z := by
  intro hz H locs ls hP hS hL T hT S
  exact k H hP (sz_eq hz hT hP hS hB S) locs hS ls hL T hT S

theorem R_iretE (hX : Ok X own cc nL (some .int) fr lo mc ms) {x : Int} {mc' ms' : Nat} {Q : Int → Shp → Hp → Prop} (hd : decode cc pc = .ok (.ireturn, 1)) (hc : cs ≤ mc' ∧ ss ≤ ms') (hq : Q x sh F) : R X sh cs ss pc L [vi x] F (ZE X 1 Q mc' ms') :=
  R_szE (fun H hP hz locs hS ls hL => W.widen hc.1 hc.2 (W.iret hX.1 hX.2.1 hX.2.2.2.2.2.2.2.1 (fun t ht hW => ⟨⟨x, sh, F, rfl, hq, by rw [ht]; exact hP, by rw [ht]; exact hz⟩, hS.F ht⟩) hS.2.2 hd hX.2.2.2.2.2.2.2.2.1)) hX.2.2.2.2.2.2.1.1
theorem R_zretE (hX : Ok X own cc nL (some .boolean) fr lo mc ms) {x : Int} {mc' ms' : Nat} {Q : Int → Shp → Hp → Prop} (hb : x = 0 ∨ x = 1) (hd : decode cc pc = .ok (.ireturn, 1)) (hc : cs ≤ mc' ∧ ss ≤ ms') (hq : Q x sh F) : R X sh cs ss pc L [vi x] F (ZE X 1 Q mc' ms') :=
  R_szE (fun H hP hz locs hS ls hL => W.widen hc.1 hc.2 (W.zret hX.1 hX.2.1 hX.2.2.2.2.2.2.2.1 (by rcases hb with rfl | rfl <;> rfl) (fun t ht hW => ⟨⟨x, sh, F, rfl, hq, by rw [ht]; exact hP, by rw [ht]; exact hz⟩, hS.F ht⟩) hS.2.2 hd hX.2.2.2.2.2.2.2.2.1)) hX.2.2.2.2.2.2.1.1
theorem R_vretE (hX : Ok X own cc nL none fr lo mc ms) {mc' ms' : Nat} {Q : Int → Shp → Hp → Prop} (hd : decode cc pc = .ok (.return_, 1)) (hc : cs ≤ mc' ∧ ss ≤ ms') (hq : Q 0 sh F) : R X sh cs ss pc L [] F (ZE X 0 Q mc' ms') :=
  R_szE (fun H hP hz locs hS ls hL => W.widen hc.1 hc.2 (W.vret hX.1 hX.2.1 hX.2.2.2.2.2.2.2.1 (fun t ht hW => ⟨⟨0, sh, F, rfl, hq, by rw [ht]; exact hP, by rw [ht]; exact hz⟩, hS.F ht⟩) hS.2.2 hd hX.2.2.2.2.2.2.2.2.1)) hX.2.2.2.2.2.2.1.1
theorem R_aretE {rt : FieldType} (hX : Ok X own cc nL (some rt) fr lo mc ms) {x : Int} {mc' ms' : Nat} {Q : Int → Shp → Hp → Prop} (hrt : (∃ n, rt = .object n) ∨ ∃ t, rt = .array t) (hd : decode cc pc = .ok (.areturn, 1)) (hc : cs ≤ mc' ∧ ss ≤ ms') (hq : Q x sh F) : R X sh cs ss pc L [vr (xV X) x] F (ZE X 3 Q mc' ms') :=
  R_szE (fun H hP hz locs hS ls hL => W.widen hc.1 hc.2 (W.aret hX.1 hX.2.1 hX.2.2.2.2.2.2.2.1 hrt (by unfold vr; split; exact Or.inl rfl; exact Or.inr ⟨_, rfl⟩) (fun t ht hW => ⟨⟨x, sh, F, rfl, hq, by rw [ht]; exact hP, by rw [ht]; exact hz⟩, hS.F ht⟩) hS.2.2 hd hX.2.2.2.2.2.2.2.2.1)) hX.2.2.2.2.2.2.1.1
theorem stand_narrow {p : Program} {l : Launch} {e : Env} {Rm : Room} {s : State} {m : MethodId} {args : Array Value} {below : List Frame} {meth : Method} {c : Code} {T : State} {locs : List Loc} {cells slots k : Nat} (S : Stand p l e Rm s m args below meth c T locs cells slots) (h : T.heap.size ≤ s.heap.size + k) : Stand p l e Rm s m args below meth c T locs k slots :=
  { S with same := ⟨S.same.1, S.same.2.1, h, S.same.2.2.2⟩ }
theorem R_afterE {p : Program} {l : Launch} {e : Env} {Rm : Room} {s : State} {m : MethodId} {args : Array Value} {below : List Frame} {meth : Method} {c : Code} {H : Heap} {locs : List Loc} {cells slots mc2 ms2 : Nat} {V : VX} {sh1 : Shp} {kd : Nat} {Q : Int → Shp → Hp → Prop} {a : Array Value} {ls : Array Slot} {st0 rest : List Value}
    (hr : va_Run p l e Rm s m args below meth c H locs cells slots mc2 ms2 (F0 m pc ls st0) rest (PostE V kd Q a) (AB V)) (hS : va_S (AB V) s.heap H locs) (hz : s.heap.size + cells = vB V + sh1.length) (hz2 : H.size = vB V + sh1.length)
    (kk : ∀ (x : Int) (sh2 : Shp) (F' : Hp) (d : Nat) (H1 : Heap) (locs1 : List Loc), Q x sh2 F' → sh2.length = sh1.length + d → d ≤ mc2 → HP V sh2 F' H1 → va_S (AB V) s.heap H1 locs1 → W p l e Rm s m args below meth c H1 locs1 (cells + d) (slots + ms2) Z (F0 m (pc + 3) ls ((rv V kd x).toList ++ rest))) : W p l e Rm s m args below meth c H locs cells slots Z (F0 m pc ls st0) := by
  intro T hT X
  obtain ⟨v, st₀, t, T', Lc, h0, X', hL, e1, e2, ⟨⟨x, sh2, F', hv, hq, hp, hs2⟩, hz', hk⟩, st⟩ := hr T hT X
  cases hv
  rw [h0] at hz' hk
  have h5 := X'.heapSize
  rw [e1] at h5
  obtain ⟨t2, a1, b1⟩ := kk x sh2 F' (sh2.length - sh1.length) T'.heap (locs ++ Lc) hq (by omega) (by omega) (by rw [e1]; exact hp)
    ⟨Nat.le_trans hS.1 (by rw [e1]; exact hz'), fun q h1 h2 => by rw [e1, hk q (Nat.lt_of_lt_of_le h1 hS.1) h2]; exact hS.2.1 q h1 h2, fun q hq => by
      rcases List.mem_append.mp hq with h | h
      · exact hS.2.2 q h
      · exact hL q h⟩ T' rfl (stand_narrow X' (by rw [e1]; omega))
  exact ⟨t2, st t2 a1, b1⟩

theorem R_callVE (hX : Ok X own cc nL ret fr lo mc ms) {y : MethodName} {idx n nL2 fr2 lo2 mc2 ms2 kd : Nat} {ci : Nat} {k : Int} {c2 : ByteArray} {ret2 : Option FieldType} {As : List Value} {Q : Int → Shp → Hp → Prop} (hd : decode cc pc = .ok (.invokevirtual idx, 3)) (hl : LK own idx y) (hm : MK y c2 nL2 ret2 n) (hi : MI y) (hC : vwCl[ci]?.map (fun q => q.1) = some y.cls) {rs : List Int} (ho : isO sh k ci rs) (hc : CtE (xV X) y c2 nL2 ret2 fr2 lo2 mc2 ms2 sh (vr (xV X) k :: As) F kd Q)
    (hr : (fr2 + 1 ≤ fr ∧ 8 + (nL2 + 11) + lo2 ≤ lo) ∧ cs + mc2 ≤ mc ∧ ss + ms2 ≤ ms ∧ As.length = n ∧ L.length = nL ∧ (st.map fun v => v.category).sum ≤ 8) (kk : ∀ (x : Int) (sh2 : Shp) (F' : Hp) (d : Nat), Q x sh2 F' → sh2.length = sh.length + d → d ≤ mc2 → R X sh2 (cs + d) (ss + ms2) (pc + 3) L ((rv (xV X) kd x).toList ++ st) F' Z) : R X sh cs ss pc L (As.reverse ++ vr (xV X) k :: st) F Z := by
  intro hz H locs ls hP hS hL T hT S
  have hz2 := sz_eq hz hT hP hS hX.2.2.2.2.2.2.1.1 S
  have hr2 := hX.2.2.2.2.2.2.2.2.2
  rw [vr_ref ho.1] at hc ⊢
  have hcat := hr.2.2.2.2.2
  refine R_afterE (sh1 := sh) (va_runV (C := y.cls) (As := As) (rest := st) ⟨hX.1, hX.2.1, hX.2.2.2.1, hX.2.2.1, hX.2.2.2.2.1⟩ hc ⟨callB_mk hX hl hm hr.1, hX.2.2.2.2.1 _ hi.1, hX.2.2.2.2.1 _ hi.2⟩ ⟨pre_blind, recv_at hX hP ho hC, pre_at hz2 hP hX.2.2.2.2.2.1 hX.2.2.2.2.2.2.1 hS⟩ rfl hr.2.2.2.1 (hL.1.trans hr.2.2.2.2.1) rfl (lv_room (by omega)) hd ⟨by omega, by omega⟩) hS hz hz2 (fun x sh2 F' d H1 locs1 hq hl2 hd2 hp hS1 => kk x sh2 F' d hq hl2 hd2 (by omega) H1 locs1 ls hp hS1 hL) T hT S
theorem R_callVNE (hX : Ok X own cc nL ret fr lo mc ms) {y : MethodName} {host : String} {idx n nL2 fr2 lo2 mc2 ms2 kd : Nat} {ci : Nat} {k : Int} {c2 : ByteArray} {ret2 : Option FieldType} {As : List Value} {Q : Int → Shp → Hp → Prop} (hd : decode cc pc = .ok (.invokevirtual idx, 3)) (hl : LN own idx y host) (hm : MK y c2 nL2 ret2 n) (hi : MI y) (hC : vwCl[ci]?.map (fun q => q.1) = some y.cls) {rs : List Int} (ho : isO sh k ci rs) (hc : CtE (xV X) y c2 nL2 ret2 fr2 lo2 mc2 ms2 sh (vr (xV X) k :: As) F kd Q)
    (hr : (fr2 + 1 ≤ fr ∧ 8 + (nL2 + 11) + lo2 ≤ lo) ∧ cs + mc2 ≤ mc ∧ ss + ms2 ≤ ms ∧ As.length = n ∧ L.length = nL ∧ (st.map fun v => v.category).sum ≤ 8) (kk : ∀ (x : Int) (sh2 : Shp) (F' : Hp) (d : Nat), Q x sh2 F' → sh2.length = sh.length + d → d ≤ mc2 → R X sh2 (cs + d) (ss + ms2) (pc + 3) L ((rv (xV X) kd x).toList ++ st) F' Z) : R X sh cs ss pc L (As.reverse ++ vr (xV X) k :: st) F Z := by
  intro hz H locs ls hP hS hL T hT S
  have hz2 := sz_eq hz hT hP hS hX.2.2.2.2.2.2.1.1 S
  have hr2 := hX.2.2.2.2.2.2.2.2.2
  rw [vr_ref ho.1] at hc ⊢
  have hcat := hr.2.2.2.2.2
  refine R_afterE (sh1 := sh) (va_runVN (C := y.cls) (As := As) (rest := st) ⟨hX.1, hX.2.1, hX.2.2.2.1, hX.2.2.1, hX.2.2.2.2.1⟩ hc ⟨callN_mk hX hl hm hr.1, hX.2.2.2.2.1 _ hi.1, hX.2.2.2.2.1 _ hi.2⟩ ⟨pre_blind, recv_at hX hP ho hC, pre_at hz2 hP hX.2.2.2.2.2.1 hX.2.2.2.2.2.2.1 hS⟩ rfl hr.2.2.2.1 (hL.1.trans hr.2.2.2.2.1) rfl (lv_room (by omega)) hd ⟨by omega, by omega⟩) hS hz hz2 (fun x sh2 F' d H1 locs1 hq hl2 hd2 hp hS1 => kk x sh2 F' d hq hl2 hd2 (by omega) H1 locs1 ls hp hS1 hL) T hT S
theorem R_callSE (hX : Ok X own cc nL ret fr lo mc ms) {y : MethodName} {idx n nL2 fr2 lo2 mc2 ms2 kd : Nat} {c2 : ByteArray} {ret2 : Option FieldType} {As : List Value} {Q : Int → Shp → Hp → Prop} (hd : decode cc pc = .ok (.invokestatic idx, 3)) (hl : LK own idx y) (hm : MK y c2 nL2 ret2 n) (hi : MS y) (hc : CtE (xV X) y c2 nL2 ret2 fr2 lo2 mc2 ms2 sh (As) F kd Q)
    (hr : (fr2 + 1 ≤ fr ∧ 8 + (nL2 + 11) + lo2 ≤ lo) ∧ cs + mc2 ≤ mc ∧ ss + ms2 ≤ ms ∧ As.length = n ∧ L.length = nL ∧ (st.map fun v => v.category).sum ≤ 8) (kk : ∀ (x : Int) (sh2 : Shp) (F' : Hp) (d : Nat), Q x sh2 F' → sh2.length = sh.length + d → d ≤ mc2 → R X sh2 (cs + d) (ss + ms2) (pc + 3) L ((rv (xV X) kd x).toList ++ st) F' Z) : R X sh cs ss pc L (As.reverse ++ st) F Z := by
  intro hz H locs ls hP hS hL T hT S
  have hz2 := sz_eq hz hT hP hS hX.2.2.2.2.2.2.1.1 S
  have hr2 := hX.2.2.2.2.2.2.2.2.2
  skip
  have hcat := hr.2.2.2.2.2
  refine R_afterE (sh1 := sh) (va_runS (As := As) (rest := st) ⟨hX.1, hX.2.1, hX.2.2.2.1, hX.2.2.1, hX.2.2.2.2.1⟩ hc ⟨callB_mk hX hl hm hr.1, hX.2.2.2.2.1 _ hi⟩ ⟨pre_blind, pre_at hz2 hP hX.2.2.2.2.2.1 hX.2.2.2.2.2.2.1 hS⟩ rfl hr.2.2.2.1 (hL.1.trans hr.2.2.2.2.1) rfl (lv_room (by omega)) hd ⟨by omega, by omega⟩) hS hz hz2 (fun x sh2 F' d H1 locs1 hq hl2 hd2 hp hS1 => kk x sh2 F' d hq hl2 hd2 (by omega) H1 locs1 ls hp hS1 hL) T hT S
theorem R_callSNE (hX : Ok X own cc nL ret fr lo mc ms) {y : MethodName} {host : String} {idx n nL2 fr2 lo2 mc2 ms2 kd : Nat} {c2 : ByteArray} {ret2 : Option FieldType} {As : List Value} {Q : Int → Shp → Hp → Prop} (hd : decode cc pc = .ok (.invokestatic idx, 3)) (hl : LN own idx y host) (hm : MK y c2 nL2 ret2 n) (hi : MS y) (hc : CtE (xV X) y c2 nL2 ret2 fr2 lo2 mc2 ms2 sh (As) F kd Q)
    (hr : (fr2 + 1 ≤ fr ∧ 8 + (nL2 + 11) + lo2 ≤ lo) ∧ cs + mc2 ≤ mc ∧ ss + ms2 ≤ ms ∧ As.length = n ∧ L.length = nL ∧ (st.map fun v => v.category).sum ≤ 8) (kk : ∀ (x : Int) (sh2 : Shp) (F' : Hp) (d : Nat), Q x sh2 F' → sh2.length = sh.length + d → d ≤ mc2 → R X sh2 (cs + d) (ss + ms2) (pc + 3) L ((rv (xV X) kd x).toList ++ st) F' Z) : R X sh cs ss pc L (As.reverse ++ st) F Z := by
  intro hz H locs ls hP hS hL T hT S
  have hz2 := sz_eq hz hT hP hS hX.2.2.2.2.2.2.1.1 S
  have hr2 := hX.2.2.2.2.2.2.2.2.2
  skip
  have hcat := hr.2.2.2.2.2
  refine R_afterE (sh1 := sh) (va_runSN (As := As) (rest := st) ⟨hX.1, hX.2.1, hX.2.2.2.1, hX.2.2.1, hX.2.2.2.2.1⟩ hc ⟨callN_mk hX hl hm hr.1, hX.2.2.2.2.1 _ hi, trivial⟩ ⟨pre_blind, pre_at hz2 hP hX.2.2.2.2.2.1 hX.2.2.2.2.2.2.1 hS⟩ rfl hr.2.2.2.1 (hL.1.trans hr.2.2.2.2.1) rfl (lv_room (by omega)) hd ⟨by omega, by omega⟩) hS hz hz2 (fun x sh2 F' d H1 locs1 hq hl2 hd2 hp hS1 => kk x sh2 F' d hq hl2 hd2 (by omega) H1 locs1 ls hp hS1 hL) T hT S
theorem R_callIE (hX : Ok X own cc nL ret fr lo mc ms) {y : MethodName} {idx n nL2 fr2 lo2 mc2 ms2 kd : Nat} {ci : Nat} {k : Int} {c2 : ByteArray} {As : List Value} {Q : Int → Shp → Hp → Prop} (hd : decode cc pc = .ok (.invokespecial idx, 3)) (hl : LK own idx y) (hm : MK y c2 nL2 none n) (hi : MC y) {rs : List Int} (ho : isO sh k ci rs) (hc : CtE (xV X) y c2 nL2 none fr2 lo2 mc2 ms2 sh (vr (xV X) k :: As) F kd Q)
    (hr : (fr2 + 1 ≤ fr ∧ 8 + (nL2 + 11) + lo2 ≤ lo) ∧ cs + mc2 ≤ mc ∧ ss + ms2 ≤ ms ∧ As.length = n ∧ L.length = nL ∧ (st.map fun v => v.category).sum ≤ 8) (kk : ∀ (x : Int) (sh2 : Shp) (F' : Hp) (d : Nat), Q x sh2 F' → sh2.length = sh.length + d → d ≤ mc2 → R X sh2 (cs + d) (ss + ms2) (pc + 3) L ((rv (xV X) kd x).toList ++ st) F' Z) : R X sh cs ss pc L (As.reverse ++ vr (xV X) k :: st) F Z := by
  intro hz H locs ls hP hS hL T hT S
  have hz2 := sz_eq hz hT hP hS hX.2.2.2.2.2.2.1.1 S
  have hr2 := hX.2.2.2.2.2.2.2.2.2
  rw [vr_ref ho.1] at hc ⊢
  have hcat := hr.2.2.2.2.2
  refine R_afterE (sh1 := sh) (va_runI (As := As) (rest := st) ⟨hX.1, hX.2.1, hX.2.2.2.1, hX.2.2.1, hX.2.2.2.2.1⟩ hc ⟨callB_mk hX hl hm hr.1, hi.2, hX.2.2.2.2.1 _ hi.1⟩ ⟨pre_blind, pre_at hz2 hP hX.2.2.2.2.2.1 hX.2.2.2.2.2.2.1 hS⟩ rfl hr.2.2.2.1 (hL.1.trans hr.2.2.2.2.1) rfl (lv_room (by omega)) hd ⟨by omega, by omega⟩) hS hz hz2 (fun x sh2 F' d H1 locs1 hq hl2 hd2 hp hS1 => kk x sh2 F' d hq hl2 hd2 (by omega) H1 locs1 ls hp hS1 hL) T hT S
theorem R_callINE (hX : Ok X own cc nL ret fr lo mc ms) {y : MethodName} {host : String} {idx n nL2 fr2 lo2 mc2 ms2 kd : Nat} {ci : Nat} {k : Int} {c2 : ByteArray} {As : List Value} {Q : Int → Shp → Hp → Prop} (hd : decode cc pc = .ok (.invokespecial idx, 3)) (hl : LN own idx y host) (hm : MK y c2 nL2 none n) (hi : MC y) {rs : List Int} (ho : isO sh k ci rs) (hc : CtE (xV X) y c2 nL2 none fr2 lo2 mc2 ms2 sh (vr (xV X) k :: As) F kd Q)
    (hr : (fr2 + 1 ≤ fr ∧ 8 + (nL2 + 11) + lo2 ≤ lo) ∧ cs + mc2 ≤ mc ∧ ss + ms2 ≤ ms ∧ As.length = n ∧ L.length = nL ∧ (st.map fun v => v.category).sum ≤ 8) (kk : ∀ (x : Int) (sh2 : Shp) (F' : Hp) (d : Nat), Q x sh2 F' → sh2.length = sh.length + d → d ≤ mc2 → R X sh2 (cs + d) (ss + ms2) (pc + 3) L ((rv (xV X) kd x).toList ++ st) F' Z) : R X sh cs ss pc L (As.reverse ++ vr (xV X) k :: st) F Z := by
  intro hz H locs ls hP hS hL T hT S
  have hz2 := sz_eq hz hT hP hS hX.2.2.2.2.2.2.1.1 S
  have hr2 := hX.2.2.2.2.2.2.2.2.2
  rw [vr_ref ho.1] at hc ⊢
  have hcat := hr.2.2.2.2.2
  refine R_afterE (sh1 := sh) (va_runIN (As := As) (rest := st) ⟨hX.1, hX.2.1, hX.2.2.2.1, hX.2.2.1, hX.2.2.2.2.1⟩ hc ⟨callN_mk hX hl hm hr.1, hi.2, hX.2.2.2.2.1 _ hi.1⟩ ⟨pre_blind, pre_at hz2 hP hX.2.2.2.2.2.1 hX.2.2.2.2.2.2.1 hS⟩ rfl hr.2.2.2.1 (hL.1.trans hr.2.2.2.2.1) rfl (lv_room (by omega)) hd ⟨by omega, by omega⟩) hS hz hz2 (fun x sh2 F' d H1 locs1 hq hl2 hd2 hp hS1 => kk x sh2 F' d hq hl2 hd2 (by omega) H1 locs1 ls hp hS1 hL) T hT S
theorem R_callUE (hX : Ok X own cc nL ret fr lo mc ms) {y : MethodName} {y0 : MethodName} {C : String} {idx n nL2 fr2 lo2 mc2 ms2 kd : Nat} {ci : Nat} {k : Int} {c2 : ByteArray} {ret2 : Option FieldType} {As : List Value} {Q : Int → Shp → Hp → Prop} (hd : decode cc pc = .ok (.invokevirtual idx, 3)) (hl : LK own idx y0) (hm : MK y c2 nL2 ret2 n) (hu : MU C y0 y) (hn0 : y0.cls ≠ "java/lang/invoke/MethodHandle" ∧ y0.cls ≠ "java/lang/invoke/VarHandle") (hsg : (parseMethodDescriptor y0.desc).map (fun d => d.parameters.length) = some n) (hC : vwCl[ci]?.map (fun q => q.1) = some C) {rs : List Int} (ho : isO sh k ci rs) (hc : CtE (xV X) y c2 nL2 ret2 fr2 lo2 mc2 ms2 sh (vr (xV X) k :: As) F kd Q)
    (hr : (fr2 + 1 ≤ fr ∧ 8 + (nL2 + 11) + lo2 ≤ lo) ∧ cs + mc2 ≤ mc ∧ ss + ms2 ≤ ms ∧ As.length = n ∧ L.length = nL ∧ (st.map fun v => v.category).sum ≤ 8) (kk : ∀ (x : Int) (sh2 : Shp) (F' : Hp) (d : Nat), Q x sh2 F' → sh2.length = sh.length + d → d ≤ mc2 → R X sh2 (cs + d) (ss + ms2) (pc + 3) L ((rv (xV X) kd x).toList ++ st) F' Z) : R X sh cs ss pc L (As.reverse ++ vr (xV X) k :: st) F Z := by
  intro hz H locs ls hP hS hL T hT S
  have hz2 := sz_eq hz hT hP hS hX.2.2.2.2.2.2.1.1 S
  have hr2 := hX.2.2.2.2.2.2.2.2.2
  rw [vr_ref ho.1] at hc ⊢
  have hcat := hr.2.2.2.2.2
  refine R_afterE (sh1 := sh) (va_runU (C := C) (owner := y0.cls) (x := y0) (As := As) (rest := st) ⟨hX.1, hX.2.1, hX.2.2.2.1, hX.2.2.1, hX.2.2.2.2.1⟩ hc ⟨⟨rfl, rfl, Nat.le_trans hr.1.1 hr2.1, Nat.le_trans hr.1.2 hr2.2.1, pay_in hX.2.2.2.2.1 (good_cons hm.1), List.mem_cons_self⟩, hX.2.2.2.2.1 _ hm.1, hX.2.2.2.2.1 _ hm.2.1, hn0, fun sig h => by rw [h] at hsg; exact (Option.some.inj hsg).symm, hX.2.2.2.2.1 _ hl, hX.2.2.2.2.1 _ hu.2.2.1, (match hu.2.2.2.2 with | ⟨b, m0, r0, h0⟩ => va_Decl.of (hX.2.2.2.2.1 _ hu.2.2.2.1) (hX.2.2.2.2.1 _ h0)), hX.2.2.2.2.1 _ hu.2.1, hX.2.2.2.2.1 _ hu.1⟩ ⟨pre_blind, recv_at hX hP ho hC, pre_at hz2 hP hX.2.2.2.2.2.1 hX.2.2.2.2.2.2.1 hS⟩ rfl hr.2.2.2.1 (hL.1.trans hr.2.2.2.2.1) rfl (lv_room (by omega)) hd ⟨by omega, by omega⟩) hS hz hz2 (fun x sh2 F' d H1 locs1 hq hl2 hd2 hp hS1 => kk x sh2 F' d hq hl2 hd2 (by omega) H1 locs1 ls hp hS1 hL) T hT S
end RE
