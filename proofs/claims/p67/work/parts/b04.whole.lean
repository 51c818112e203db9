/-! THE CLAIM OUT OF ONE WALK OF THE LAW'S BODY. Your part is whole_start (and what it stands on); all else here is the same for every law, but numbers. -/
def R_law : String := "RateLimiterLaw"
def lw_P (b : Addr) (xs : List Int32) (args : Array Value) (s : State) : Prop := args = #[.ref b] ∧ s.IntsAt b xs ∧ xs.length ≤ 260 ∧ (Jvm.Cond.and given_1 narrow_1).before args s = true
def lw_Q (_ : Array Value) (s : State) (o : Outcome) (t : State) : Prop := o = .returned (some (.int 1)) ∧ Framed s o t [] 600000 7302250
def lw_Z (below : List Frame) (a : Array Value) (s : State) : State → Prop := fun t => ∃ o, t.status = .running ∧ Ended t below o ∧ lw_Q a s o t
/-- the law's own end, with 1 on the stack, nothing written that was there before, its room as the claim has it -/
theorem lw_ret {p : Program} {l : Launch} {e : Env} {s : State} {m : MethodId} {below : List Frame} {meth : Method} {c : Code} {b : Nat} (hx : p.tables.exec = Jvm.exec) (hb : c.code = code) (hr : meth.sig.returnType = ret) (hlocks : meth.locks = false) {pc : Nat} {H : Heap} {ls : Array Slot} (hdg : decode code pc = .ok (.ireturn, 1)) : W p l e room_1 s m #[Value.ref b] below meth c H [] 600000 7302250 (lw_Z below #[Value.ref b] s) (F0 m pc ls [.int 1]) := by
  intro T hT X
  obtain ⟨fs, hret, hrun, hended, hW, hframe⟩ := X.leave (v := some (.int 1)) (hlocks := hlocks) (fun h => by rw [hr] at h; cases h)
  have hmeth' : T.vm.method? m = some meth := X.method'
  refine ⟨T.setFrames fs, ?_, .returned (some (.int 1)), hrun, hended, rfl, ⟨_, rfl⟩, hW, hframe⟩
  jvm_step X.here [X.here.top, hx, hb, hdg, hmeth', hr, ret, narrow_b1]
  (try refine ⟨rfl, ?_⟩); (try refine ⟨rfl, ?_⟩)
  first | (intro acts; rw [hret _ acts rfl rfl rfl]) | rw [hret _ _ rfl rfl rfl]
  exact Steps.refl _
/-- what holds at the law's entry: the machine, the code, the tables' words (any of lw_tbl by 'hts w (by decide +kernel)'), the script of L ints xs at the cell b, what the Statement gives of the start (any of its parts by flat_of_before) -/
def lw_At (p : Program) (s : State) (m : MethodId) (meth : Method) (c : Code) (b L : Nat) (xs : Nat → Int32) : Prop :=
  p.tables.exec = Jvm.exec ∧ c.code = code ∧ meth.sig.returnType = ret ∧ c.maxLocals = 10 ∧ s.vm.findClass R_law = some m.cls ∧ (∀ w ∈ lw_tbl, w.before #[Value.ref b] s = true) ∧ va_X b L xs s s.heap ∧ b < s.heap.size ∧ meth.locks = false ∧ (Jvm.Cond.and given_1 narrow_1).before #[Value.ref b] s = true
set_option maxRecDepth 100000 in
set_option maxHeartbeats 4000000 in
theorem whole_start {p : Program} {e : Env} {s : State} {m : MethodId} {below : List Frame} {meth : Method} {c : Code} (l : Launch) (hflags : l.flags = flags0) {b L : Nat} {xs : Nat → Int32} (hL : L ≤ 260) (C0 : lw_At p s m meth c b L xs) : W p l e room_1 s m #[Value.ref b] below meth c s.heap [] 0 0 (lw_Z below #[Value.ref b] s) (entryFrame m ([Value.ref b] : List Value).toArray 10) := by
  obtain ⟨hx, hb, hr, hml, hown, hts, hX, hbl, hlocks, hgv⟩ := C0
  have hxs := xs_all hts
  have hg : ∀ w ∈ gwt, w.before #[Value.ref b] s = true := fun w hw => by
    rcases List.mem_append.mp (List.mem_filter.mp hw).1 with h2 | h2
    · exact hxs w h2
    · exact hts w h2
  obtain ⟨c0, -, -⟩ := u_known (ws := gwt) (C := RX0) (T := TX0) (N := 3) hg cf_0.2.2.1 (hg _ is_X0)
  have hk : ∀ k : Nat, ∃ q : ClassId × (Nat → Nat), ∀ e, vwCl[k]? = some e → u_Kn s e.1 e.2.1 e.2.2 q.1 q.2 := by
    intro k
    have q : k = 0 ∨ k = 1 ∨ k = 2 ∨ k = 3 ∨ k = 4 ∨ k = 5 ∨ k = 6 ∨ k = 7 ∨ k = 8 ∨ k = 9 ∨ k = 10 ∨ k = 11 ∨ k = 12 ∨ k = 13 ∨ k = 14 ∨ k = 15 ∨ 16 ≤ k := by omega
    rcases q with rfl | rfl | rfl | rfl | rfl | rfl | rfl | rfl | rfl | rfl | rfl | rfl | rfl | rfl | rfl | rfl | q
    · obtain ⟨cC, iS, hK⟩ := u_known (ws := gwt) (C := RX0) (T := TX0) (N := 3) hg cf_0.2.2.1 (hg _ is_X0)
      exact ⟨(cC, iS), fun e he => by
        have he2 : some (RX0, TX0, 3) = some e := he
        cases he2
        exact hK⟩
    · obtain ⟨cC, iS, hK⟩ := u_known (ws := gwt) (C := RX1) (T := TX1) (N := 5) hg cf_1.2.2.1 (hg _ is_X1)
      exact ⟨(cC, iS), fun e he => by
        have he2 : some (RX1, TX1, 5) = some e := he
        cases he2
        exact hK⟩
    · obtain ⟨cC, iS, hK⟩ := u_known (ws := gwt) (C := RX2) (T := TX2) (N := 5) hg cf_2.2.2.1 (hg _ is_X2)
      exact ⟨(cC, iS), fun e he => by
        have he2 : some (RX2, TX2, 5) = some e := he
        cases he2
        exact hK⟩
    · obtain ⟨cC, iS, hK⟩ := u_known (ws := gwt) (C := RX3) (T := TX3) (N := 5) hg cf_3.2.2.1 (hg _ is_X3)
      exact ⟨(cC, iS), fun e he => by
        have he2 : some (RX3, TX3, 5) = some e := he
        cases he2
        exact hK⟩
    · obtain ⟨cC, iS, hK⟩ := u_known (ws := gwt) (C := RX4) (T := TX4) (N := 5) hg cf_4.2.2.1 (hg _ is_X4)
      exact ⟨(cC, iS), fun e he => by
        have he2 : some (RX4, TX4, 5) = some e := he
        cases he2
        exact hK⟩
    · obtain ⟨cC, iS, hK⟩ := u_known (ws := gwt) (C := RX5) (T := TX5) (N := 11) hg cf_5.2.2.1 (hg _ is_X5)
      exact ⟨(cC, iS), fun e he => by
        have he2 : some (RX5, TX5, 11) = some e := he
        cases he2
        exact hK⟩
    · obtain ⟨cC, iS, hK⟩ := u_known (ws := gwt) (C := RX6) (T := TX6) (N := 6) hg cf_6.2.2.1 (hg _ is_X6)
      exact ⟨(cC, iS), fun e he => by
        have he2 : some (RX6, TX6, 6) = some e := he
        cases he2
        exact hK⟩
    · obtain ⟨cC, iS, hK⟩ := u_known (ws := gwt) (C := RX7) (T := TX7) (N := 15) hg cf_7.2.2.1 (hg _ is_X7)
      exact ⟨(cC, iS), fun e he => by
        have he2 : some (RX7, TX7, 15) = some e := he
        cases he2
        exact hK⟩
    · obtain ⟨cC, iS, hK⟩ := u_known (ws := gwt) (C := RX8) (T := TX8) (N := 9) hg cf_8.2.2.1 (hg _ is_X8)
      exact ⟨(cC, iS), fun e he => by
        have he2 : some (RX8, TX8, 9) = some e := he
        cases he2
        exact hK⟩
    · obtain ⟨cC, iS, hK⟩ := u_known (ws := gwt) (C := RX9) (T := TX9) (N := 2) hg cf_9.2.2.1 (hg _ is_X9)
      exact ⟨(cC, iS), fun e he => by
        have he2 : some (RX9, TX9, 2) = some e := he
        cases he2
        exact hK⟩
    · obtain ⟨cC, iS, hK⟩ := u_known (ws := gwt) (C := RX10) (T := TX10) (N := 4) hg cf_10.2.2.1 (hg _ is_X10)
      exact ⟨(cC, iS), fun e he => by
        have he2 : some (RX10, TX10, 4) = some e := he
        cases he2
        exact hK⟩
    · obtain ⟨cC, iS, hK⟩ := u_known (ws := gwt) (C := RX11) (T := TX11) (N := 8) hg cf_11.2.2.1 (hg _ is_X11)
      exact ⟨(cC, iS), fun e he => by
        have he2 : some (RX11, TX11, 8) = some e := he
        cases he2
        exact hK⟩
    · obtain ⟨cC, iS, hK⟩ := u_known (ws := gwt) (C := RX12) (T := TX12) (N := 25) hg cf_12.2.2.1 (hg _ is_X12)
      exact ⟨(cC, iS), fun e he => by
        have he2 : some (RX12, TX12, 25) = some e := he
        cases he2
        exact hK⟩
    · obtain ⟨cC, iS, hK⟩ := u_known (ws := gwt) (C := RJ0) (T := TJ0) (N := 4) hg cf_13.2.2.1 (hg _ is_J0)
      exact ⟨(cC, iS), fun e he => by
        have he2 : some (RJ0, TJ0, 4) = some e := he
        cases he2
        exact hK⟩
    · obtain ⟨cC, iS, hK⟩ := u_known (ws := gwt) (C := RJ4) (T := TJ4) (N := 4) hg cf_14.2.2.1 (hg _ is_J4)
      exact ⟨(cC, iS), fun e he => by
        have he2 : some (RJ4, TJ4, 4) = some e := he
        cases he2
        exact hK⟩
    · obtain ⟨cC, iS, hK⟩ := u_known (ws := gwt) (C := RJx4a65c) (T := TJx4a65c) (N := 3) hg cf_15.2.2.1 (hg _ is_Jx4a65c)
      exact ⟨(cC, iS), fun e he => by
        have he2 : some (RJx4a65c, TJx4a65c, 3) = some e := he
        cases he2
        exact hK⟩
    · refine ⟨(c0, fun _ => 0), fun e he => ?_⟩
      rw [List.getElem?_eq_none (by exact q)] at he
      cases he
  obtain ⟨D, hD⟩ := Classical.axiomOfChoice hk
  obtain ⟨aI, aI1, aI2⟩ := aq_arr (ty := .int) (fun n h => by cases h) (hg _ ac_int)
  obtain ⟨aL, aL1, aL2⟩ := aq_arr (ty := .long) (fun n h => by cases h) (hg _ ac_long)
  obtain ⟨aZ, aZ1, aZ2⟩ := aq_arr (ty := .boolean) (fun n h => by cases h) (hg _ ac_boolean)
  obtain ⟨aB, aB1, aB2⟩ := aq_arr (ty := .byte) (fun n h => by cases h) (hg _ ac_byte)
  obtain ⟨aO, aO1, aO2⟩ := aq_obj (wqC hts (i := 724) (c := Cond.arrayOver (.object "java/lang/Object")) (by decide +kernel))
  obtain ⟨aR, aR1, aR2⟩ := aq_row (wqC hts (i := 1528) (c := Cond.arrayOver (.array .int)) (by decide +kernel))
  obtain ⟨vA, e1, e2, e3, e4, e5, e6⟩ : ∃ vA : FieldType → ClassId, vA .int = aI ∧ vA .long = aL ∧ vA .boolean = aZ ∧ vA .byte = aB ∧ vA (.object "java/lang/Object") = aO ∧ vA (.array .int) = aR := ⟨fun t => match t with
    | .long => aL
    | .boolean => aZ
    | .byte => aB
    | .object _ => aO
    | .array _ => aR
    | _ => aI, rfl, rfl, rfl, rfl, rfl, rfl⟩
  obtain ⟨G, hG⟩ := st_GF (l := l) (s := s) (dC := ((fun k => (D k).1), fun k => (D k).2)) (vA := vA) hgv hts
  obtain ⟨X, eX⟩ : ∃ X : KX, X = ((l, s.heap.size, ((fun k => (D k).1), fun k => (D k).2), vA, G), p, e, room_1, s, m, #[Value.ref b], below, meth, c) := ⟨_, rfl⟩
  have hOk : Ok X RL cL_law 10 (some .boolean) 20 600 600000 7302250 := by
    subst eX
    refine ⟨hx, hb, hown, hml, hg, ⟨fun k q h => hD k q h, fun k q h => ?_⟩, hG, hr, hlocks, ⟨Nat.le_of_ble_eq_true rfl, Nat.le_of_ble_eq_true rfl, Nat.le_refl _, Nat.le_refl _⟩⟩
    have h2 : [(vA .int, FieldType.int), (vA .long, .long), (vA .boolean, .boolean), (vA .byte, .byte), (vA (.object "java/lang/Object"), .object "java/lang/Object"), (vA (.array .int), .array .int)][k]? = some q := h
    have hk4 : k < 6 := (List.getElem?_eq_some_iff.mp h2).1
    have hk' : k = 0 ∨ k = 1 ∨ k = 2 ∨ k = 3 ∨ k = 4 ∨ k = 5 := by omega
    rcases hk' with rfl | rfl | rfl | rfl | rfl | rfl
    · cases h2; rw [e1]; exact ⟨aI1, aI2⟩
    · cases h2; rw [e2]; exact ⟨aL1, aL2⟩
    · cases h2; rw [e3]; exact ⟨aZ1, aZ2⟩
    · cases h2; rw [e4]; exact ⟨aB1, aB2⟩
    · cases h2; rw [e5]; exact ⟨aO1, aO2⟩
    · cases h2; rw [e6]; exact ⟨aR1, aR2⟩
  have hret : ∀ (T1 : Shp) (G : Hp) (c1 s1 : Nat) (turn : Int), (c1 ≤ 600000 ∧ s1 ≤ 7302250) → R X (SH T1) c1 s1 430 [some (.ref b), some (vr (xV X) 0), some (vi 1), some (vi turn), none, none, none, none, none, none] [vi 1] G (lw_Z below #[Value.ref b] s) := by
    intro T1 G c1 s1 turn hc hz H locs ls hP hS hL
    subst eX
    refine W.widen hc.1 hc.2 (va_forget (fun q hq => hS.2.2 q hq) ?_)
    exact lw_ret hx hb hr hlocks dL_law_430
  have key : R X (RSH.take 0) 0 0 0 [some (.ref b), none, none, none, none, none, none, none, none, none] [] (fun _ _ => 0) (lw_Z below #[Value.ref b] s) := by
    have hO := hOk
    refine R_newS hO cf_11 cl_L_25 is_X11 in_RateLimiter (by decide) ⟨by decide, by decide⟩ dL_law_0 (sh2 := RSH.take 1) (n := 0) rfl rfl ?_
    refine R_dup hO c1_r dL_law_3 ?_
    refine R_c0 hO dL_law_4 li_L_135 mk_X11_init mc_X11_init (rs := []) ⟨by decide, rfl⟩ (i_0 (by simp only [row_s])) ⟨⟨by decide, by decide⟩, by decide, by decide, rfl, Nat.le_of_ble_eq_true rfl, rfl⟩ (fun x1 F1 h1 => ?_)
    refine R_astore_1 hO c1_S dL_law_7 ?_
    have hI : ∀ a : Int, 0 ≤ a → a < 136 → F1 a = INI a := by
      intro a z0 z1
      by_cases q : a = 0
      · rw [q]; exact h1.2.2
      · exact h1.1 a (by omega) (by omega)
    refine R_frz hI ?_
    obtain ⟨i1, i2, i3, i4, i5, i6⟩ := ci_ini hI
    exact lw_open hO i1 i2 i3 ⟨by decide, by decide⟩ (lw_law hO (b := b) (Ln := L) (f := xs) (by subst eX; exact hX) (by subst eX; exact hbl) hL i4 i5 i6 ⟨by decide, by decide⟩ hret)
  have hl := lv_entry ([.ref b]) (n := 10) (Nat.le_of_ble_eq_true rfl)
  rw [lg_entry_eq]
  subst eX
  exact key rfl s.heap [] _ (fun k q h => by simp [wl, RSH] at h) va_S.rf hl
set_option maxHeartbeats 4000000 in
theorem lw_walk (l : Launch) (hflags : l.flags = flags0) (b : Addr) (xs : List Int32) : MetFree l x (headSpec (Jvm.Cond.code x code maxLocals ret :: tables_1) room_1) (lw_P b xs) (fun _ _ _ _ _ => True) lw_Q := by
  refine MetFree.of_bodyS (code := code) (maxLocals := maxLocals) (ret := ret) (by decide) ?_ ?_
  · intro args s m h hn
    obtain ⟨meth, c, h1, h2, h3, h4, h5, h6, -, -⟩ := Cond.code_spec hn (atoms_spec (ws := Jvm.Cond.code x code maxLocals ret :: tables_1) h _ List.mem_cons_self)
    exact ⟨meth, c, h1, h2, h3, h4, h5, h6⟩
  · intro p e s m args below meth c s₁ B hml0 hP _
    obtain ⟨rfl, hx, hbd, hgv⟩ := hP
    obtain ⟨scr, harrAt, hlist, hof, hsmall⟩ := hx
    obtain ⟨hcb, hkn, -, -⟩ := State.arrayAt?_spec harrAt
    have hown : s.vm.findClass R_law = some m.cls := findClass_of_methodNamed B.named
    have hts0 : ∀ c ∈ (Jvm.Cond.code x code maxLocals ret :: tables_1), c.before #[Value.ref b] s = true := atoms_spec (ws := Jvm.Cond.code x code maxLocals ret :: tables_1) B.pre
    have hts : ∀ w ∈ lw_tbl, w.before #[Value.ref b] s = true := k2_hts_sels lw_privs (fun w hw => hts0 w (List.mem_cons_of_mem _ hw)) lw_privs_ok
    have hml : c.maxLocals = 10 := B.maxLocals_eq (hts0 _ List.mem_cons_self)
    have X₀ : Stand p l e room_1 s m #[Value.ref b] below meth c s₁ [] 0 0 := Stand.of_body B
    have hh0 : s₁.heap = s.heap := by rw [B.state]; rfl
    have hsz : scr.slots.size = xs.length := by rw [← Array.length_toList, hlist, List.length_map]
    have hval : ∀ j : Nat, j < xs.length → scr.slots[j]? = some (.int (xs.getD j 0)) := fun j hj => by
      rw [← Array.getElem?_toList, hlist]
      simp [hj]
    have hbl : b < s.heap.size := (Array.getElem?_eq_some_iff.mp hcb).1
    have hX : va_X b xs.length (fun j => xs.getD j 0) s s.heap := ⟨scr, hcb, hof, hkn, hsz, hval⟩
    have K : W p l e room_1 s m #[Value.ref b] below meth c s₁.heap [] 0 0 (lw_Z below #[Value.ref b] s) (entryFrame m ([Value.ref b] : List Value).toArray 10) := by
      rw [hh0]
      exact whole_start l hflags hbd ⟨B.exec, B.bytes, B.returns, hml, hown, hts, hX, hbl, B.notSynchronized, hgv⟩
    obtain ⟨t, a1, o, b1, b2, b3⟩ := K s₁ rfl X₀
    exact ⟨t, o, a1, b1, b2, b3⟩
theorem lw_pre_spec {args : Array Value} {s : State} (h : (Jvm.Cond.and given_1 narrow_1).before args s = true) (hr : rest_1_c.before args s = true) : ∃ (b : Addr) (xs : List Int32), lw_P b xs args s := by
  have hs := flat_of_before _ h
  have hq := flat_of_before _ hr
  have hc : (Cond.count 1).before args s = true := hs _ (by decide +kernel)
  have harr : (Cond.arrayOf (.arg 0) .int).before args s = true := hs _ (by decide +kernel)
  have hle : (Cond.le (.length (.arg 0)) (.int 260)).before args s = true := hs _ (by decide +kernel)
  have hlen : (Cond.isInt (.length (.arg 0))).before args s = true := hq _ (by decide +kernel)
  have hall : (Cond.all (.arg 0) (.isInt (.elem (.arg 0) (.index 0)))).before args s = true := hq _ (by decide +kernel)
  obtain ⟨b, xs, hb, hx⟩ := State.ints_of_pre rfl harr hlen hall
  have hsm : xs.length < 2 ^ 31 := hx.choose_spec.2.2.2
  have hev : (Term.length (.arg 0)).eval args s none [] s = some (.int xs.length.toInt32) := hx.length_eval hb
  have hv := Cond.le_ints hev (show (Term.int 260).eval args s none [] s = some (.int 260) from rfl)
  have hd : xs.length.toInt32 ≤ 260 := by
    simpa [Cond.before, Cond.holds, hv] using hle
  have hN : xs.length ≤ 260 := (Int32.ofNat_le_ofNat hsm (by decide)).mp (show Int32.ofNat xs.length ≤ Int32.ofNat 260 from hd)
  exact ⟨b, xs, Cond.one_arg hc (show args[0]? = some (.ref b) from hb), hx, hN, h⟩
theorem lw_comes (l : Launch) (hflags : l.flags = flags0) : Comes l x (Jvm.Cond.code x code maxLocals ret :: tables_1) room_1 (fun tb e args s => Calls_1 tb e args s ∧ rest_1 tb e args s ∧ Pre_1 tb e args s)
    (fun _ _ args s o t => lw_Q args s o t) := by
  intro p e ha hc hk s m args below hf hfit hheap happ hpre
  obtain ⟨b, xs, hP⟩ := lw_pre_spec hpre.2.2 hpre.2.1
  obtain ⟨k, o, h1, h2, h3, hQ⟩ := lw_walk l hflags b xs p e ha hc hk s m args below hf ((Spec.applies_iff_loose hf).mp happ).1 hP trivial
  exact ⟨k, o, h1, h2, h3, hQ⟩
theorem lw_frame {s t : State} {o : Outcome} {args : Array Value} (h : Framed s o t [] 600000 7302250) :
    Framed s o t (fieldLocs frame_1_writes args s ++ arrayLocs frame_1_arrays args s ++ staticLocs frame_1_statics s) 600000 7302250 := h
theorem lw_limb (L : Cond) (hL : ∀ (args : Array Value) (s t : State), L.after args s (.returned (some (.int 1))) t = true) :
    ArmFor flags0 classFile x code maxLocals ret World_1 tables_1 room_1 Calls_1 rest_1 Pre_1
      (fun tb e a s o t => postC L tb e a s o t ∧ Framed s o t (fieldLocs frame_1_writes a s ++ arrayLocs frame_1_arrays a s ++ staticLocs frame_1_statics s) 600000 7302250) := by
  intro l hflags _ _ p e ha hc hk s m args below hf hfit hheap happ hpre
  obtain ⟨k, o, h1, h2, h3, rfl, hF⟩ := lw_comes l hflags p e ha hc hk s m args below hf hfit hheap happ hpre
  exact ⟨k, _, h1, h2, h3, hL args s _, lw_frame hF⟩
theorem i_vc : Claimed_1_1 ∧ Claimed_1_2 := ⟨lw_limb limb_1_1 (fun args s t => by simp [limb_1_1, Cond.after, Cond.holds, Cond.value]), lw_limb limb_1_2 (fun args s t => Cond.after_iff.mpr (by
  first | (rw [show limb_1_2 = Cond.eq .result (.int 1) from rfl, Cond.eq_ints (x := 1) (y := 1) rfl rfl]; simp; done) | (simp [limb_1_2, Cond.value, Term.eval]; done)))⟩

