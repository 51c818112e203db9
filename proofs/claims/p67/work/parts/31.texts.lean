/-! texts: constants, their lengths and letters -/
theorem wS {p : Program} {l : Launch} {e : Env} {R : Room} {s : State} {m : MethodId} {args : Array Value} {below : List Frame} {meth : Method} {c : Code} {T : State} {locs : List Loc} {cells slots : Nat} (X : Stand p l e R s m args below meth c T locs cells slots) (hexec : p.tables.exec = Jvm.exec) {own text : String} {index : Nat} {a : Addr} (hown : s.vm.findClass own = some m.cls)
    (hconst : (Cond.stringRef own index text).before args s = true) (hev : (Term.string own index).eval args s none [] s = some (.ref a)) {g : JFrame} (hg : g.method = m) (hdg : decode c.code g.pc = .ok (.ldc_w index, 3)) :
    ∀ target, Steps p.tables e below (T.setTop { g with pc := g.pc + 3, stack := .ref a :: g.stack }) target → Steps p.tables e below (T.setTop g) target := by
  obtain ⟨k, cf, i, a', hk, hcf, hcp, -, hr, hev'⟩ := Cond.stringRef_spec hown hconst
  cases hev.symm.trans hev'
  obtain ⟨k', hk', he⟩ := X.warmed.alike.2.2 _ _ hk
  have hr' : k'.resolved[index]? = some (some (.string a)) := by
    rcases X.warmed.entry hk hk' index with h | ⟨h, -⟩
    · rw [h]; exact hr
    · rw [hr] at h; cases h
  intro target hrest
  subst hg
  jvm_step X.here [hexec, hdg, ldc_w.wp_string (e := e) (s := T) (f := g) X.here.top hk' (by rw [he]; exact hcf) hcp hr']
  exact hrest
section STR
variable {X : KX} {sh : Shp} {cs ss pc : Nat} {L : List (Option Value)} {st : List Value} {F : Hp} {Z : State → Prop} {own : String} {cc : ByteArray} {nL : Nat} {ret : Option FieldType} {fr lo mc ms : Nat}
theorem R_ldcwS (hX : Ok X own cc nL ret fr lo mc ms) {idx q : Nat} {tx : String} (hr : vk_R own idx tx q (xs X)) (hd : decode cc pc = .ok (.ldc_w idx, 3)) (k : R X sh cs ss (pc + 3) L (.ref q :: st) F Z) : R X sh cs ss pc L st F Z := by
  intro hz H locs ls hP hS hL T hT S
  obtain ⟨t, a1, b1⟩ := k hz H locs ls hP hS hL T hT S
  exact ⟨t, wS S hX.1 hX.2.2.1 (text := tx) (a := q) hr.1 hr.2 (g := F0 (xm X) pc ls st) rfl (by rw [hX.2.1]; exact hd) t a1, b1⟩
theorem R_aretS {rt : FieldType} (hX : Ok X own cc nL (some rt) fr lo mc ms) {x : Int} {Q : Int → Hp → Prop} (hrt : (∃ n, rt = .object n) ∨ ∃ t, rt = .array t) (hd : decode cc pc = .ok (.areturn, 1)) (hq : Q x F) : R X sh cs ss pc L [.ref ((vG (xV X)).2.1 x.toNat)] F (Zq X sh 4 Q cs ss) := fun hz H locs ls hP hS hL =>
  W.aret hX.1 hX.2.1 hX.2.2.2.2.2.2.2.1 hrt (Or.inr ⟨_, rfl⟩) (fun t ht hW => ⟨⟨x, F, rfl, hq, by rw [ht]; exact hP⟩, hS.F ht⟩) hS.2.2 hd hX.2.2.2.2.2.2.2.2.1
theorem R_nret {ty : FieldType} (hX : Ok X own cc nL (some ty) fr lo mc ms) {x : Int} {Q : Int → Hp → Prop} (hn : narrow ty (vi x) = vi x) (hd : decode cc pc = .ok (.ireturn, 1)) (hq : Q x F) : R X sh cs ss pc L [vi x] F (Zq X sh 1 Q cs ss) := fun hz H locs ls hP hS hL =>
  W.zret hX.1 hX.2.1 hX.2.2.2.2.2.2.2.1 hn (fun t ht hW => ⟨⟨x, F, rfl, hq, by rw [ht]; exact hP⟩, hS.F ht⟩) hS.2.2 hd hX.2.2.2.2.2.2.2.2.1
theorem R_gStr (hX : Ok X own cc nL ret fr lo mc ms) {idx q : Nat} {n d : String} {v : Value} (hE : va_OF "java/lang/String" n d v q (AB (xV X)) (xs X) (xs X).heap) (hl : Cond.fieldLink own idx "java/lang/String" n d ∈ gwt) (hd : decode cc pc = .ok (.getfield idx, 3)) (kk : R X sh cs ss (pc + 3) L (v :: st) F Z) : R X sh cs ss pc L (.ref q :: st) F Z :=
  fun hz H locs ls hP hS hL => vk_getf hX.1 hX.2.1 hE hS hX.2.2.1 (hX.2.2.2.2.1 _ hl) (fun _ h => h) hd (kk hz H locs ls hP hS hL)
theorem R_tlen (hX : Ok X own cc nL ret fr lo mc ms) {ty : FieldType} {t N : Nat} {f : Nat → Value} (hT : va_T ty t N f (AB (xV X)) (xs X) (xs X).heap) (hd : decode cc pc = .ok (.arraylength, 1)) (kk : R X sh cs ss (pc + 1) L (vi (N : Int) :: st) F Z) : R X sh cs ss pc L (.ref t :: st) F Z :=
  fun hz H locs ls hP hS hL => va_tlen hX.1 hX.2.1 hT hS (v := Int32.ofInt (N : Int)) rfl hd (kk hz H locs ls hP hS hL)
theorem R_tbld (hX : Ok X own cc nL ret fr lo mc ms) {t N : Nat} {g : Nat → Int32} {i : Int} (hT : va_T .byte t N (fun j => .int (g j)) (AB (xV X)) (xs X) (xs X).heap) (hN : N < 2147483648) (hi : 0 ≤ i ∧ i < N) (hd : decode cc pc = .ok (.baload, 1)) (kk : R X sh cs ss (pc + 1) L (vi (g i.toNat).toInt :: st) F Z) : R X sh cs ss pc L (vi i :: .ref t :: st) F Z := by
  intro hz H locs ls hP hS hL
  obtain ⟨h1, h2⟩ := ix_in hi.1 hi.2 hN
  exact va_tb hX.1 hX.2.1 hT hS h1 (v := vi (g i.toNat).toInt) (by rw [h2, vi_to]) hd (kk hz H locs ls hP hS hL)
theorem R_getsV (hX : Ok X own cc nL ret fr lo mc ms) {C n d : String} {idx : Nat} {v : Value} (hZ : va_Z C n d v (AB (xV X)) (xs X) (xs X).heap) (hl : Cond.fieldLink own idx C n d ∈ gwt) (hd : decode cc pc = .ok (.getstatic idx, 3)) (kk : R X sh cs ss (pc + 3) L (v :: st) F Z) : R X sh cs ss pc L st F Z :=
  fun hz H locs ls hP hS hL => va_gets hX.1 hX.2.1 hZ hS hX.2.2.1 (hX.2.2.2.2.1 _ hl) (fun _ h => h) hd (kk hz H locs ls hP hS hL)
theorem R_i2c (hX : Ok X own cc nL ret fr lo mc ms) {x : Int} (hx : 0 ≤ x ∧ x < 65536) (hd : decode cc pc = .ok (.i2c, 1)) (kk : R X sh cs ss (pc + 1) L (vi x :: st) F Z) : R X sh cs ss pc L (vi x :: st) F Z :=
  fun hz H locs ls hP hS hL => lv_i2c hX.1 hX.2.1 hd (v := Int32.ofInt x) (lg_i2c_word (by rw [i32_to ⟨by omega, by omega⟩]; exact hx.1) (by rw [i32_to ⟨by omega, by omega⟩]; exact hx.2)) (kk hz H locs ls hP hS hL)
theorem R_popV (hX : Ok X own cc nL ret fr lo mc ms) {v : Value} (hc : v.category = 1) (hd : decode cc pc = .ok (.pop, 1)) (k : R X sh cs ss (pc + 1) L st F Z) : R X sh cs ss pc L (v :: st) F Z := R_pop hX (fun _ h => by cases h; exact hc) hd k
theorem R_aload_2_any (hX : Ok X own cc nL ret fr lo mc ms) {a0 a1 : Option Value} {T : List (Option Value)} {v : Value} (hv : v = .null ∨ ∃ q, v = .ref q) (hd : decode cc pc = .ok (.aload_n 2, 1)) (k : R X sh cs ss (pc + 1) (a0 :: a1 :: some v :: T) (v :: st) F Z) : R X sh cs ss pc (a0 :: a1 :: some v :: T) st F Z := fun hz H locs ls hP hS hL => by
  rcases hv with rfl | ⟨q, rfl⟩
  · exact lv_aload_nN hX.1 hX.2.1 hd rfl (hL.at (i := 2) rfl) (k hz H locs ls hP hS hL)
  · exact lv_aload_n hX.1 hX.2.1 hd rfl (hL.at (i := 2) rfl) (k hz H locs ls hP hS hL)
theorem R_astore_3_raw (hX : Ok X own cc nL ret fr lo mc ms) {a0 a1 a2 : Option Value} {a : Option Value} {T : List (Option Value)} {x : Nat} (hc : c1 a2) (hd : decode cc pc = .ok (.astore_n 3, 1)) (k : R X sh cs ss (pc + 1) (a0 :: a1 :: a2 :: some (.ref x) :: T) st F Z) : R X sh cs ss pc (a0 :: a1 :: a2 :: a :: T) (.ref x :: st) F Z := fun hz H locs ls hP hS hL =>
  lv_astore_n hX.1 hX.2.1 hd rfl hL (by simp only [List.length_cons]; omega) rfl (fun ls' h => k hz H locs ls' hP hS (LSl.st1 h rfl (fun j u hj hu => by cases (show j = 2 by omega); cases hu; exact hc)))
theorem R_astore_2_raw (hX : Ok X own cc nL ret fr lo mc ms) {a0 a1 : Option Value} {a : Option Value} {T : List (Option Value)} {x : Nat} (hc : c1 a1) (hd : decode cc pc = .ok (.astore_n 2, 1)) (k : R X sh cs ss (pc + 1) (a0 :: a1 :: some (.ref x) :: T) st F Z) : R X sh cs ss pc (a0 :: a1 :: a :: T) (.ref x :: st) F Z := fun hz H locs ls hP hS hL =>
  lv_astore_n hX.1 hX.2.1 hd rfl hL (by simp only [List.length_cons]; omega) rfl (fun ls' h => k hz H locs ls' hP hS (LSl.st1 h rfl (fun j u hj hu => by cases (show j = 1 by omega); cases hu; exact hc)))
theorem R_callVS (hX : Ok X own cc nL ret fr lo mc ms) {y : MethodName} {idx n nL2 fr2 lo2 i kd : Nat} {c2 : ByteArray} {ret2 : Option FieldType} {As : List Value} {Q : Int → Hp → Prop} (hd : decode cc pc = .ok (.invokevirtual idx, 3)) (hl : LK own idx y) (hm : MK y c2 nL2 ret2 n) (hi : MI y) (hC : y.cls = "java/lang/String") (h13 : i < 27) (hc : Ct (xV X) y c2 nL2 ret2 fr2 lo2 0 0 sh (.ref ((vG (xV X)).2.1 i) :: As) F sh kd Q)
    (hr : (fr2 + 1 ≤ fr ∧ 8 + (nL2 + 11) + lo2 ≤ lo) ∧ cs ≤ mc ∧ ss ≤ ms ∧ As.length = n ∧ L.length = nL ∧ st.length ≤ 4) (kk : ∀ x F', Q x F' → R X sh cs ss (pc + 3) L ((rv (xV X) kd x).toList ++ st) F' Z) : R X sh cs ss pc L (As.reverse ++ .ref ((vG (xV X)).2.1 i) :: st) F Z := by
  intro hz H locs ls hP hS hL T hT S
  have hz2 := sz_eq hz hT hP hS hX.2.2.2.2.2.2.1.1 S
  have hr2 := hX.2.2.2.2.2.2.2.2.2
  have hcat := cat_le st
  refine R_after (va_runV (C := y.cls) (As := As) (rest := st) ⟨hX.1, hX.2.1, hX.2.2.2.1, hX.2.2.1, hX.2.2.2.2.1⟩ hc ⟨callB_mk hX hl hm hr.1, hX.2.2.2.2.1 _ hi.1, hX.2.2.2.2.1 _ hi.2⟩ ⟨pre_blind, by rw [hC]; exact vk_recv hX.2.2.2.2.2.2.1.2.2.2.2.2.2.2.2.1 h13 hS, pre_at hz2 hP hX.2.2.2.2.2.1 hX.2.2.2.2.2.2.1 hS⟩ rfl hr.2.2.2.1 (hL.1.trans hr.2.2.2.2.1) rfl (lv_room (by omega)) hd ⟨by omega, by omega⟩) hS (fun x F' H1 locs1 hq hp hS1 => kk x F' hq (by omega) H1 locs1 ls hp hS1 hL) T hT S
end STR
theorem fl_val : Cond.fieldLink RJ0 9 "java/lang/String" "value" "[B" ∈ gwt := tb (i := 1148) (by decide +kernel)
theorem fl_cod : Cond.fieldLink RJ0 15 "java/lang/String" "coder" "B" ∈ gwt := tb (i := 1149) (by decide +kernel)
theorem fl_cmp : Cond.fieldLink RJ0 38 "java/lang/String" "COMPACT_STRINGS" "Z" ∈ gwt := tb (i := 1006) (by decide +kernel)
theorem fl_sio : Cond.fieldLink RJ0 1053 "jdk/internal/util/Preconditions" "SIOOBE_FORMATTER" "Ljava/util/function/BiFunction;" ∈ gwt := tb (i := 984) (by decide +kernel)
/-- a text's length, and its letters -/
def sln (i : Nat) : Int := (slen.getD i 0 : Nat)
def sch (i k : Nat) : Int := ((sbyt.getD i []).getD k 0).toInt
theorem sln_ok : ∀ i, i < 13 → (0 ≤ sln i ∧ sln i ≤ 8) ∧ ishr (sln i) 0 = sln i ∧ slen.getD i 0 < 2147483648 := by decide +kernel
theorem sln_ok2 : ∀ i, i < 27 → (0 ≤ sln i ∧ sln i ≤ 10) ∧ ishr (sln i) 0 = sln i ∧ slen.getD i 0 < 2147483648 := by decide +kernel
theorem sch_ok : ∀ i, i < 13 → ∀ k, k < slen.getD i 0 → 97 ≤ sch i k ∧ sch i k ≤ 122 := by decide +kernel
theorem rf_cat (a : Nat) : (Value.ref a).category = 1 := rfl
theorem nar_c : ∀ x : Nat, x < 128 → narrow .char (vi (x : Int)) = vi (x : Int) := by decide +kernel
theorem c_coder {T : Shp} {V : VX} {F : Hp} {i : Nat} (hi : i < 27) : Ct V yJ0_coder_7d493 cJ0_coder_7d493 1 (some .byte) 0 0 0 0 (SH T) [.ref ((vG V).2.1 i)] F (SH T) 1 (fun r F' => r = 0 ∧ F' = F) := by
  refine Ct.of [some (.ref ((vG V).2.1 i))] (by decide) (by simp [lg_sl, Value.category]) rfl (by simp [asc, lv_args, Value.category]) (fun X hV hX => ?_)
  subst hV
  refine R_getsV (v := vi 1) hX hX.2.2.2.2.2.2.1.2.2.2.2.2.2.2.2.2.1 fl_cmp dJ0_coder_7d493_0 ?_
  refine R_ifeq (tgt := 13) hX dJ0_coder_7d493_3 (by decide) ⟨by omega, by omega⟩ (fun c => absurd c (by decide)) (fun c => ?_)
  refine R_aload_0_raw hX dJ0_coder_7d493_6 ?_
  refine R_gStr (v := vi 0) hX (hX.2.2.2.2.2.2.1.2.2.2.2.2.2.2.2.1.1 i hi).2.1 fl_cod dJ0_coder_7d493_7 ?_
  refine R_goto (tgt := 14) hX dJ0_coder_7d493_10 (by decide) ?_
  exact R_nret hX rfl dJ0_coder_7d493_14 ⟨rfl, rfl⟩
theorem c_isLatin1 {T : Shp} {V : VX} {F : Hp} {i : Nat} (hi : i < 27) : Ct V yJ0_isLatin1_aae02 cJ0_isLatin1_aae02 1 (some .boolean) 0 0 0 0 (SH T) [.ref ((vG V).2.1 i)] F (SH T) 1 (fun r F' => r = 1 ∧ F' = F) := by
  refine Ct.of [some (.ref ((vG V).2.1 i))] (by decide) (by simp [lg_sl, Value.category]) rfl (by simp [asc, lv_args, Value.category]) (fun X hV hX => ?_)
  subst hV
  refine R_getsV (v := vi 1) hX hX.2.2.2.2.2.2.1.2.2.2.2.2.2.2.2.2.1 fl_cmp dJ0_isLatin1_aae02_0 ?_
  refine R_ifeq (tgt := 17) hX dJ0_isLatin1_aae02_3 (by decide) ⟨by omega, by omega⟩ (fun c => absurd c (by decide)) (fun c => ?_)
  refine R_aload_0_raw hX dJ0_isLatin1_aae02_6 ?_
  refine R_gStr (v := vi 0) hX (hX.2.2.2.2.2.2.1.2.2.2.2.2.2.2.2.1.1 i hi).2.1 fl_cod dJ0_isLatin1_aae02_7 ?_
  refine R_ifne (tgt := 17) hX dJ0_isLatin1_aae02_10 (by decide) ⟨by omega, by omega⟩ (fun c => absurd rfl c) (fun c => ?_)
  refine R_iconst hX dJ0_isLatin1_aae02_13 ?_
  refine R_goto (tgt := 18) hX dJ0_isLatin1_aae02_14 (by decide) ?_
  exact R_zret hX (by omega) dJ0_isLatin1_aae02_18 ⟨rfl, rfl⟩
theorem c_strLen {T : Shp} {V : VX} {F : Hp} {i : Nat} (hi : i < 27) : Ct V yJ0_length_8abf5 cJ0_length_8abf5 1 (some .int) 1 20 0 0 (SH T) [.ref ((vG V).2.1 i)] F (SH T) 1 (fun r F' => r = sln i ∧ F' = F) := by
  refine Ct.of [some (.ref ((vG V).2.1 i))] (by decide) (by simp [lg_sl, Value.category]) rfl (by simp [asc, lv_args, Value.category]) (fun X hV hX => ?_)
  subst hV
  have hS := hX.2.2.2.2.2.2.1.2.2.2.2.2.2.2.2.1.1 i hi
  refine R_aload_0_raw hX dJ0_length_8abf5_0 ?_
  refine R_gStr hX hS.2.2.1 fl_val dJ0_length_8abf5_1 ?_
  refine R_tlen hX hS.2.2.2 dJ0_length_8abf5_4 ?_
  refine R_aload_0_raw hX dJ0_length_8abf5_5 ?_
  refine R_callVS (As := []) hX dJ0_length_8abf5_6 li_J0_335 mk_J0_coder_7d493 mi_J0_coder_7d493 rfl hi (c_coder hi) ⟨⟨by decide, by decide⟩, by decide, by decide, rfl, rfl, Nat.le_of_ble_eq_true rfl⟩ (fun x F1 h => ?_)
  obtain ⟨rfl, rfl⟩ := h
  refine R_ishr hX dJ0_length_8abf5_9 ?_
  exact R_iret hX dJ0_length_8abf5_10 ⟨(sln_ok2 i hi).2.1, rfl⟩
theorem c_preIdx {T : Shp} {V : VX} {F : Hp} {k n : Int} {v : Value} (hk : 0 ≤ k ∧ k < n ∧ n ≤ 100000) (hv : v.category = 1) : Ct V yJ3_checkIndex_8e157 cJ3_checkIndex_8e157 3 (some .int) 0 0 0 0 (SH T) [vi k, vi n, v] F (SH T) 1 (fun r F' => r = k ∧ F' = F) := by
  refine Ct.of [some (vi k), some (vi n), some v] (by decide) (by simp [lg_sl, vi_cat, hv]) rfl (by simp [asc, lv_args, vi_cat, hv]) (fun X hV hX => ?_)
  subst hV
  refine R_iload_0 hX dJ3_checkIndex_8e157_0 ?_
  refine R_iflt (tgt := 9) hX dJ3_checkIndex_8e157_1 (by decide) ⟨by omega, by omega⟩ (fun c => absurd c (by omega)) (fun c => ?_)
  refine R_iload_0 hX dJ3_checkIndex_8e157_4 ?_
  refine R_iload_1 hX dJ3_checkIndex_8e157_5 ?_
  refine R_icmplt (tgt := 16) hX dJ3_checkIndex_8e157_6 (by decide) ⟨by omega, by omega⟩ ⟨by omega, by omega⟩ (fun c => ?_) (fun c => absurd (show k < n by omega) c)
  refine R_iload_0 hX dJ3_checkIndex_8e157_16 ?_
  exact R_iret hX dJ3_checkIndex_8e157_17 ⟨rfl, rfl⟩
theorem c_chkIdx {T : Shp} {V : VX} {F : Hp} {k n : Int} (hk : 0 ≤ k ∧ k < n ∧ n ≤ 100000) : Ct V yJ0_checkIndex_df160 cJ0_checkIndex_df160 2 none 1 22 0 0 (SH T) [vi k, vi n] F (SH T) 0 (fun r F' => F' = F) := by
  refine Ct.of [some (vi k), some (vi n)] (by decide) (by simp [lg_sl, vi_cat]) rfl (by simp [asc, lv_args, vi_cat]) (fun X hV hX => ?_)
  subst hV
  refine R_iload_0 hX dJ0_checkIndex_df160_0 ?_
  refine R_iload_1 hX dJ0_checkIndex_df160_1 ?_
  have hz := hX.2.2.2.2.2.2.1.2.2.2.2.2.2.2.2.2.2.1
  have key : ∀ v : Value, v.category = 1 → va_Z "jdk/internal/util/Preconditions" "SIOOBE_FORMATTER" "Ljava/util/function/BiFunction;" v (AB (xV X)) (xs X) (xs X).heap → R X (SH T) 0 0 2 [some (vi k), some (vi n)] [vi n, vi k] F (Zq X (SH T) 0 (fun r F' => F' = F) 0 0) := by
    intro v hv hz
    refine R_getsV hX hz fl_sio dJ0_checkIndex_df160_2 ?_
    refine R_s3i (a1 := vi k) (a2 := vi n) (a3 := v) hX dJ0_checkIndex_df160_5 li_J0_1059 mk_J3_checkIndex_8e157 ms_J3_checkIndex_8e157 (c_preIdx hk hv) ⟨⟨by decide, by decide⟩, by decide, by decide, rfl, Nat.le_of_ble_eq_true rfl, rfl⟩ (fun x F1 h => ?_)
    obtain ⟨rfl, rfl⟩ := h
    refine R_pop hX c1_i dJ0_checkIndex_df160_8 ?_
    exact R_vret hX dJ0_checkIndex_df160_9 rfl
  rcases hz with h | ⟨t, h⟩
  · exact key _ rfl h
  · exact key _ rfl h
theorem c_l1char {T : Shp} {V : VX} {F : Hp} {i : Nat} (hi : i < 13) {k : Int} (hk : 0 ≤ k ∧ k < sln i) : Ct V yJ1_charAt_3b067 cJ1_charAt_3b067 2 (some .char) 2 43 0 0 (SH T) [.ref ((vG V).2.2.1 i), vi k] F (SH T) 1 (fun r F' => r = sch i k.toNat ∧ F' = F) := by
  refine Ct.of [some (.ref ((vG V).2.2.1 i)), some (vi k)] (by decide) (by simp [lg_sl, rf_cat, vi_cat]) rfl (by simp [asc, lv_args, rf_cat, vi_cat]) (fun X hV hX => ?_)
  subst hV
  have hS := hX.2.2.2.2.2.2.1.2.2.2.2.2.2.2.2.1.1 i (by omega)
  have hl := sln_ok i hi
  have hc := sch_ok i hi k.toNat (by have := hk.2; unfold sln at this; omega)
  refine R_iload_1 hX dJ1_charAt_3b067_0 ?_
  refine R_aload_0_raw hX dJ1_charAt_3b067_1 ?_
  refine R_tlen hX hS.2.2.2 dJ1_charAt_3b067_2 ?_
  refine R_s2v hX dJ1_charAt_3b067_3 li_J1_9 mk_J0_checkIndex_df160 ms_J0_checkIndex_df160 (c_chkIdx ⟨hk.1, hk.2, by have := hl.1; unfold sln at this; omega⟩) ⟨⟨by decide, by decide⟩, by decide, by decide, rfl, Nat.le_of_ble_eq_true rfl, rfl⟩ (fun x F1 h => ?_)
  subst h
  refine R_aload_0_raw hX dJ1_charAt_3b067_6 ?_
  refine R_iload_1 hX dJ1_charAt_3b067_7 ?_
  refine R_tbld hX hS.2.2.2 hl.2.2 hk dJ1_charAt_3b067_8 ?_
  refine R_sipush hX dJ1_charAt_3b067_9 (by decide) ?_
  refine R_iand hX dJ1_charAt_3b067_12 ?_
  have e : iand ((sbyt.getD i []).getD k.toNat 0).toInt 255 = sch i k.toNat := by
    rw [iand_255]
    show sch i k.toNat % 256 = sch i k.toNat
    omega
  rw [e]
  refine R_i2c hX (by omega) dJ1_charAt_3b067_13 ?_
  refine R_nret hX ?_ dJ1_charAt_3b067_14 ⟨rfl, rfl⟩
  have := nar_c (sch i k.toNat).toNat (by omega)
  rw [show (((sch i k.toNat).toNat : Nat) : Int) = sch i k.toNat by omega] at this
  exact this
theorem c_charAt {T : Shp} {V : VX} {F : Hp} {i : Nat} (hi : i < 13) {k : Int} (hk : 0 ≤ k ∧ k < sln i) : Ct V yJ0_charAt_5068e cJ0_charAt_5068e 2 (some .char) 3 64 0 0 (SH T) [.ref ((vG V).2.1 i), vi k] F (SH T) 1 (fun r F' => r = sch i k.toNat ∧ F' = F) := by
  refine Ct.of [some (.ref ((vG V).2.1 i)), some (vi k)] (by decide) (by simp [lg_sl, rf_cat, vi_cat]) rfl (by simp [asc, lv_args, rf_cat, vi_cat]) (fun X hV hX => ?_)
  subst hV
  have hS := hX.2.2.2.2.2.2.1.2.2.2.2.2.2.2.2.1.1 i (by omega)
  have hc := sch_ok i hi k.toNat (by have := hk.2; unfold sln at this; omega)
  refine R_aload_0_raw hX dJ0_charAt_5068e_0 ?_
  refine R_callVS (As := []) hX dJ0_charAt_5068e_1 li_J0_492 mk_J0_isLatin1_aae02 mi_J0_isLatin1_aae02 rfl (by omega) (c_isLatin1 (by omega)) ⟨⟨by decide, by decide⟩, by decide, by decide, rfl, rfl, Nat.le_of_ble_eq_true rfl⟩ (fun x F1 h => ?_)
  obtain ⟨rfl, rfl⟩ := h
  refine R_ifeq (tgt := 16) hX dJ0_charAt_5068e_4 (by decide) ⟨by omega, by omega⟩ (fun c => absurd c (by decide)) (fun c => ?_)
  refine R_aload_0_raw hX dJ0_charAt_5068e_7 ?_
  refine R_gStr hX hS.2.2.1 fl_val dJ0_charAt_5068e_8 ?_
  refine R_iload_1 hX dJ0_charAt_5068e_11 ?_
  refine R_s2i hX dJ0_charAt_5068e_12 li_J0_495 mk_J1_charAt_3b067 ms_J1_charAt_3b067 (c_l1char hi hk) ⟨⟨by decide, by decide⟩, by decide, by decide, rfl, Nat.le_of_ble_eq_true rfl, rfl⟩ (fun x F1 h => ?_)
  obtain ⟨rfl, rfl⟩ := h
  refine R_nret hX ?_ dJ0_charAt_5068e_15 ⟨rfl, rfl⟩
  have := nar_c (sch i k.toNat).toNat (by omega)
  rw [show (((sch i k.toNat).toNat : Nat) : Int) = sch i k.toNat by omega] at this
  exact this
def kwi (k : Int) : Int := if 0 ≤ k ∧ k < 12 then k else 12
