/-! what the Statement gives of the start -/
abbrev GN : Cond := Jvm.Cond.and given_1 narrow_1
theorem fqC {s : State} {b : Nat} (h : GN.before #[Value.ref b] s = true) {i : Nat} {c : Cond} (hc : (flatC GN)[i]? = some c) : c.before #[Value.ref b] s = true := flat_of_before _ h c (List.mem_of_getElem? hc)
theorem wqC {s : State} {b : Nat} (h : ∀ w ∈ lw_tbl, w.before #[Value.ref b] s = true) {i : Nat} {c : Cond} (hc : tables_1[i]? = some c) : c.before #[Value.ref b] s = true := h c (List.mem_append_right _ (List.mem_of_getElem? hc))
theorem aq_arr {s : State} {A : Array Value} {ty : FieldType} (hp : ∀ n, ty ≠ .object n) (h : (Cond.arrayClass ty).before A s = true) : ∃ cA : ClassId, ArrOfT s cA ty ∧ va_RA s cA ty := by
  obtain ⟨cA, kA, comp, h1, h2, h3⟩ := Cond.arrayClass_spec h
  refine ⟨cA, fun n z => ⟨fun k h => (by cases h), kA, h2, comp, h3⟩, ?_⟩
  cases ty <;> first | exact h1 | exact absurd rfl (hp _)
theorem aq_obj {s : State} {A : Array Value} {C : String} (h : (Cond.arrayOver (.object C)).before A s = true) : ∃ cA : ClassId, ArrOfT s cA (.object C) ∧ va_RA s cA (.object C) := by
  obtain ⟨comp, c, k, h1, h2, h3, h4, h5⟩ := Cond.arrayOver_spec h
  exact ⟨c, fun n z => ⟨fun k h => (by cases h), k, h3, comp, h4⟩, k, comp, h3, h4, h1, h5⟩
theorem aq_row {s : State} {A : Array Value} {t : FieldType} (h : (Cond.arrayOver (.array t)).before A s = true) : ∃ cA : ClassId, ArrOfT s cA (.array t) ∧ va_RA s cA (.array t) := by
  obtain ⟨comp, c, k, h1, h2, h3, h4, h5⟩ := arrayOverA_spec h
  exact ⟨c, fun n z => ⟨fun k h => (by cases h), k, h3, comp, h4⟩, h5⟩
theorem fq_T {s : State} {b : Nat} (h : GN.before #[Value.ref b] s = true) {tm : Term} {N i0 : Nat} {g : Nat → Int32} (hc : ∀ j, j < N → (flatC GN)[i0 + j]? = some (Cond.eq (Term.elem tm (.int (Int32.ofNat j))) (.int (g j)))) : ∀ j : Nat, j < N → (Term.elem tm (.int (Int32.ofNat j))).eval #[Value.ref b] s none [] s = some (.int (g j)) := fun j hj => va_eqt (fqC h (hc j hj))
set_option maxRecDepth 100000 in
set_option maxHeartbeats 4000000 in
theorem st_LEAST {s : State} {b : Nat} {A : Nat → Prop} (h : GN.before #[Value.ref b] s = true) (hw : ∀ w ∈ lw_tbl, w.before #[Value.ref b] s = true) (hA : ∀ a : Nat, a < s.heap.size → ¬ A a) : ∃ t : Nat, va_Z "RateLimiter" "LEAST" "[I" (.ref t) A s s.heap ∧ va_T .int t 6 (fun j => vi (tabL j)) A s s.heap := by
  obtain ⟨t, ht, hT⟩ := va_Tof (args := #[Value.ref b]) (s := s) (tm := .static "RateLimiter" "LEAST" "[I") (ty := .int) (N := 6) (f := fun j => .int (Int32.ofInt (tabL j))) (A := A) (by decide) (fqC h (i := 5) (by decide +kernel)) (va_eqt (fqC h (i := 6) (by decide +kernel))) (fq_T h (i0 := 7) (by decide +kernel)) hA
  exact ⟨t, va_Zof (wqC hw (i := 630) (by decide +kernel)) (wqC hw (i := 1) (by decide +kernel)) ht hA, hT⟩
set_option maxRecDepth 100000 in
set_option maxHeartbeats 4000000 in
theorem st_GREATEST {s : State} {b : Nat} {A : Nat → Prop} (h : GN.before #[Value.ref b] s = true) (hw : ∀ w ∈ lw_tbl, w.before #[Value.ref b] s = true) (hA : ∀ a : Nat, a < s.heap.size → ¬ A a) : ∃ t : Nat, va_Z "RateLimiter" "GREATEST" "[I" (.ref t) A s s.heap ∧ va_T .int t 6 (fun j => vi (tabG j)) A s s.heap := by
  obtain ⟨t, ht, hT⟩ := va_Tof (args := #[Value.ref b]) (s := s) (tm := .static "RateLimiter" "GREATEST" "[I") (ty := .int) (N := 6) (f := fun j => .int (Int32.ofInt (tabG j))) (A := A) (by decide) (fqC h (i := 14) (by decide +kernel)) (va_eqt (fqC h (i := 15) (by decide +kernel))) (fq_T h (i0 := 16) (by decide +kernel)) hA
  exact ⟨t, va_Zof (wqC hw (i := 632) (by decide +kernel)) (wqC hw (i := 1) (by decide +kernel)) ht hA, hT⟩
set_option maxRecDepth 100000 in
set_option maxHeartbeats 4000000 in
theorem st_DEFAULTS {s : State} {b : Nat} {A : Nat → Prop} (h : GN.before #[Value.ref b] s = true) (hw : ∀ w ∈ lw_tbl, w.before #[Value.ref b] s = true) (hA : ∀ a : Nat, a < s.heap.size → ¬ A a) : ∃ t : Nat, va_Z "RateLimiter" "DEFAULTS" "[I" (.ref t) A s s.heap ∧ va_T .int t 6 (fun j => vi (tabD j)) A s s.heap := by
  obtain ⟨t, ht, hT⟩ := va_Tof (args := #[Value.ref b]) (s := s) (tm := .static "RateLimiter" "DEFAULTS" "[I") (ty := .int) (N := 6) (f := fun j => .int (Int32.ofInt (tabD j))) (A := A) (by decide) (fqC h (i := 238) (by decide +kernel)) (va_eqt (fqC h (i := 239) (by decide +kernel))) (fq_T h (i0 := 240) (by decide +kernel)) hA
  exact ⟨t, va_Zof (wqC hw (i := 1294) (by decide +kernel)) (wqC hw (i := 1) (by decide +kernel)) ht hA, hT⟩
set_option maxRecDepth 100000 in
set_option maxHeartbeats 4000000 in
theorem st_ones {s : State} {b : Nat} {A : Nat → Prop} (h : GN.before #[Value.ref b] s = true) (hw : ∀ w ∈ lw_tbl, w.before #[Value.ref b] s = true) (hA : ∀ a : Nat, a < s.heap.size → ¬ A a) : ∃ t : Nat, va_Z "java/lang/Integer" "DigitOnes" "[B" (.ref t) A s s.heap ∧ va_T .byte t 100 (fun j => vi (48 + (j : Int) % 10)) A s s.heap := by
  obtain ⟨t, ht, hT⟩ := va_Tof (args := #[Value.ref b]) (s := s) (tm := .static "java/lang/Integer" "DigitOnes" "[B") (ty := .byte) (N := 100) (f := fun j => .int (Int32.ofInt (48 + (j : Int) % 10))) (A := A) (by decide) (fqC h (i := 32) (by decide +kernel)) (va_eqt (fqC h (i := 33) (by decide +kernel))) (fq_T h (i0 := 34) (by decide +kernel)) hA
  exact ⟨t, va_Zof (wqC hw (i := 1077) (by decide +kernel)) (wqC hw (i := 29) (by decide +kernel)) ht hA, hT⟩
set_option maxRecDepth 100000 in
set_option maxHeartbeats 4000000 in
theorem st_tens {s : State} {b : Nat} {A : Nat → Prop} (h : GN.before #[Value.ref b] s = true) (hw : ∀ w ∈ lw_tbl, w.before #[Value.ref b] s = true) (hA : ∀ a : Nat, a < s.heap.size → ¬ A a) : ∃ t : Nat, va_Z "java/lang/Integer" "DigitTens" "[B" (.ref t) A s s.heap ∧ va_T .byte t 100 (fun j => vi (48 + (j : Int) / 10)) A s s.heap := by
  obtain ⟨t, ht, hT⟩ := va_Tof (args := #[Value.ref b]) (s := s) (tm := .static "java/lang/Integer" "DigitTens" "[B") (ty := .byte) (N := 100) (f := fun j => .int (Int32.ofInt (48 + (j : Int) / 10))) (A := A) (by decide) (fqC h (i := 135) (by decide +kernel)) (va_eqt (fqC h (i := 136) (by decide +kernel))) (fq_T h (i0 := 137) (by decide +kernel)) hA
  exact ⟨t, va_Zof (wqC hw (i := 1079) (by decide +kernel)) (wqC hw (i := 29) (by decide +kernel)) ht hA, hT⟩
theorem st_empty {s : State} {b : Nat} {A : Nat → Prop} (h : GN.before #[Value.ref b] s = true) (hw : ∀ w ∈ lw_tbl, w.before #[Value.ref b] s = true) (hA : ∀ a : Nat, a < s.heap.size → ¬ A a) : ∃ t : Nat, va_Z "java/util/ArrayList" "DEFAULTCAPACITY_EMPTY_ELEMENTDATA" "[Ljava/lang/Object;" (.ref t) A s s.heap ∧ va_T (.object "java/lang/Object") t 0 (fun _ => .null) A s s.heap := by
  obtain ⟨t, ht, hT⟩ := va_Tof (args := #[Value.ref b]) (s := s) (tm := .static "java/util/ArrayList" "DEFAULTCAPACITY_EMPTY_ELEMENTDATA" "[Ljava/lang/Object;") (ty := .object "java/lang/Object") (N := 0) (f := fun _ => .null) (A := A) (by decide) (fqC h (i := 23) (by decide +kernel)) (va_eqt (fqC h (i := 25) (by decide +kernel))) (fun j hj => absurd hj (Nat.not_lt_zero j)) hA
  exact ⟨t, va_Zof (wqC hw (i := 653) (by decide +kernel)) (wqC hw (i := 20) (by decide +kernel)) ht hA, hT⟩
def kix (i : Nat) : Nat := [382, 390, 401, 410, 420, 430, 442, 451, 459, 465, 474, 481, 487, 247, 256, 264, 274, 287, 298, 310, 322, 336, 347, 352, 362, 370, 377].getD i 0
def kiw (i : Nat) : Nat := [1238, 1239, 1240, 1241, 1242, 1243, 1244, 1245, 1246, 1247, 1248, 1249, 1250, 935, 1061, 1062, 1088, 1089, 1090, 1091, 1092, 1093, 1094, 1095, 1096, 1097, 1098].getD i 0
section
set_option maxRecDepth 100000
set_option maxHeartbeats 4000000
theorem sq_0 : ∀ i, i < 27 → slen.getD i 0 < 2 ^ 31 := by decide +kernel
theorem sq_1 : ∀ i, i < 27 → (flatC GN)[kix i]? = some (Cond.exactly (Term.string (sow i) (skey i)) "java/lang/String") := by decide +kernel
theorem sq_2 : ∀ i, i < 27 → (flatC GN)[kix i + 1]? = some (Cond.eq (.field (Term.string (sow i) (skey i)) "java/lang/String" "coder" "B") (.int 0)) := by decide +kernel
theorem sq_3 : ∀ i, i < 27 → (flatC GN)[kix i + 2]? = some (Cond.arrayOf (.field (Term.string (sow i) (skey i)) "java/lang/String" "value" "[B") .byte) := by decide +kernel
theorem sq_4 : ∀ i, i < 27 → (flatC GN)[kix i + 3]? = some (Cond.eq (.length (.field (Term.string (sow i) (skey i)) "java/lang/String" "value" "[B")) (.int (Int32.ofNat (slen.getD i 0)))) := by decide +kernel
theorem sq_5 : ∀ i, i < 27 → ∀ j, j < slen.getD i 0 → (flatC GN)[kix i + 4 + j]? = some (Cond.eq (.elem (.field (Term.string (sow i) (skey i)) "java/lang/String" "value" "[B") (.int (Int32.ofNat j))) (.int ((sbyt.getD i []).getD j 0))) := by decide +kernel
theorem sq_6 : ∀ i, i < 27 → tables_1[kiw i]? = some (Cond.stringRef (sow i) (skey i) (stx i)) := by decide +kernel
theorem sq_7 : ∀ i, i < 27 → ∀ j, j < 27 → Int32.ofNat (slen.getD i 0) = Int32.ofNat (slen.getD j 0) → slen.getD i 0 = slen.getD j 0 := by decide +kernel
theorem sq_8 : ∀ i, i < 27 → ∀ j, j < 27 → slen.getD i 0 = slen.getD j 0 → (∀ k, k < slen.getD i 0 → (sbyt.getD i []).getD k 0 = (sbyt.getD j []).getD k 0) → i = j := by decide +kernel
end
theorem st_one {s : State} {b : Nat} {A : Nat → Prop} (h : GN.before #[Value.ref b] s = true) (hA : ∀ a : Nat, a < s.heap.size → ¬ A a) (i : Nat) : ∃ q : Nat × Nat, i < 27 → (va_O "java/lang/String" q.1 A s s.heap ∧ va_OF "java/lang/String" "coder" "B" (.int 0) q.1 A s s.heap ∧ va_OF "java/lang/String" "value" "[B" (.ref q.2) q.1 A s s.heap ∧ va_T .byte q.2 (slen.getD i 0) (fun j => .int ((sbyt.getD i []).getD j 0)) A s s.heap) ∧ (Term.string (sow i) (skey i)).eval #[Value.ref b] s none [] s = some (.ref q.1) := by
  by_cases hi : i < 27
  · obtain ⟨adK, adV, h1, h2⟩ := vk_Sof (args := #[Value.ref b]) (s := s) (N := 1) (tm := fun _ => Term.string (sow i) (skey i)) (len := [slen.getD i 0]) (byt := [sbyt.getD i []]) (A := A) (fun k hk => by
        obtain rfl : k = 0 := by omega
        exact sq_0 i hi) (fun _ _ => fqC h (sq_1 i hi)) (fun _ _ => fqC h (sq_2 i hi)) (fun _ _ => fqC h (sq_3 i hi)) (fun k hk => by
        obtain rfl : k = 0 := by omega
        exact fqC h (sq_4 i hi)) (fun k hk j hj => by
        obtain rfl : k = 0 := by omega
        exact fqC h (sq_5 i hi j hj)) (fun k l hk hl hkl => absurd (by omega : k = l) hkl) hA
    exact ⟨(adK 0, adV 0), fun _ => ⟨h1.1 0 (by decide), h2 0 (by decide)⟩⟩
  · exact ⟨(0, 0), fun z => absurd z hi⟩
theorem va_OFu {o n d : String} {v w : Value} {t : Nat} {A : Nat → Prop} {U : State} {H : Heap} (h1 : va_OF o n d v t A U H) (h2 : va_OF o n d w t A U H) : v = w := by
  obtain ⟨cf, k, i, f, cell, a1, a2, a3, a4, a5, a6⟩ := h1
  obtain ⟨cf', k', i', f', cell', b1, b2, b3, b4, b5, b6⟩ := h2
  cases a1.symm.trans b1
  cases a3.symm.trans b3
  exact Option.some.inj (a5.symm.trans b5)
theorem va_Tu {t N M : Nat} {f g : Nat → Value} {A : Nat → Prop} {U : State} {H : Heap} (h1 : va_T .byte t N f A U H) (h2 : va_T .byte t M g A U H) : Int32.ofNat N = Int32.ofNat M ∧ ∀ j : Nat, j < N → j < M → f j = g j := by
  obtain ⟨cell, a1, a2, a3, a4, a5, a6, a7⟩ := h1
  obtain ⟨cell', b1, b2, b3, b4, b5, b6, b7⟩ := h2
  cases a1.symm.trans b1
  exact ⟨a5.symm.trans b5, fun j h h' => Option.some.inj ((a6 j h).symm.trans (b6 j h'))⟩
theorem st_str {s : State} {b : Nat} {A : Nat → Prop} (h : GN.before #[Value.ref b] s = true) (hw : ∀ w ∈ lw_tbl, w.before #[Value.ref b] s = true) (hA : ∀ a : Nat, a < s.heap.size → ¬ A a) : ∃ adK adV : Nat → Nat, vk_S 27 slen sbyt adK adV A s s.heap ∧ ∀ i, i < 27 → vk_R (sow i) (skey i) (stx i) (adK i) s := by
  obtain ⟨ad, had⟩ := Classical.axiomOfChoice (st_one h hA)
  refine ⟨fun i => (ad i).1, fun i => (ad i).2, ⟨fun i hi => (had i hi).1, fun i j hi hj e => ?_⟩, fun i hi => vk_R.of (A := #[Value.ref b]) (wqC hw (sq_6 i hi)) (had i hi).2⟩
  obtain ⟨-, -, a3, a4⟩ := (had i hi).1
  obtain ⟨-, -, b3, b4⟩ := (had j hj).1
  have e' : (ad i).1 = (ad j).1 := e
  rw [← e'] at b3
  have e2 : (ad i).2 = (ad j).2 := by
    have z := va_OFu a3 b3
    exact Value.ref.inj z
  rw [← e2] at b4
  obtain ⟨z1, z2⟩ := va_Tu a4 b4
  have z3 := sq_7 i hi j hj z1
  refine sq_8 i hi j hj z3 (fun k hk => ?_)
  have z4 := z2 k hk (by rw [← z3]; exact hk)
  exact Value.int.inj z4
theorem st_GF {l : Launch} {s : State} {b : Nat} {dC : va_G} {vA : FieldType → ClassId} (h : GN.before #[Value.ref b] s = true) (hw : ∀ w ∈ lw_tbl, w.before #[Value.ref b] s = true) : ∃ G : GP, GF (l, s.heap.size, dC, vA, G) s := by
  have hA : ∀ a : Nat, a < s.heap.size → ¬ (fun q : Nat => s.heap.size ≤ q) a := fun a z y => by
    have y2 : s.heap.size ≤ a := y
    omega
  obtain ⟨tL, z1, t1⟩ := st_LEAST h hw hA
  obtain ⟨tG, z2, t2⟩ := st_GREATEST h hw hA
  obtain ⟨tD, z3, t3⟩ := st_DEFAULTS h hw hA
  obtain ⟨t1o, z4, t4⟩ := st_ones h hw hA
  obtain ⟨t1t, z5, t5⟩ := st_tens h hw hA
  obtain ⟨tE, z6, t6⟩ := st_empty h hw hA
  obtain ⟨adK, adV, k1, k2⟩ := st_str h hw hA
  refine ⟨((tL, tG, tD), adK, adV, (t1o, t1t, tE)), Nat.le_refl _, z1, t1, z2, t2, z3, t3, k2, k1, va_Zof (wqC hw (i := 914) (by decide +kernel)) (wqC hw (i := 25) (by decide +kernel)) (va_eqi (fqC h (i := 26) (by decide +kernel))) hA, va_Zqof (wqC hw (i := 985) (by decide +kernel)) (wqC hw (i := 27) (by decide +kernel)) (fqC h (i := 27) (by decide +kernel)) hA, fun w hw2 => ?_, z4, t4, z5, t5, z6, t6, wqC hw (i := 724) (c := Cond.arrayOver (.object "java/lang/Object")) (by decide +kernel), wqC hw (i := 1528) (c := Cond.arrayOver (.array .int)) (by decide +kernel)⟩
  obtain ⟨a1, a2⟩ := List.mem_filter.mp hw2
  refine va_Nw.of (A := #[Value.ref b]) ?_ (hw w (List.mem_append_right _ a1))
  cases w <;> first | rfl | exact absurd a2 (by decide) | (simp [isNest] at a2)

