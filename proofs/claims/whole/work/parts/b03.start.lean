/-! what the Statement gives of the start -/
abbrev GN : Cond := Jvm.Cond.and given_1 narrow_1
theorem fqC {s : State} {b : Nat} (h : GN.before #[Value.ref b] s = true) {i : Nat} {c : Cond} (hc : (flatC GN)[i]? = some c) : c.before #[Value.ref b] s = true := flat_of_before _ h c (List.mem_of_getElem? hc)
theorem wqC {s : State} {b : Nat} (h : ∀ w ∈ lw_tbl, w.before #[Value.ref b] s = true) {i : Nat} {c : Cond} (hc : tables_1[i]? = some c) : c.before #[Value.ref b] s = true := h c (List.mem_append_right _ (List.mem_of_getElem? hc))
theorem aq_arr {s : State} {A : Array Value} {ty : FieldType} (hp : ∀ n, ty ≠ .object n) (h : (Cond.arrayClass ty).before A s = true) : ∃ cA : ClassId, ArrOfT s cA ty ∧ va_RA s cA ty := by
  obtain ⟨cA, kA, comp, h1, h2, h3⟩ := Cond.arrayClass_spec h
  refine ⟨cA, fun n z => ⟨fun k h => (by cases h), kA, h2, comp, h3⟩, ?_⟩
  cases ty <;> first | exact h1 | exact absurd rfl (hp _)
theorem st_LEAST {s : State} {b : Nat} {A : Nat → Prop} (h : GN.before #[Value.ref b] s = true) (hw : ∀ w ∈ lw_tbl, w.before #[Value.ref b] s = true) (hA : ∀ a : Nat, a < s.heap.size → ¬ A a) : ∃ t : Nat, va_Z "RateLimiter" "LEAST" "[I" (.ref t) A s s.heap ∧ va_T .int t 6 (fun j => vi (tabL j)) A s s.heap := by
  obtain ⟨t, ht, hT⟩ := va_Tof (args := #[Value.ref b]) (s := s) (tm := .static "RateLimiter" "LEAST" "[I") (ty := .int) (N := 6) (f := fun j => vi (tabL j)) (A := A) (by decide) (fqC h (i := 19) rfl) (va_eqt (fqC h (i := 20) rfl)) (fun j hj => by
    have q : j = 0 ∨ j = 1 ∨ j = 2 ∨ j = 3 ∨ j = 4 ∨ j = 5 := by omega
    rcases q with rfl | rfl | rfl | rfl | rfl | rfl
    · exact va_eqt (fqC h (i := 21) rfl)
    · exact va_eqt (fqC h (i := 22) rfl)
    · exact va_eqt (fqC h (i := 23) rfl)
    · exact va_eqt (fqC h (i := 24) rfl)
    · exact va_eqt (fqC h (i := 25) rfl)
    · exact va_eqt (fqC h (i := 26) rfl)) hA
  exact ⟨t, va_Zof (wqC hw (i := 639) (by decide +kernel)) (wqC hw (i := 1) (by decide +kernel)) ht hA, hT⟩
theorem st_GREATEST {s : State} {b : Nat} {A : Nat → Prop} (h : GN.before #[Value.ref b] s = true) (hw : ∀ w ∈ lw_tbl, w.before #[Value.ref b] s = true) (hA : ∀ a : Nat, a < s.heap.size → ¬ A a) : ∃ t : Nat, va_Z "RateLimiter" "GREATEST" "[I" (.ref t) A s s.heap ∧ va_T .int t 6 (fun j => vi (tabG j)) A s s.heap := by
  obtain ⟨t, ht, hT⟩ := va_Tof (args := #[Value.ref b]) (s := s) (tm := .static "RateLimiter" "GREATEST" "[I") (ty := .int) (N := 6) (f := fun j => vi (tabG j)) (A := A) (by decide) (fqC h (i := 28) rfl) (va_eqt (fqC h (i := 29) rfl)) (fun j hj => by
    have q : j = 0 ∨ j = 1 ∨ j = 2 ∨ j = 3 ∨ j = 4 ∨ j = 5 := by omega
    rcases q with rfl | rfl | rfl | rfl | rfl | rfl
    · exact va_eqt (fqC h (i := 30) rfl)
    · exact va_eqt (fqC h (i := 31) rfl)
    · exact va_eqt (fqC h (i := 32) rfl)
    · exact va_eqt (fqC h (i := 33) rfl)
    · exact va_eqt (fqC h (i := 34) rfl)
    · exact va_eqt (fqC h (i := 35) rfl)) hA
  exact ⟨t, va_Zof (wqC hw (i := 641) (by decide +kernel)) (wqC hw (i := 1) (by decide +kernel)) ht hA, hT⟩
theorem st_DEFAULTS {s : State} {b : Nat} {A : Nat → Prop} (h : GN.before #[Value.ref b] s = true) (hw : ∀ w ∈ lw_tbl, w.before #[Value.ref b] s = true) (hA : ∀ a : Nat, a < s.heap.size → ¬ A a) : ∃ t : Nat, va_Z "RateLimiter" "DEFAULTS" "[I" (.ref t) A s s.heap ∧ va_T .int t 6 (fun j => vi (tabD j)) A s s.heap := by
  obtain ⟨t, ht, hT⟩ := va_Tof (args := #[Value.ref b]) (s := s) (tm := .static "RateLimiter" "DEFAULTS" "[I") (ty := .int) (N := 6) (f := fun j => vi (tabD j)) (A := A) (by decide) (fqC h (i := 10) rfl) (va_eqt (fqC h (i := 11) rfl)) (fun j hj => by
    have q : j = 0 ∨ j = 1 ∨ j = 2 ∨ j = 3 ∨ j = 4 ∨ j = 5 := by omega
    rcases q with rfl | rfl | rfl | rfl | rfl | rfl
    · exact va_eqt (fqC h (i := 12) rfl)
    · exact va_eqt (fqC h (i := 13) rfl)
    · exact va_eqt (fqC h (i := 14) rfl)
    · exact va_eqt (fqC h (i := 15) rfl)
    · exact va_eqt (fqC h (i := 16) rfl)
    · exact va_eqt (fqC h (i := 17) rfl)) hA
  exact ⟨t, va_Zof (wqC hw (i := 606) (by decide +kernel)) (wqC hw (i := 1) (by decide +kernel)) ht hA, hT⟩
set_option maxHeartbeats 4000000 in
theorem st_str {s : State} {b : Nat} {A : Nat → Prop} (h : GN.before #[Value.ref b] s = true) (hw : ∀ w ∈ lw_tbl, w.before #[Value.ref b] s = true) (hA : ∀ a : Nat, a < s.heap.size → ¬ A a) : ∃ adK adV : Nat → Nat, vk_S 13 slen sbyt adK adV A s s.heap ∧ ∀ i, i < 13 → vk_R "RateLimiter" (skey i) (stx i) (adK i) s := by
  obtain ⟨adK, adV, h1, h2⟩ := vk_Sof (args := #[Value.ref b]) (s := s) (N := 13) (tm := fun i => .string "RateLimiter" (skey i)) (len := slen) (byt := sbyt) (A := A) (fun i hi => by
    have q : i = 0 ∨ i = 1 ∨ i = 2 ∨ i = 3 ∨ i = 4 ∨ i = 5 ∨ i = 6 ∨ i = 7 ∨ i = 8 ∨ i = 9 ∨ i = 10 ∨ i = 11 ∨ i = 12 := by omega
    rcases q with rfl | rfl | rfl | rfl | rfl | rfl | rfl | rfl | rfl | rfl | rfl | rfl | rfl <;> decide) (fun i hi => by
    have q : i = 0 ∨ i = 1 ∨ i = 2 ∨ i = 3 ∨ i = 4 ∨ i = 5 ∨ i = 6 ∨ i = 7 ∨ i = 8 ∨ i = 9 ∨ i = 10 ∨ i = 11 ∨ i = 12 := by omega
    rcases q with rfl | rfl | rfl | rfl | rfl | rfl | rfl | rfl | rfl | rfl | rfl | rfl | rfl
    · exact fqC h (i := 36) rfl
    · exact fqC h (i := 44) rfl
    · exact fqC h (i := 56) rfl
    · exact fqC h (i := 67) rfl
    · exact fqC h (i := 80) rfl
    · exact fqC h (i := 94) rfl
    · exact fqC h (i := 111) rfl
    · exact fqC h (i := 126) rfl
    · exact fqC h (i := 141) rfl
    · exact fqC h (i := 155) rfl
    · exact fqC h (i := 173) rfl
    · exact fqC h (i := 190) rfl
    · exact fqC h (i := 207) rfl) (fun i hi => by
    have q : i = 0 ∨ i = 1 ∨ i = 2 ∨ i = 3 ∨ i = 4 ∨ i = 5 ∨ i = 6 ∨ i = 7 ∨ i = 8 ∨ i = 9 ∨ i = 10 ∨ i = 11 ∨ i = 12 := by omega
    rcases q with rfl | rfl | rfl | rfl | rfl | rfl | rfl | rfl | rfl | rfl | rfl | rfl | rfl
    · exact fqC h (i := 37) rfl
    · exact fqC h (i := 45) rfl
    · exact fqC h (i := 57) rfl
    · exact fqC h (i := 68) rfl
    · exact fqC h (i := 81) rfl
    · exact fqC h (i := 95) rfl
    · exact fqC h (i := 112) rfl
    · exact fqC h (i := 127) rfl
    · exact fqC h (i := 142) rfl
    · exact fqC h (i := 156) rfl
    · exact fqC h (i := 174) rfl
    · exact fqC h (i := 191) rfl
    · exact fqC h (i := 208) rfl) (fun i hi => by
    have q : i = 0 ∨ i = 1 ∨ i = 2 ∨ i = 3 ∨ i = 4 ∨ i = 5 ∨ i = 6 ∨ i = 7 ∨ i = 8 ∨ i = 9 ∨ i = 10 ∨ i = 11 ∨ i = 12 := by omega
    rcases q with rfl | rfl | rfl | rfl | rfl | rfl | rfl | rfl | rfl | rfl | rfl | rfl | rfl
    · exact fqC h (i := 38) rfl
    · exact fqC h (i := 46) rfl
    · exact fqC h (i := 58) rfl
    · exact fqC h (i := 69) rfl
    · exact fqC h (i := 82) rfl
    · exact fqC h (i := 96) rfl
    · exact fqC h (i := 113) rfl
    · exact fqC h (i := 128) rfl
    · exact fqC h (i := 143) rfl
    · exact fqC h (i := 157) rfl
    · exact fqC h (i := 175) rfl
    · exact fqC h (i := 192) rfl
    · exact fqC h (i := 209) rfl) (fun i hi => by
    have q : i = 0 ∨ i = 1 ∨ i = 2 ∨ i = 3 ∨ i = 4 ∨ i = 5 ∨ i = 6 ∨ i = 7 ∨ i = 8 ∨ i = 9 ∨ i = 10 ∨ i = 11 ∨ i = 12 := by omega
    rcases q with rfl | rfl | rfl | rfl | rfl | rfl | rfl | rfl | rfl | rfl | rfl | rfl | rfl
    · exact fqC h (i := 39) rfl
    · exact fqC h (i := 47) rfl
    · exact fqC h (i := 59) rfl
    · exact fqC h (i := 70) rfl
    · exact fqC h (i := 83) rfl
    · exact fqC h (i := 97) rfl
    · exact fqC h (i := 114) rfl
    · exact fqC h (i := 129) rfl
    · exact fqC h (i := 144) rfl
    · exact fqC h (i := 158) rfl
    · exact fqC h (i := 176) rfl
    · exact fqC h (i := 193) rfl
    · exact fqC h (i := 210) rfl) (fun i hi j hj => by
    have q : i = 0 ∨ i = 1 ∨ i = 2 ∨ i = 3 ∨ i = 4 ∨ i = 5 ∨ i = 6 ∨ i = 7 ∨ i = 8 ∨ i = 9 ∨ i = 10 ∨ i = 11 ∨ i = 12 := by omega
    rcases q with rfl | rfl | rfl | rfl | rfl | rfl | rfl | rfl | rfl | rfl | rfl | rfl | rfl
    · have qj : j = 0 ∨ j = 1 ∨ j = 2 ∨ j = 3 := by have hj2 : j < 4 := hj; omega
      rcases qj with rfl | rfl | rfl | rfl
      · exact fqC h (i := 40) rfl
      · exact fqC h (i := 41) rfl
      · exact fqC h (i := 42) rfl
      · exact fqC h (i := 43) rfl
    · have qj : j = 0 ∨ j = 1 ∨ j = 2 ∨ j = 3 ∨ j = 4 ∨ j = 5 ∨ j = 6 := by have hj2 : j < 7 := hj; omega
      rcases qj with rfl | rfl | rfl | rfl | rfl | rfl | rfl
      · exact fqC h (i := 48) rfl
      · exact fqC h (i := 49) rfl
      · exact fqC h (i := 50) rfl
      · exact fqC h (i := 51) rfl
      · exact fqC h (i := 52) rfl
      · exact fqC h (i := 53) rfl
      · exact fqC h (i := 54) rfl
    · have qj : j = 0 ∨ j = 1 ∨ j = 2 ∨ j = 3 ∨ j = 4 := by have hj2 : j < 5 := hj; omega
      rcases qj with rfl | rfl | rfl | rfl | rfl
      · exact fqC h (i := 60) rfl
      · exact fqC h (i := 61) rfl
      · exact fqC h (i := 62) rfl
      · exact fqC h (i := 63) rfl
      · exact fqC h (i := 64) rfl
    · have qj : j = 0 ∨ j = 1 ∨ j = 2 ∨ j = 3 ∨ j = 4 ∨ j = 5 := by have hj2 : j < 6 := hj; omega
      rcases qj with rfl | rfl | rfl | rfl | rfl | rfl
      · exact fqC h (i := 71) rfl
      · exact fqC h (i := 72) rfl
      · exact fqC h (i := 73) rfl
      · exact fqC h (i := 74) rfl
      · exact fqC h (i := 75) rfl
      · exact fqC h (i := 76) rfl
    · have qj : j = 0 ∨ j = 1 ∨ j = 2 ∨ j = 3 ∨ j = 4 ∨ j = 5 := by have hj2 : j < 6 := hj; omega
      rcases qj with rfl | rfl | rfl | rfl | rfl | rfl
      · exact fqC h (i := 84) rfl
      · exact fqC h (i := 85) rfl
      · exact fqC h (i := 86) rfl
      · exact fqC h (i := 87) rfl
      · exact fqC h (i := 88) rfl
      · exact fqC h (i := 89) rfl
    · have qj : j = 0 ∨ j = 1 ∨ j = 2 ∨ j = 3 ∨ j = 4 ∨ j = 5 ∨ j = 6 ∨ j = 7 := by have hj2 : j < 8 := hj; omega
      rcases qj with rfl | rfl | rfl | rfl | rfl | rfl | rfl | rfl
      · exact fqC h (i := 98) rfl
      · exact fqC h (i := 99) rfl
      · exact fqC h (i := 100) rfl
      · exact fqC h (i := 101) rfl
      · exact fqC h (i := 102) rfl
      · exact fqC h (i := 103) rfl
      · exact fqC h (i := 104) rfl
      · exact fqC h (i := 105) rfl
    · have qj : j = 0 ∨ j = 1 ∨ j = 2 ∨ j = 3 ∨ j = 4 := by have hj2 : j < 5 := hj; omega
      rcases qj with rfl | rfl | rfl | rfl | rfl
      · exact fqC h (i := 115) rfl
      · exact fqC h (i := 116) rfl
      · exact fqC h (i := 117) rfl
      · exact fqC h (i := 118) rfl
      · exact fqC h (i := 119) rfl
    · have qj : j = 0 ∨ j = 1 ∨ j = 2 ∨ j = 3 := by have hj2 : j < 4 := hj; omega
      rcases qj with rfl | rfl | rfl | rfl
      · exact fqC h (i := 130) rfl
      · exact fqC h (i := 131) rfl
      · exact fqC h (i := 132) rfl
      · exact fqC h (i := 133) rfl
    · have qj : j = 0 ∨ j = 1 := by have hj2 : j < 2 := hj; omega
      rcases qj with rfl | rfl
      · exact fqC h (i := 145) rfl
      · exact fqC h (i := 146) rfl
    · have qj : j = 0 ∨ j = 1 ∨ j = 2 ∨ j = 3 ∨ j = 4 := by have hj2 : j < 5 := hj; omega
      rcases qj with rfl | rfl | rfl | rfl | rfl
      · exact fqC h (i := 159) rfl
      · exact fqC h (i := 160) rfl
      · exact fqC h (i := 161) rfl
      · exact fqC h (i := 162) rfl
      · exact fqC h (i := 163) rfl
    · have qj : j = 0 ∨ j = 1 ∨ j = 2 := by have hj2 : j < 3 := hj; omega
      rcases qj with rfl | rfl | rfl
      · exact fqC h (i := 177) rfl
      · exact fqC h (i := 178) rfl
      · exact fqC h (i := 179) rfl
    · have qj : j = 0 ∨ j = 1 := by have hj2 : j < 2 := hj; omega
      rcases qj with rfl | rfl
      · exact fqC h (i := 194) rfl
      · exact fqC h (i := 195) rfl
    · exact absurd hj (by show ¬ j < 0; omega)) (fun i j hi hj hij => by
    have q : i = 0 ∨ i = 1 ∨ i = 2 ∨ i = 3 ∨ i = 4 ∨ i = 5 ∨ i = 6 ∨ i = 7 ∨ i = 8 ∨ i = 9 ∨ i = 10 ∨ i = 11 ∨ i = 12 := by omega
    have qj : j = 0 ∨ j = 1 ∨ j = 2 ∨ j = 3 ∨ j = 4 ∨ j = 5 ∨ j = 6 ∨ j = 7 ∨ j = 8 ∨ j = 9 ∨ j = 10 ∨ j = 11 ∨ j = 12 := by omega
    rcases q with rfl | rfl | rfl | rfl | rfl | rfl | rfl | rfl | rfl | rfl | rfl | rfl | rfl
    · rcases qj with rfl | rfl | rfl | rfl | rfl | rfl | rfl | rfl | rfl | rfl | rfl | rfl | rfl
      · exact absurd rfl hij
      · exact Or.inl (fqC h (i := 55) rfl)
      · exact Or.inl (fqC h (i := 65) rfl)
      · exact Or.inl (fqC h (i := 77) rfl)
      · exact Or.inl (fqC h (i := 90) rfl)
      · exact Or.inl (fqC h (i := 106) rfl)
      · exact Or.inl (fqC h (i := 120) rfl)
      · exact Or.inl (fqC h (i := 134) rfl)
      · exact Or.inl (fqC h (i := 147) rfl)
      · exact Or.inl (fqC h (i := 164) rfl)
      · exact Or.inl (fqC h (i := 180) rfl)
      · exact Or.inl (fqC h (i := 196) rfl)
      · exact Or.inl (fqC h (i := 211) rfl)
    · rcases qj with rfl | rfl | rfl | rfl | rfl | rfl | rfl | rfl | rfl | rfl | rfl | rfl | rfl
      · exact Or.inr (fqC h (i := 55) rfl)
      · exact absurd rfl hij
      · exact Or.inl (fqC h (i := 66) rfl)
      · exact Or.inl (fqC h (i := 78) rfl)
      · exact Or.inl (fqC h (i := 91) rfl)
      · exact Or.inl (fqC h (i := 107) rfl)
      · exact Or.inl (fqC h (i := 121) rfl)
      · exact Or.inl (fqC h (i := 135) rfl)
      · exact Or.inl (fqC h (i := 148) rfl)
      · exact Or.inl (fqC h (i := 165) rfl)
      · exact Or.inl (fqC h (i := 181) rfl)
      · exact Or.inl (fqC h (i := 197) rfl)
      · exact Or.inl (fqC h (i := 212) rfl)
    · rcases qj with rfl | rfl | rfl | rfl | rfl | rfl | rfl | rfl | rfl | rfl | rfl | rfl | rfl
      · exact Or.inr (fqC h (i := 65) rfl)
      · exact Or.inr (fqC h (i := 66) rfl)
      · exact absurd rfl hij
      · exact Or.inl (fqC h (i := 79) rfl)
      · exact Or.inl (fqC h (i := 92) rfl)
      · exact Or.inl (fqC h (i := 108) rfl)
      · exact Or.inl (fqC h (i := 122) rfl)
      · exact Or.inl (fqC h (i := 136) rfl)
      · exact Or.inl (fqC h (i := 149) rfl)
      · exact Or.inl (fqC h (i := 166) rfl)
      · exact Or.inl (fqC h (i := 182) rfl)
      · exact Or.inl (fqC h (i := 198) rfl)
      · exact Or.inl (fqC h (i := 213) rfl)
    · rcases qj with rfl | rfl | rfl | rfl | rfl | rfl | rfl | rfl | rfl | rfl | rfl | rfl | rfl
      · exact Or.inr (fqC h (i := 77) rfl)
      · exact Or.inr (fqC h (i := 78) rfl)
      · exact Or.inr (fqC h (i := 79) rfl)
      · exact absurd rfl hij
      · exact Or.inl (fqC h (i := 93) rfl)
      · exact Or.inl (fqC h (i := 109) rfl)
      · exact Or.inl (fqC h (i := 123) rfl)
      · exact Or.inl (fqC h (i := 137) rfl)
      · exact Or.inl (fqC h (i := 150) rfl)
      · exact Or.inl (fqC h (i := 167) rfl)
      · exact Or.inl (fqC h (i := 183) rfl)
      · exact Or.inl (fqC h (i := 199) rfl)
      · exact Or.inl (fqC h (i := 214) rfl)
    · rcases qj with rfl | rfl | rfl | rfl | rfl | rfl | rfl | rfl | rfl | rfl | rfl | rfl | rfl
      · exact Or.inr (fqC h (i := 90) rfl)
      · exact Or.inr (fqC h (i := 91) rfl)
      · exact Or.inr (fqC h (i := 92) rfl)
      · exact Or.inr (fqC h (i := 93) rfl)
      · exact absurd rfl hij
      · exact Or.inl (fqC h (i := 110) rfl)
      · exact Or.inl (fqC h (i := 124) rfl)
      · exact Or.inl (fqC h (i := 138) rfl)
      · exact Or.inl (fqC h (i := 151) rfl)
      · exact Or.inl (fqC h (i := 168) rfl)
      · exact Or.inl (fqC h (i := 184) rfl)
      · exact Or.inl (fqC h (i := 200) rfl)
      · exact Or.inl (fqC h (i := 215) rfl)
    · rcases qj with rfl | rfl | rfl | rfl | rfl | rfl | rfl | rfl | rfl | rfl | rfl | rfl | rfl
      · exact Or.inr (fqC h (i := 106) rfl)
      · exact Or.inr (fqC h (i := 107) rfl)
      · exact Or.inr (fqC h (i := 108) rfl)
      · exact Or.inr (fqC h (i := 109) rfl)
      · exact Or.inr (fqC h (i := 110) rfl)
      · exact absurd rfl hij
      · exact Or.inl (fqC h (i := 125) rfl)
      · exact Or.inl (fqC h (i := 139) rfl)
      · exact Or.inl (fqC h (i := 152) rfl)
      · exact Or.inl (fqC h (i := 169) rfl)
      · exact Or.inl (fqC h (i := 185) rfl)
      · exact Or.inl (fqC h (i := 201) rfl)
      · exact Or.inl (fqC h (i := 216) rfl)
    · rcases qj with rfl | rfl | rfl | rfl | rfl | rfl | rfl | rfl | rfl | rfl | rfl | rfl | rfl
      · exact Or.inr (fqC h (i := 120) rfl)
      · exact Or.inr (fqC h (i := 121) rfl)
      · exact Or.inr (fqC h (i := 122) rfl)
      · exact Or.inr (fqC h (i := 123) rfl)
      · exact Or.inr (fqC h (i := 124) rfl)
      · exact Or.inr (fqC h (i := 125) rfl)
      · exact absurd rfl hij
      · exact Or.inl (fqC h (i := 140) rfl)
      · exact Or.inl (fqC h (i := 153) rfl)
      · exact Or.inl (fqC h (i := 170) rfl)
      · exact Or.inl (fqC h (i := 186) rfl)
      · exact Or.inl (fqC h (i := 202) rfl)
      · exact Or.inl (fqC h (i := 217) rfl)
    · rcases qj with rfl | rfl | rfl | rfl | rfl | rfl | rfl | rfl | rfl | rfl | rfl | rfl | rfl
      · exact Or.inr (fqC h (i := 134) rfl)
      · exact Or.inr (fqC h (i := 135) rfl)
      · exact Or.inr (fqC h (i := 136) rfl)
      · exact Or.inr (fqC h (i := 137) rfl)
      · exact Or.inr (fqC h (i := 138) rfl)
      · exact Or.inr (fqC h (i := 139) rfl)
      · exact Or.inr (fqC h (i := 140) rfl)
      · exact absurd rfl hij
      · exact Or.inl (fqC h (i := 154) rfl)
      · exact Or.inl (fqC h (i := 171) rfl)
      · exact Or.inl (fqC h (i := 187) rfl)
      · exact Or.inl (fqC h (i := 203) rfl)
      · exact Or.inl (fqC h (i := 218) rfl)
    · rcases qj with rfl | rfl | rfl | rfl | rfl | rfl | rfl | rfl | rfl | rfl | rfl | rfl | rfl
      · exact Or.inr (fqC h (i := 147) rfl)
      · exact Or.inr (fqC h (i := 148) rfl)
      · exact Or.inr (fqC h (i := 149) rfl)
      · exact Or.inr (fqC h (i := 150) rfl)
      · exact Or.inr (fqC h (i := 151) rfl)
      · exact Or.inr (fqC h (i := 152) rfl)
      · exact Or.inr (fqC h (i := 153) rfl)
      · exact Or.inr (fqC h (i := 154) rfl)
      · exact absurd rfl hij
      · exact Or.inl (fqC h (i := 172) rfl)
      · exact Or.inl (fqC h (i := 188) rfl)
      · exact Or.inl (fqC h (i := 204) rfl)
      · exact Or.inl (fqC h (i := 219) rfl)
    · rcases qj with rfl | rfl | rfl | rfl | rfl | rfl | rfl | rfl | rfl | rfl | rfl | rfl | rfl
      · exact Or.inr (fqC h (i := 164) rfl)
      · exact Or.inr (fqC h (i := 165) rfl)
      · exact Or.inr (fqC h (i := 166) rfl)
      · exact Or.inr (fqC h (i := 167) rfl)
      · exact Or.inr (fqC h (i := 168) rfl)
      · exact Or.inr (fqC h (i := 169) rfl)
      · exact Or.inr (fqC h (i := 170) rfl)
      · exact Or.inr (fqC h (i := 171) rfl)
      · exact Or.inr (fqC h (i := 172) rfl)
      · exact absurd rfl hij
      · exact Or.inl (fqC h (i := 189) rfl)
      · exact Or.inl (fqC h (i := 205) rfl)
      · exact Or.inl (fqC h (i := 220) rfl)
    · rcases qj with rfl | rfl | rfl | rfl | rfl | rfl | rfl | rfl | rfl | rfl | rfl | rfl | rfl
      · exact Or.inr (fqC h (i := 180) rfl)
      · exact Or.inr (fqC h (i := 181) rfl)
      · exact Or.inr (fqC h (i := 182) rfl)
      · exact Or.inr (fqC h (i := 183) rfl)
      · exact Or.inr (fqC h (i := 184) rfl)
      · exact Or.inr (fqC h (i := 185) rfl)
      · exact Or.inr (fqC h (i := 186) rfl)
      · exact Or.inr (fqC h (i := 187) rfl)
      · exact Or.inr (fqC h (i := 188) rfl)
      · exact Or.inr (fqC h (i := 189) rfl)
      · exact absurd rfl hij
      · exact Or.inl (fqC h (i := 206) rfl)
      · exact Or.inl (fqC h (i := 221) rfl)
    · rcases qj with rfl | rfl | rfl | rfl | rfl | rfl | rfl | rfl | rfl | rfl | rfl | rfl | rfl
      · exact Or.inr (fqC h (i := 196) rfl)
      · exact Or.inr (fqC h (i := 197) rfl)
      · exact Or.inr (fqC h (i := 198) rfl)
      · exact Or.inr (fqC h (i := 199) rfl)
      · exact Or.inr (fqC h (i := 200) rfl)
      · exact Or.inr (fqC h (i := 201) rfl)
      · exact Or.inr (fqC h (i := 202) rfl)
      · exact Or.inr (fqC h (i := 203) rfl)
      · exact Or.inr (fqC h (i := 204) rfl)
      · exact Or.inr (fqC h (i := 205) rfl)
      · exact Or.inr (fqC h (i := 206) rfl)
      · exact absurd rfl hij
      · exact Or.inl (fqC h (i := 222) rfl)
    · rcases qj with rfl | rfl | rfl | rfl | rfl | rfl | rfl | rfl | rfl | rfl | rfl | rfl | rfl
      · exact Or.inr (fqC h (i := 211) rfl)
      · exact Or.inr (fqC h (i := 212) rfl)
      · exact Or.inr (fqC h (i := 213) rfl)
      · exact Or.inr (fqC h (i := 214) rfl)
      · exact Or.inr (fqC h (i := 215) rfl)
      · exact Or.inr (fqC h (i := 216) rfl)
      · exact Or.inr (fqC h (i := 217) rfl)
      · exact Or.inr (fqC h (i := 218) rfl)
      · exact Or.inr (fqC h (i := 219) rfl)
      · exact Or.inr (fqC h (i := 220) rfl)
      · exact Or.inr (fqC h (i := 221) rfl)
      · exact Or.inr (fqC h (i := 222) rfl)
      · exact absurd rfl hij) hA
  refine ⟨adK, adV, h1, fun i hi => vk_R.of (A := #[Value.ref b]) ?_ (h2 i hi)⟩
  have q : i = 0 ∨ i = 1 ∨ i = 2 ∨ i = 3 ∨ i = 4 ∨ i = 5 ∨ i = 6 ∨ i = 7 ∨ i = 8 ∨ i = 9 ∨ i = 10 ∨ i = 11 ∨ i = 12 := by omega
  rcases q with rfl | rfl | rfl | rfl | rfl | rfl | rfl | rfl | rfl | rfl | rfl | rfl | rfl
  · exact wqC hw (i := 504) (by decide +kernel)
  · exact wqC hw (i := 505) (by decide +kernel)
  · exact wqC hw (i := 506) (by decide +kernel)
  · exact wqC hw (i := 507) (by decide +kernel)
  · exact wqC hw (i := 508) (by decide +kernel)
  · exact wqC hw (i := 509) (by decide +kernel)
  · exact wqC hw (i := 510) (by decide +kernel)
  · exact wqC hw (i := 511) (by decide +kernel)
  · exact wqC hw (i := 512) (by decide +kernel)
  · exact wqC hw (i := 513) (by decide +kernel)
  · exact wqC hw (i := 514) (by decide +kernel)
  · exact wqC hw (i := 515) (by decide +kernel)
  · exact wqC hw (i := 516) (by decide +kernel)
theorem st_GF {l : Launch} {s : State} {b : Nat} {dC : va_G} {vA : FieldType → ClassId} (h : GN.before #[Value.ref b] s = true) (hw : ∀ w ∈ lw_tbl, w.before #[Value.ref b] s = true) : ∃ G : GP, GF (l, s.heap.size, dC, vA, G) s := by
  have hA : ∀ a : Nat, a < s.heap.size → ¬ (fun q : Nat => s.heap.size ≤ q) a := fun a z y => by
    have y2 : s.heap.size ≤ a := y
    omega
  obtain ⟨tL, z1, t1⟩ := st_LEAST h hw hA
  obtain ⟨tG, z2, t2⟩ := st_GREATEST h hw hA
  obtain ⟨tD, z3, t3⟩ := st_DEFAULTS h hw hA
  obtain ⟨adK, adV, k1, k2⟩ := st_str h hw hA
  refine ⟨((tL, tG, tD), (adK, adV)), Nat.le_refl _, z1, t1, z2, t2, z3, t3, k2, k1, va_Zof (wqC hw (i := 526) (by decide +kernel)) (wqC hw (i := 14) (by decide +kernel)) (va_eqi (fqC h (i := 4) rfl)) hA, va_Zqof (wqC hw (i := 542) (by decide +kernel)) (wqC hw (i := 16) (by decide +kernel)) (fqC h (i := 5) rfl) hA, fun w hw2 => ?_⟩
  obtain ⟨a1, a2⟩ := List.mem_filter.mp hw2
  refine va_Nw.of (A := #[Value.ref b]) ?_ (hw w (List.mem_append_right _ a1))
  cases w <;> first | rfl | exact absurd a2 (by decide) | (simp [isNest] at a2)

