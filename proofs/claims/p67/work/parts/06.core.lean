/-! cells as one function: cell, place ↦ a whole number (ints and longs by their residues, references by the cell's number, null below 0) -/
abbrev Hp : Type := Int → Int → Int
abbrev Sg : Type := (Nat × List Int) ⊕ (FieldType × Nat)
abbrev Shp : Type := List Sg
abbrev GP : Type := (Nat × Nat × Nat) × (Nat → Nat) × (Nat → Nat) × (Nat × Nat × Nat)
abbrev VX : Type := Launch × Nat × va_G × (FieldType → ClassId) × GP
abbrev KX : Type := VX × Program × Env × Room × State × MethodId × Array Value × List Frame × Method × Code
abbrev vL (V : VX) : Launch := V.1
abbrev vB (V : VX) : Nat := V.2.1
abbrev vD (V : VX) : va_G := V.2.2.1
abbrev vA (V : VX) : FieldType → ClassId := V.2.2.2.1
abbrev vG (V : VX) : GP := V.2.2.2.2
abbrev xV (X : KX) : VX := X.1
abbrev xp (X : KX) : Program := X.2.1
abbrev xe (X : KX) : Env := X.2.2.1
abbrev xr (X : KX) : Room := X.2.2.2.1
abbrev xs (X : KX) : State := X.2.2.2.2.1
abbrev xm (X : KX) : MethodId := X.2.2.2.2.2.1
abbrev xa (X : KX) : Array Value := X.2.2.2.2.2.2.1
abbrev xb (X : KX) : List Frame := X.2.2.2.2.2.2.2.1
abbrev xM (X : KX) : Method := X.2.2.2.2.2.2.2.2.1
abbrev xc (X : KX) : Code := X.2.2.2.2.2.2.2.2.2
def vi (x : Int) : Value := .int (Int32.ofInt x)
def vl (x : Int) : Value := .long (Int64.ofInt x)
def vr (V : VX) (x : Int) : Value := if x < 0 then .null else .ref (vB V + x.toNat)
def up (F : Hp) (k i v : Int) : Hp := fun a b => if a = k ∧ b = i then v else F a b
theorem up_s {F : Hp} {k i v : Int} : up F k i v k i = v := if_pos ⟨rfl, rfl⟩
theorem up_n {F : Hp} {k i v a b : Int} (h : ¬ (a = k ∧ b = i)) : up F k i v a b = F a b := if_neg h
theorem up_k {F : Hp} {k i v a b : Int} (h : a ≠ k) : up F k i v a b = F a b := if_neg fun q => h q.1
theorem up_i {F : Hp} {k i v a b : Int} (h : b ≠ i) : up F k i v a b = F a b := if_neg fun q => h q.2
abbrev I32 (x : Int) : Prop := -2147483648 ≤ x ∧ x ≤ 2147483647
abbrev I64 (x : Int) : Prop := -9223372036854775808 ≤ x ∧ x ≤ 9223372036854775807
theorem vr_cat (V : VX) (x : Int) : (vr V x).category = 1 := by unfold vr; split <;> rfl
theorem vi_cat (x : Int) : (vi x).category = 1 := rfl
theorem vl_cat (x : Int) : (vl x).category = 2 := rfl
theorem vr_ref {V : VX} {x : Int} (h : 0 ≤ x) : vr V x = .ref (vB V + x.toNat) := if_neg (by omega)
theorem vr_null {V : VX} {x : Int} (h : x < 0) : vr V x = .null := if_pos h
/-- a row of references that may be the lists' empty one -/
def vq (V : VX) (x : Int) : Value := if x = -2 then .ref (vG V).2.2.2.2.2 else vr V x
def mkv (V : VX) (ty : FieldType) (x : Int) : Value := match ty with
  | .long => vl x
  | .object _ => vr V x
  | .array t => match t with
    | .object _ => vq V x
    | _ => vr V x
  | _ => vi x


/-- a reference in a row of references -/
def rq (V : VX) (x : Int) : Option Nat := if x < 0 then none else some (vB V + x.toNat)
theorem rq_vr {V : VX} {x : Int} : va_rf (rq V x) = vr V x := by unfold rq vr; split <;> rfl
def aE (V : VX) (ty : FieldType) (n : Nat) (f : Int → Int) : vp_A := match ty with
  | .long => (n, .inr (.inl fun j => Int64.ofInt (f (j : Int))))
  | .object _ => (n, .inr (.inr (.inr (.inr fun j => rq V (f (j : Int))))))
  | .array _ => (n, .inr (.inr (.inr (.inr fun j => rq V (f (j : Int))))))
  | _ => (n, .inl fun j => Int32.ofInt (f (j : Int)))
/-- a field's value: a frozen reference, or what the cells say -/
def fv (V : VX) (rs : List Int) (ty : FieldType) (j : Nat) (x : Int) : Value := if 0 ≤ rs.getD j (-1) then vr V (rs.getD j (-1)) else mkv V ty x
def cE (V : VX) (g : Sg) (f : Int → Int) : va_E := match g with
  | .inl (ci, rs) => .inr (ci, (List.range (fN ci)).map fun (j : Nat) => fv V rs (ftys ci j) j (f (j : Int)))
  | .inr (ty, n) => .inl (vA V ty, aE V ty n f)
def wl (V : VX) (sh : Shp) (F : Hp) : va_W := (List.range sh.length).map fun (k : Nat) => (vB V + k, cE V (sh.getD k (.inl (0, []))) (F (k : Int)))
def tys4 (V : VX) : List (ClassId × FieldType) := [(vA V .int, .int), (vA V .long, .long), (vA V .boolean, .boolean), (vA V .byte, .byte), (vA V (.object "java/lang/Object"), .object "java/lang/Object"), (vA V (.array .int), .array .int)]
def HP (V : VX) (sh : Shp) (F : Hp) (H : Heap) : Prop := va_P (vD V) vwCl (wl V sh F) H
def AB (V : VX) : Nat → Prop := fun q => vB V ≤ q
def isO (sh : Shp) (k : Int) (ci : Nat) (rs : List Int) : Prop := 0 ≤ k ∧ sh[k.toNat]? = some (.inl (ci, rs))
def isA (sh : Shp) (k : Int) (ty : FieldType) (n : Nat) : Prop := 0 ≤ k ∧ sh[k.toNat]? = some (.inr (ty, n)) ∧ n < 2147483648
theorem wl_at {V : VX} {sh : Shp} {F : Hp} {k : Nat} {g : Sg} (h : sh[k]? = some g) : (wl V sh F)[k]? = some (vB V + k, cE V g (F (k : Int))) := by
  have hl : k < sh.length := (List.getElem?_eq_some_iff.mp h).1
  unfold wl
  rw [List.getElem?_map, List.getElem?_range hl]
  simp [List.getD_eq_getElem?_getD, h]
theorem wl_len {V : VX} {sh : Shp} {F : Hp} : (wl V sh F).length = sh.length := by simp [wl]
theorem wl_inv {V : VX} {sh : Shp} {F : Hp} {k : Nat} {q : Nat × va_E} (h : (wl V sh F)[k]? = some q) : k < sh.length ∧ q.1 = vB V + k := by
  have hl : k < (wl V sh F).length := (List.getElem?_eq_some_iff.mp h).1
  rw [wl_len] at hl
  refine ⟨hl, ?_⟩
  rw [wl_at (List.getElem?_eq_getElem hl)] at h
  cases h
  rfl
theorem wl_D {V : VX} {sh : Shp} {F : Hp} : va_D (AB V) (wl V sh F) := by
  refine ⟨fun i j p q hi hj hpq => ?_, fun k q hk => ?_⟩
  · have h1 := wl_inv hi
    have h2 := wl_inv hj
    omega
  · have h1 := wl_inv hk
    unfold AB
    omega
theorem wl_ext {V : VX} {sh : Shp} {F F' : Hp} {k : Nat} {g : Sg} (h : sh[k]? = some g) (hF : ∀ j : Nat, j < sh.length → j ≠ k → F' (j : Int) = F (j : Int)) :
    (wl V sh F).set k (vB V + k, cE V g (F' (k : Int))) = wl V sh F' := by
  apply List.ext_getElem?
  intro j
  by_cases hj : j = k
  · subst hj
    have hl : j < sh.length := (List.getElem?_eq_some_iff.mp h).1
    rw [List.getElem?_set_self (by rw [wl_len]; exact hl), wl_at h]
  · rw [List.getElem?_set_ne (fun e => hj e.symm)]
    by_cases hl : j < sh.length
    · rw [wl_at (List.getElem?_eq_getElem hl), wl_at (List.getElem?_eq_getElem hl), hF j hl hj]
    · rw [List.getElem?_eq_none (by rw [wl_len]; omega), List.getElem?_eq_none (by rw [wl_len]; omega)]
theorem up_row {F : Hp} {k i v : Int} {j : Nat} (h : (j : Int) ≠ k) : up F k i v (j : Int) = F (j : Int) := by
  funext b
  exact up_k h
/-- what stays all along: the constants' tables and texts -/
def skey (i : Nat) : Nat := [328, 329, 330, 331, 332, 333, 334, 335, 337, 339, 341, 343, 345, 149, 158, 160, 165, 167, 169, 171, 173, 175, 177, 179, 181, 183, 185].getD i 0
def stx (i : Nat) : String := ["rate", "ceiling", "burst", "credit", "weight", "priority", "alone", "node", "in", "limit", "age", "at", "", "node ", " in ", " rate ", " ceiling ", " burst ", " credit ", " weight ", " priority ", " alone;", ";", "limit ", "age ", "at ", " "].getD i ""
def sow (i : Nat) : String := if i < 13 then "RateLimiter" else "RateLimiterLaw$Tree"
def sbyt : List (List Int32) := [[114, 97, 116, 101], [99, 101, 105, 108, 105, 110, 103], [98, 117, 114, 115, 116], [99, 114, 101, 100, 105, 116], [119, 101, 105, 103, 104, 116], [112, 114, 105, 111, 114, 105, 116, 121], [97, 108, 111, 110, 101], [110, 111, 100, 101], [105, 110], [108, 105, 109, 105, 116], [97, 103, 101], [97, 116], [], [110, 111, 100, 101, 32], [32, 105, 110, 32], [32, 114, 97, 116, 101, 32], [32, 99, 101, 105, 108, 105, 110, 103, 32], [32, 98, 117, 114, 115, 116, 32], [32, 99, 114, 101, 100, 105, 116, 32], [32, 119, 101, 105, 103, 104, 116, 32], [32, 112, 114, 105, 111, 114, 105, 116, 121, 32], [32, 97, 108, 111, 110, 101, 59], [59], [108, 105, 109, 105, 116, 32], [97, 103, 101, 32], [97, 116, 32], [32]]
def slen : List Nat := [4, 7, 5, 6, 6, 8, 5, 4, 2, 5, 3, 2, 0, 5, 4, 6, 9, 7, 8, 8, 10, 7, 1, 6, 4, 3, 1]
def tabL (j : Nat) : Int := [0, 0, 1, 0, 1, 0].getD j 0
def tabG (j : Nat) : Int := [99, 999, 999, 999, 9, 7].getD j 0
def tabD (j : Nat) : Int := [1, 1, 10, 0, 1, 0].getD j 0
/-- the digits' tables, the lists' empty row, the two classes of rows of references -/
def GX (V : VX) (U : State) : Prop :=
  va_Z "java/lang/Integer" "DigitOnes" "[B" (.ref (vG V).2.2.2.1) (AB V) U U.heap ∧ va_T .byte (vG V).2.2.2.1 100 (fun j => vi (48 + (j : Int) % 10)) (AB V) U U.heap ∧
  va_Z "java/lang/Integer" "DigitTens" "[B" (.ref (vG V).2.2.2.2.1) (AB V) U U.heap ∧ va_T .byte (vG V).2.2.2.2.1 100 (fun j => vi (48 + (j : Int) / 10)) (AB V) U U.heap ∧
  va_Z "java/util/ArrayList" "DEFAULTCAPACITY_EMPTY_ELEMENTDATA" "[Ljava/lang/Object;" (.ref (vG V).2.2.2.2.2) (AB V) U U.heap ∧ va_T (.object "java/lang/Object") (vG V).2.2.2.2.2 0 (fun _ => .null) (AB V) U U.heap ∧
  (Cond.arrayOver (.object "java/lang/Object")).before #[] U = true ∧ (Cond.arrayOver (.array .int)).before #[] U = true
theorem aoA_moved {t : FieldType} {u U : State} (hvm : u.vm.Alike U.vm) (h : (Cond.arrayOver (.array t)).before #[] u = true) : (Cond.arrayOver (.array t)).before #[] U = true := by
  obtain ⟨comp, c, k, hcomp, hidx, hk, hkind, hname⟩ := arrayOverA_spec h
  obtain ⟨k', hk', hek'⟩ := hvm.2.2 _ _ hk
  have hkind' : k'.kind = .array comp (.array t) := by rw [hek']; exact hkind
  have hname' : U.vm.findClass ("[" ++ (FieldType.array t).toString) = some c := by rw [hvm.findClass]; exact hname
  have hcomp' : U.vm.findClass (FieldType.array t).toString = some comp := by rw [hvm.findClass]; exact hcomp
  unfold Cond.before
  simp only [Cond.holds, Cond.value, hcomp', Option.bind_some, beq_iff_eq]
  rw [Option.bind_eq_some_iff]
  refine ⟨c, (hvm.findIdx?_eq _ (fun _ => rfl)).trans hidx, ?_⟩
  simp [hk', hkind', hname']
theorem GX.move {V : VX} {s U : State} (h : GX V s) (hW : s.WarmedH U.vm) (kq : ∀ a : Nat, a < s.heap.size → ¬ AB V a → U.heap[a]? = s.heap[a]?) : GX V U := by
  have al := hW.alike
  obtain ⟨h1, h2, h3, h4, h5, h6, h7, h8⟩ := h
  exact ⟨(h1.moved al).kept kq, (h2.moved al).kept kq, (h3.moved al).kept kq, (h4.moved al).kept kq, (h5.moved al).kept kq, (h6.moved al).kept kq, va_AO.moved al h7, aoA_moved al h8⟩
def GF (V : VX) (U : State) : Prop := vB V ≤ U.heap.size ∧
  va_Z "RateLimiter" "LEAST" "[I" (.ref (vG V).1.1) (AB V) U U.heap ∧ va_T .int (vG V).1.1 6 (fun j => vi (tabL j)) (AB V) U U.heap ∧
  va_Z "RateLimiter" "GREATEST" "[I" (.ref (vG V).1.2.1) (AB V) U U.heap ∧ va_T .int (vG V).1.2.1 6 (fun j => vi (tabG j)) (AB V) U U.heap ∧
  va_Z "RateLimiter" "DEFAULTS" "[I" (.ref (vG V).1.2.2) (AB V) U U.heap ∧ va_T .int (vG V).1.2.2 6 (fun j => vi (tabD j)) (AB V) U U.heap ∧
  (∀ i, i < 27 → vk_R (sow i) (skey i) (stx i) ((vG V).2.1 i) U) ∧ vk_S 27 slen sbyt (vG V).2.1 (vG V).2.2.1 (AB V) U U.heap ∧
  va_Z "java/lang/String" "COMPACT_STRINGS" "Z" (.int 1) (AB V) U U.heap ∧ va_Zq "jdk/internal/util/Preconditions" "SIOOBE_FORMATTER" "Ljava/util/function/BiFunction;" (AB V) U U.heap ∧
  (∀ w ∈ nst, va_Nw w U) ∧ GX V U
theorem nest_warm {w : Cond} {s U : State} (hn : isNest w = true) (hW : s.WarmedH U.vm) (h : va_Nw w s) : va_Nw w U := by
  cases w <;> first | exact absurd hn (by decide) | exact h.warmM hW | exact h.warmF hW | exact h.warmC hW | (simp [isNest] at hn)
theorem GF.move {V : VX} {s U : State} (h : GF V s) (hW : s.WarmedH U.vm) (hz : s.heap.size ≤ U.heap.size) (hq : ∀ a : Nat, a < vB V → U.heap[a]? = s.heap[a]?) : GF V U := by
  have kq : ∀ a : Nat, a < s.heap.size → ¬ AB V a → U.heap[a]? = s.heap[a]? := fun a _ h2 => hq a (by unfold AB at h2; omega)
  have al := hW.alike
  obtain ⟨h0, h1, h2, h3, h4, h5, h6, h7, h8, h9, h10, h11, h12⟩ := h
  exact ⟨by omega, (h1.moved al).kept kq, (h2.moved al).kept kq, (h3.moved al).kept kq, (h4.moved al).kept kq, (h5.moved al).kept kq, (h6.moved al).kept kq, fun i hi => (h7 i hi).warm hW, (h8.moved al).kept kq, (h9.moved al).kept kq, (h10.moved al).kept kq, fun w hw => nest_warm (List.mem_filter.mp hw).2 hW (h11 w hw), h12.move hW kq⟩
theorem GF.nest {V : VX} {U : State} (h : GF V U) {w : Cond} (hw : w ∈ nst) (ht : w.onTables = true) {A : Array Value} : w.before A U = true := va_Nw.use ht (h.2.2.2.2.2.2.2.2.2.2.2.1 w hw)
/-! the frame's locals by their places -/
def asc : Nat → List (Option Value) → List (Nat × Value)
  | _, [] => []
  | i, some v :: r => (i, v) :: asc (i + 1) r
  | i, none :: r => asc (i + 1) r
theorem asc_at : ∀ {L : List (Option Value)} {b i : Nat} {v : Value}, L[i]? = some (some v) → (b + i, v) ∈ asc b L
  | [], b, i, v, h => by simp at h
  | some u :: L, b, 0, v, h => by
    simp at h
    subst h
    exact List.mem_cons_self
  | none :: L, b, 0, v, h => by simp at h
  | some u :: L, b, i + 1, v, h => by
    have := asc_at (L := L) (b := b + 1) (i := i) (v := v) (by simpa using h)
    rw [show b + (i + 1) = b + 1 + i by omega]
    exact List.mem_cons_of_mem _ this
  | none :: L, b, i + 1, v, h => by
    have := asc_at (L := L) (b := b + 1) (i := i) (v := v) (by simpa using h)
    rw [show b + (i + 1) = b + 1 + i by omega]
    exact this
theorem asc_of : ∀ {L : List (Option Value)} {b : Nat} {q : Nat × Value}, q ∈ asc b L → b ≤ q.1 ∧ L[q.1 - b]? = some (some q.2)
  | [], b, q, h => by simp [asc] at h
  | some u :: L, b, q, h => by
    rcases List.mem_cons.mp h with rfl | h
    · simp
    · obtain ⟨h1, h2⟩ := asc_of h
      refine ⟨by omega, ?_⟩
      rw [show q.1 - b = q.1 - (b + 1) + 1 by omega]
      simpa using h2
  | none :: L, b, q, h => by
    obtain ⟨h1, h2⟩ := asc_of (show q ∈ asc (b + 1) L from h)
    refine ⟨by omega, ?_⟩
    rw [show q.1 - b = q.1 - (b + 1) + 1 by omega]
    simpa using h2
def LSl (ls : Array Slot) (L : List (Option Value)) : Prop := lv_has ls L.length (asc 0 L)
theorem LSl.at {ls : Array Slot} {L : List (Option Value)} (h : LSl ls L) {i : Nat} {v : Value} (hi : L[i]? = some (some v)) : ls[i]? = some (.val v) := by
  have := h.2.2 _ (asc_at (b := 0) hi)
  simpa using this
/-- no long ends at this place -/
def c1 (x : Option Value) : Prop := ∀ v, x = some v → v.category = 1
theorem c1_n : c1 none := fun _ h => by cases h
theorem c1_i {x : Int} : c1 (some (vi x)) := fun _ h => by cases h; rfl
theorem c1_r {V : VX} {x : Int} : c1 (some (vr V x)) := fun _ h => by cases h; exact vr_cat V x
theorem LSl.st1 {ls' : Array Slot} {L L' : List (Option Value)} {i : Nat} {v : Value} (h : lv_has ls' L.length ((i, v) :: (asc 0 L).filter (fun q => !(q.1 == i) && !(q.1 + 1 == i && q.2.category == 2)))) (hL : L' = L.set i (some v)) (hp : ∀ j u, j + 1 = i → L[j]? = some u → c1 u) : LSl ls' L' := by
  subst hL
  refine ⟨by rw [List.length_set]; exact h.1, h.2.1, fun q hq => ?_⟩
  obtain ⟨-, h2⟩ := asc_of hq
  apply h.2.2
  by_cases hqi : q.1 = i
  · rw [Nat.sub_zero, hqi] at h2
    have hl : i < L.length := by
      have := (List.getElem?_eq_some_iff.mp h2).1
      simpa using this
    rw [List.getElem?_set_self hl] at h2
    have e : q = (i, v) := by
      obtain ⟨a, b⟩ := q
      simp at h2 hqi
      rw [hqi, h2]
    rw [e]
    exact List.mem_cons_self
  · rw [Nat.sub_zero, List.getElem?_set_ne (fun e => hqi e.symm)] at h2
    refine List.mem_cons_of_mem _ (List.mem_filter.mpr ⟨?_, ?_⟩)
    · have := asc_at (b := 0) h2
      simpa using this
    · have hc : q.1 + 1 = i → q.2.category = 1 := fun e => hp q.1 _ e h2 q.2 rfl
      by_cases e : q.1 + 1 = i
      · simp [hqi, hc e]
      · simp [hqi, e]
theorem LSl.st2 {ls' : Array Slot} {L L' : List (Option Value)} {i : Nat} {v : Value} (h : lv_has ls' L.length ((i, v) :: (asc 0 L).filter (fun q => !(q.1 == i) && (!(q.1 == i + 1) && !(q.1 + 1 == i && q.2.category == 2))))) (hL : L' = (L.set i (some v)).set (i + 1) none) (hp : ∀ j u, j + 1 = i → L[j]? = some u → c1 u) : LSl ls' L' := by
  subst hL
  refine ⟨by rw [List.length_set, List.length_set]; exact h.1, h.2.1, fun q hq => ?_⟩
  obtain ⟨-, h2⟩ := asc_of hq
  apply h.2.2
  have hq1 : q.1 ≠ i + 1 := by
    intro e
    rw [Nat.sub_zero, e] at h2
    have hl := (List.getElem?_eq_some_iff.mp h2).1
    rw [List.getElem?_set_self (by simpa using hl)] at h2
    cases h2
  rw [Nat.sub_zero, List.getElem?_set_ne (fun e => hq1 e.symm)] at h2
  by_cases hqi : q.1 = i
  · rw [hqi] at h2
    have hl : i < L.length := by
      have := (List.getElem?_eq_some_iff.mp h2).1
      simpa using this
    rw [List.getElem?_set_self hl] at h2
    have e : q = (i, v) := by
      obtain ⟨a, b⟩ := q
      simp at h2 hqi
      rw [hqi, h2]
    rw [e]
    exact List.mem_cons_self
  · rw [List.getElem?_set_ne (fun e => hqi e.symm)] at h2
    refine List.mem_cons_of_mem _ (List.mem_filter.mpr ⟨?_, ?_⟩)
    · have := asc_at (b := 0) h2
      simpa using this
    · have hc : q.1 + 1 = i → q.2.category = 1 := fun e => hp q.1 _ e h2 q.2 rfl
      by_cases e : q.1 + 1 = i
      · simp [hqi, hq1, hc e]
      · simp [hqi, hq1, e]
theorem LSl.drop {ls : Array Slot} {L L' : List (Option Value)} (h : LSl ls L) (hl : L'.length = L.length) (hi : ∀ (i : Nat) (v : Value), L'[i]? = some (some v) → L[i]? = some (some v)) : LSl ls L' := by
  refine ⟨by rw [hl]; exact h.1, h.2.1, fun q hq => ?_⟩
  obtain ⟨-, h2⟩ := asc_of hq
  exact h.at (hi _ _ h2)
/-! the judgement -/
def R (X : KX) (sh : Shp) (cs ss pc : Nat) (L : List (Option Value)) (st : List Value) (F : Hp) (Z : State → Prop) : Prop :=
  (xs X).heap.size + cs = vB (xV X) + sh.length → ∀ (H : Heap) (locs : List Loc) (ls : Array Slot), HP (xV X) sh F H → va_S (AB (xV X)) (xs X).heap H locs → LSl ls L → W (xp X) (vL (xV X)) (xe X) (xr X) (xs X) (xm X) (xa X) (xb X) (xM X) (xc X) H locs cs ss Z (F0 (xm X) pc ls st)
/-- what holds all along a method -/
def Ok (X : KX) (own : String) (cc : ByteArray) (nL : Nat) (ret : Option FieldType) (fr lo mc ms : Nat) : Prop :=
  (xp X).tables.exec = Jvm.exec ∧ (xc X).code = cc ∧ (xs X).vm.findClass own = some (xm X).cls ∧ (xc X).maxLocals = nL ∧ (∀ w ∈ gwt, w.before (xa X) (xs X) = true) ∧ va_K (vD (xV X)) vwCl (tys4 (xV X)) (xs X) ∧ GF (xV X) (xs X) ∧ (xM X).sig.returnType = ret ∧ (xM X).locks = false ∧
  (fr ≤ (xr X).frames ∧ lo ≤ (xr X).locals ∧ mc ≤ (xr X).cells ∧ ms ≤ (xr X).slots)
def rv (V : VX) (kd : Nat) (x : Int) : Option Value := match kd with
  | 0 => none
  | 1 => some (vi x)
  | 2 => some (vl x)
  | 3 => some (vr V x)
  | _ => some (.ref ((vG V).2.1 x.toNat))
def Post (V : VX) (sh : Shp) (kd : Nat) (Q : Int → Hp → Prop) : Array Value → State → Outcome → State → Prop := fun _ st oc t =>
  (∃ (x : Int) (F : Hp), oc = .returned (rv V kd x) ∧ Q x F ∧ HP V sh F t.heap) ∧ va_F (AB V) st t
/-- a method's contract: from these arguments and cells, it answers x and leaves the cells F' with 'Q x F'' -/
def Ct (V : VX) (y : MethodName) (cc : ByteArray) (nL : Nat) (ret : Option FieldType) (fr lo mc ms : Nat) (sh : Shp) (args : List Value) (F : Hp) (sh' : Shp) (kd : Nat) (Q : Int → Hp → Prop) : Prop :=
  Met (vL V) y (.code y cc nL ret :: gwt) ({ frames := fr, cells := mc, slots := ms, locals := lo }) (va_Pc args (fun U => U.heap.size = vB V + sh.length ∧ HP V sh F U.heap ∧ va_K (vD V) vwCl (tys4 V) U ∧ GF V U)) (Post V sh' kd Q) mc ms (AB V)
def Zq (X : KX) (sh : Shp) (kd : Nat) (Q : Int → Hp → Prop) (mc ms : Nat) : State → Prop := MQ (xb X) (Post (xV X) sh kd Q) (xa X) (xs X) mc ms (AB (xV X))
theorem good_tbl : GoodIn gwt gwt := fun w hw => ⟨hw, good_of_word (List.mem_filter.mp hw).2⟩
theorem good_cons {w : Cond} (h : w ∈ gwt) : GoodIn gwt (w :: gwt) := fun u hu => by
  rcases List.mem_cons.mp hu with rfl | hu
  · exact good_tbl _ h
  · exact good_tbl _ hu
theorem R.eq {X : KX} {sh : Shp} {cs ss pc : Nat} {L L' : List (Option Value)} {st st' : List Value} {F F' : Hp} {Z : State → Prop} (h1 : L = L') (h2 : st = st') (h3 : F = F') (k : R X sh cs ss pc L' st' F' Z) : R X sh cs ss pc L st F Z := by
  subst h1; subst h2; subst h3; exact k
theorem R.drop {X : KX} {sh : Shp} {cs ss pc : Nat} {L : List (Option Value)} {st : List Value} {F : Hp} {Z : State → Prop} (L' : List (Option Value)) (hl : L'.length = L.length) (hi : ∀ (i : Nat) (v : Value), L'[i]? = some (some v) → L[i]? = some (some v)) (k : R X sh cs ss pc L' st F Z) : R X sh cs ss pc L st F Z :=
  fun hz H locs ls hP hS hl' => k hz H locs ls hP hS (hl'.drop hl hi)
/-- the method's contract out of a walk of its body -/
theorem Ct.of {V : VX} {y : MethodName} {cc : ByteArray} {nL : Nat} {ret : Option FieldType} {fr lo mc ms : Nat} {sh sh' : Shp} {args : List Value} {F : Hp} {kd : Nat} {Q : Int → Hp → Prop} (L : List (Option Value)) (hy : plainName y.cls = true) (hlen : (lg_sl args).length ≤ nL) (hL : L.length = nL) (hLa : asc 0 L = lv_args 0 args)
    (body : ∀ X : KX, xV X = V → Ok X y.cls cc nL ret fr lo mc ms → R X sh 0 0 0 L [] F (Zq X sh' kd Q mc ms)) : Ct V y cc nL ret fr lo mc ms sh args F sh' kd Q := by
  refine Met.ofW (cc := cc) (maxL := nL) (ret := ret) hy rfl ?_
  intro p e s m as below meth c s₁ B hml hv
  obtain ⟨rfl, hz, hP, hK, hG⟩ := hv
  have hts0 := atoms_spec (ws := .code y cc nL ret :: gwt) B.pre
  have hts : ∀ w ∈ gwt, w.before args.toArray s = true := fun w hw => hts0 w (List.mem_cons_of_mem _ hw)
  have hown : s.vm.findClass y.cls = some m.cls := findClass_of_methodNamed B.named
  have key := body (V, p, e, (headSpec (.code y cc nL ret :: gwt) ({ frames := fr, cells := mc, slots := ms, locals := lo } : Room)).room, s, m, args.toArray, below, meth, c) rfl ⟨B.exec, B.bytes, hown, hml, hts, hK, hG, B.returns, B.notSynchronized, Nat.le_refl _, Nat.le_refl _, Nat.le_refl _, Nat.le_refl _⟩
  have hl := lv_entry args (n := nL) hlen
  rw [lg_entry_eq]
  exact key hz s.heap [] _ hP va_S.rf (by unfold LSl; rw [hL, hLa]; exact hl)
theorem Ct.weaken {V : VX} {y : MethodName} {cc : ByteArray} {nL : Nat} {ret : Option FieldType} {fr lo mc ms : Nat} {sh sh' : Shp} {args : List Value} {F : Hp} {kd : Nat} {Q Q' : Int → Hp → Prop} (h : Ct V y cc nL ret fr lo mc ms sh args F sh' kd Q) (hq : ∀ x F', Q x F' → Q' x F') : Ct V y cc nL ret fr lo mc ms sh args F sh' kd Q' := by
  intro p e h1 h2 h3 s m as below h4 h5 h6 h7
  obtain ⟨k, o, a1, a2, a3, ⟨⟨x, F', e1, q1, p1⟩, fr'⟩, a5⟩ := h p e h1 h2 h3 s m as below h4 h5 h6 h7
  exact ⟨k, o, a1, a2, a3, ⟨⟨x, F', e1, hq _ _ q1, p1⟩, fr'⟩, a5⟩

