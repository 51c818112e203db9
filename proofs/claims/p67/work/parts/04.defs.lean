/-- the tables' words that stay through calls -/
def xsel : List Cond := [.selects RJ4 yJ5_ensureCapacityInternal_d00df yJ5_ensureCapacityInternal_d00df, .selects RJ4 yJ5_newCapacity_0f7a4 yJ5_newCapacity_0f7a4, .selects RJ4 yJ5_putStringAt_47b60 yJ5_putStringAt_47b60, .selects RJ4 yJ5_inflateIfNeededFor_a7421 yJ5_inflateIfNeededFor_a7421]
def gwt : List Cond := (xsel ++ lw_tbl).filter goodWord
def isNest : Cond → Bool
  | .methodLinkNest .. => true
  | .fieldLinkNest .. => true
  | .castable .. => true
  | _ => false
/-- the nest mates' links, and what may be cast -/
def nst : List Cond := tables_1.filter isNest

def ftys (ci k : Nat) : FieldType := match ci with
  | 0 => tyX0 k
  | 1 => tyX1 k
  | 2 => tyX2 k
  | 3 => tyX3 k
  | 4 => tyX4 k
  | 5 => tyX5 k
  | 6 => tyX6 k
  | 7 => tyX7 k
  | 8 => tyX8 k
  | 9 => tyX9 k
  | 10 => tyX10 k
  | 11 => tyX11 k
  | 12 => tyX12 k
  | 13 => tyJ0 k
  | 14 => tyJ4 k
  | _ => tyJx4a65c k
def fN (ci : Nat) : Nat := match ci with
  | 0 => 3
  | 1 => 5
  | 2 => 5
  | 3 => 5
  | 4 => 5
  | 5 => 11
  | 6 => 6
  | 7 => 15
  | 8 => 9
  | 9 => 2
  | 10 => 4
  | 11 => 8
  | 12 => 25
  | 13 => 4
  | 14 => 4
  | _ => 3
/-- what the class's tables say, by its number -/
def CF (ci : Nat) (C : String) (T : u_T) (N : Nat) : Prop := vwCl[ci]? = some (C, T, N) ∧ fN ci = N ∧ (∀ w ∈ u_ws C T N, w ∈ gwt) ∧ (∀ a, a < N → ∀ b, b < N → a ≠ b → (T a).2.1 ≠ (T b).2.1) ∧ (∀ k, k < N → parseFieldDescriptor (T k).2.2.1 = some (ftys ci k))
/-- a field that code of 'own' reads or writes by its pool's entry idx -/
def FLk (own : String) (idx ci : Nat) (j : Int) (ty : FieldType) (fin : Bool) : Prop := 0 ≤ j ∧ ftys ci j.toNat = ty ∧ ∃ (C : String) (T : u_T) (N : Nat) (rf : String), CF ci C T N ∧ j.toNat < N ∧ Cond.fieldLink own idx rf (T j.toNat).2.1 (T j.toNat).2.2.1 ∈ gwt ∧ (T j.toNat).2.2.2 = fin ∧ (rf = (T j.toNat).1 ∨ Cond.sameField rf (T j.toNat).1 (T j.toNat).2.1 (T j.toNat).2.2.1 ∈ gwt)
/-- a method's own words -/
def MK (y : MethodName) (cc : ByteArray) (nL : Nat) (ret : Option FieldType) (n : Nat) : Prop := Cond.code y cc nL ret ∈ gwt ∧ Cond.initialized y.cls ∈ gwt ∧ (y.cls ≠ "java/lang/invoke/MethodHandle" ∧ y.cls ≠ "java/lang/invoke/VarHandle" ∧ (parseMethodDescriptor y.desc).map (fun d => d.parameters.length) = some n)
def MI (y : MethodName) : Prop := Cond.instanceMethod y ∈ gwt ∧ Cond.selects y.cls y y ∈ gwt
/-- a method of a class above: called by the name y0 on an object of C it's y that runs -/
def MU (C : String) (y0 y : MethodName) : Prop := Cond.instanceMethod y ∈ gwt ∧ Cond.selects C y0 y ∈ gwt ∧ Cond.sameMethod y0.cls y0.cls y0.name y0.desc ∈ gwt ∧ Cond.instanceMethod y0 ∈ gwt ∧ ∃ (b : ByteArray) (m : Nat) (r : Option FieldType), Cond.code y0 b m r ∈ gwt
/-- a method of the class above, called by 'super' -/
def MV (own : String) (y : MethodName) : Prop := Cond.instanceMethod y ∈ gwt ∧ Cond.superclass own y.cls ∈ gwt ∧ Cond.sameMethod y.cls y.cls y.name y.desc ∈ gwt ∧ y.name ≠ "<init>"
/-- a nest mate's field -/
def FLN (own : String) (idx ci : Nat) (j : Int) (ty : FieldType) (fin : Bool) : Prop := 0 ≤ j ∧ ftys ci j.toNat = ty ∧ ∃ (C : String) (T : u_T) (N : Nat) (host : String), CF ci C T N ∧ j.toNat < N ∧ Cond.fieldLinkNest own idx (T j.toNat).1 (T j.toNat).2.1 (T j.toNat).2.2.1 host ∈ nst ∧ (T j.toNat).2.2.2 = fin
def MC (y : MethodName) : Prop := Cond.instanceMethod y ∈ gwt ∧ y.name = "<init>"
def MS (y : MethodName) : Prop := Cond.static y ∈ gwt
def LK (own : String) (idx : Nat) (y : MethodName) : Prop := Cond.methodLink own idx y ∈ gwt
def LN (own : String) (idx : Nat) (y : MethodName) (host : String) : Prop := Cond.methodLinkNest own idx y host ∈ nst

