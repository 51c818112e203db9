/-! the start -/
/-- a private method of the class above -/
theorem xs_priv {C : String} {y y' : MethodName} {s : State} {args : Array Value} (hy : y.cls ≠ "java/lang/invoke/MethodHandle" ∧ y.cls ≠ "java/lang/invoke/VarHandle") (hyy : y'.cls = y.cls) (hs : (Cond.selects C y' y').before args s = true)
    (hpriv : (Cond.privateMethod y).before args s = true) (hinst : (Cond.instanceMethod y).before args s = true) : (Cond.selects C y y).before args s = true := by
  obtain ⟨c, r', m', hc, -, hm', -, k', hk', hni⟩ := Cond.selects_spec hs
  obtain ⟨mk, methM, hnamed, hmethM, -, -⟩ := Cond.instanceMethod_spec hinst
  have hfound : s.methodFound? y.cls y.name y.desc = some mk := State.methodFound?_of_named hnamed hy
  have hf' : s.vm.findClass y.cls = some m'.cls := by
    rw [← hyy]
    exact findClass_of_methodNamed hm'
  have hcls : mk.cls = m'.cls := Option.some.inj ((findClass_of_methodNamed hnamed).symm.trans hf')
  have hsel : selectMethod {} s.vm c mk = .method mk := selectMethod_private hmethM (Cond.privateMethod_at hpriv mk methM hnamed hmethM)
  simp only [Cond.before, Cond.holds, Cond.value, hc, hfound, hnamed, hsel, hcls, hk']
  simp
  exact hni
def ftE : FieldType → FieldType → Bool
  | .int, .int => true
  | .long, .long => true
  | .boolean, .boolean => true
  | .byte, .byte => true
  | _, _ => false
theorem ftE_eq {a c : FieldType} (h : ftE a c = true) : a = c := by
  cases a <;> cases c <;> first | rfl | exact absurd h (by decide) | (simp [ftE] at h)
def isRp : FieldType → Bool
  | .object _ => true
  | .array t => match t with
    | .int => true
    | .long => true
    | .boolean => true
    | .byte => true
    | _ => false
  | _ => false
theorem mkv_rp {V : VX} {ty : FieldType} {x : Int} (h : isRp ty = true) : mkv V ty x = vr V x := by
  cases ty with
  | object C => rfl
  | array t => cases t <;> first | rfl | (exact absurd h (by decide)) | (simp [isRp] at h)
  | _ => exact absurd h (by decide)
def frB (k : Nat) : Bool := match (SH []).getD k (.inl (0, [])), RSH.getD k (.inl (0, [])) with
  | .inl (ci, rs), .inl (ci', rs') => decide (ci = ci') && rs'.isEmpty && (List.range (fN ci)).all (fun j => !decide (0 ≤ rs.getD j (-1)) || (isRp (ftys ci j) && decide (INI k j = rs.getD j (-1))))
  | .inr (ty, n), .inr (ty', n') => ftE ty ty' && decide (n = n')
  | _, _ => false
set_option maxRecDepth 100000 in
theorem frB_ok : ∀ k, k < 136 → frB k = true := by decide +kernel
theorem fr_cE {V : VX} {F : Hp} {k : Nat} (hk : k < 136) (h : F (k : Int) = INI k) : cE V ((SH []).getD k (.inl (0, []))) (F (k : Int)) = cE V (RSH.getD k (.inl (0, []))) (F (k : Int)) := by
  have b := frB_ok k hk
  unfold frB at b
  generalize (SH []).getD k (.inl (0, [])) = g at *
  generalize RSH.getD k (.inl (0, [])) = g' at *
  rcases g with ⟨ci, rs⟩ | ⟨ty, n⟩
  · rcases g' with ⟨ci', rs'⟩ | ⟨ty', n'⟩
    · dsimp only at b
      rw [Bool.and_eq_true, Bool.and_eq_true, decide_eq_true_iff, List.isEmpty_iff] at b
      obtain ⟨⟨rfl, rfl⟩, b3⟩ := b
      unfold cE
      dsimp only
      congr 2
      refine List.map_congr_left (fun j hj => ?_)
      have c := List.all_eq_true.mp b3 j hj
      unfold fv
      by_cases q : 0 ≤ rs.getD j (-1)
      · rw [if_pos q, if_neg (by simp)]
        rw [Bool.or_eq_true, Bool.not_eq_true', decide_eq_false_iff_not, Bool.and_eq_true, decide_eq_true_iff] at c
        have c2 := c.resolve_left (fun z => z q)
        rw [mkv_rp c2.1, h, c2.2]
      · rw [if_neg q, if_neg (by simp)]
    · exact absurd (show false = true from b) (by decide)
  · rcases g' with ⟨ci', rs'⟩ | ⟨ty', n'⟩
    · exact absurd (show false = true from b) (by decide)
    · dsimp only at b
      rw [Bool.and_eq_true, decide_eq_true_iff] at b
      rw [ftE_eq b.1, b.2]
set_option maxRecDepth 100000 in
theorem R_frz {X : KX} {cs ss pc : Nat} {L : List (Option Value)} {st : List Value} {F : Hp} {Z : State → Prop} (h : ∀ a : Int, 0 ≤ a → a < 136 → F a = INI a) (k : R X (SH []) cs ss pc L st F Z) : R X (RSH.take 136) cs ss pc L st F Z := by
  have hR : RSH.take 136 = RSH := rfl
  have hl : RSH.length = (SH []).length := rfl
  rw [hR]
  intro hz H locs ls hP hS hL
  refine k (by rw [← hl]; exact hz) H locs ls ?_ hS hL
  have e : wl (xV X) (SH []) F = wl (xV X) RSH F := by
    unfold wl
    rw [hl]
    refine List.map_congr_left (fun j hj => ?_)
    have hj2 : j < 136 := by
      have := List.mem_range.mp hj
      rw [SH_len] at this
      exact this
    rw [fr_cE hj2 (h j (by omega) (by omega))]
  unfold HP at hP ⊢
  rw [e]
  exact hP
theorem ci_ini {F : Hp} (h : ∀ a : Int, 0 ≤ a → a < 136 → F a = INI a) : CI 40 23 4 0 F ∧ F 23 0 = 0 ∧ F 40 1 = 0 ∧ F 0 3 = 23 ∧ F 3 2 = 4 ∧ F 1 1 = 0 := by
  have e : ∀ a : Int, 0 ≤ a → a < 136 → ∀ i : Int, F a i = INI a i := fun a z1 z2 i => by rw [h a z1 z2]
  have n0 : F 23 0 = 0 := by rw [e 23 (by decide) (by decide)]; rfl
  have n13 : F 23 13 = 10 := by rw [e 23 (by decide) (by decide)]; rfl
  have n14 : F 23 14 = -1 := by rw [e 23 (by decide) (by decide)]; rfl
  have n12 : F (23 + 12) 0 = 0 := by rw [e (23 + 12) (by decide) (by decide)]; rfl
  have t1 : F 40 1 = 0 := by rw [e 40 (by decide) (by decide)]; rfl
  have t8 : F (40 + 8) 4 = 0 := by rw [e (40 + 8) (by decide) (by decide)]; rfl
  have t19 : F (40 + 19) 0 = 0 := by rw [e (40 + 19) (by decide) (by decide)]; rfl
  have c03 : F 0 3 = 23 := by rw [e 0 (by decide) (by decide)]; rfl
  have c32 : F 3 2 = 4 := by rw [e 3 (by decide) (by decide)]; rfl
  have c11 : F 1 1 = 0 := by rw [e 1 (by decide) (by decide)]; rfl
  have c88 : F 88 0 = 0 := by rw [e 88 (by decide) (by decide)]; rfl
  have c112 : F 112 0 = 0 := by rw [e 112 (by decide) (by decide)]; rfl
  have hSu : SuI 23 F := by
    unfold SuI Tr
    rw [n0, n13, n14, n12]
    exact ⟨by omega, fun n _ _ => by omega, fun n _ _ => by omega, fun n _ _ => by omega, fun n _ _ => by omega, fun n _ _ => by omega, fun n _ _ => by omega, fun n _ _ => by omega, by omega, by omega, by omega, fun n _ _ => by omega⟩
  have hSt : StA 40 23 0 F := ⟨hSu, fun n _ hn => by rw [n0] at hn; omega, ⟨by rw [t1]; omega, fun n _ hn => by rw [n0] at hn; omega, fun n _ hn => by rw [n0] at hn; omega⟩, ⟨by rw [t19]; omega, fun k _ hk => by rw [t19] at hk; omega⟩, fun n _ hn => by rw [n0] at hn; omega⟩
  refine ⟨?_, n0, t1, c03, c32, c11⟩
  unfold CI
  rw [c03, c32, c11, c88, c112]
  exact ⟨rfl, rfl, hSt, by decide, by omega, fun i _ _ => by omega, Or.inl rfl, Or.inl rfl, fun z => absurd z (by decide), fun z => absurd z (by decide)⟩

