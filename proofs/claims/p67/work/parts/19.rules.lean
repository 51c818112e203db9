theorem R_lk01 {X : KX} {own : String} {cc : ByteArray} {nL fr lo mc ms : Nat} {ret : Option FieldType} {sh : Shp} {cs ss pc : Nat} {L : List (Option Value)} {st : List Value} {F : Hp} {Z : State → Prop} (hX : Ok X own cc nL ret fr lo mc ms) {x : Int} (hd : decode cc pc = .ok (.lookupswitch 37 #[(0, 27), (1, 32)], 27)) (hx : I32 x) (k0 : x = 0 → R X sh cs ss (pc + 27) L st F Z) (k1 : x = 1 → R X sh cs ss (pc + 32) L st F Z) (kd : x ≠ 0 ∧ x ≠ 1 → R X sh cs ss (pc + 37) L st F Z) : R X sh cs ss pc L (vi x :: st) F Z := by
  by_cases q0 : x = 0
  · exact R_lookup (off := 27) (tgt := pc + 27) hX hd hx (by decide) (by rw [q0]; decide) (by omega) (k0 q0)
  · by_cases q1 : x = 1
    · exact R_lookup (off := 32) (tgt := pc + 32) hX hd hx (by decide) (by rw [q1]; decide) (by omega) (k1 q1)
    · refine R_lookup (off := 37) (tgt := pc + 37) hX hd hx (by decide) ?_ (by omega) (kd ⟨q0, q1⟩)
      have e0 : ¬ (0 : Int) = x := fun z => q0 z.symm
      have e1 : ¬ (1 : Int) = x := fun z => q1 z.symm
      simp [Op.lookupswitch.offset, e0, e1, q0, q1]
def TbP (x : Int) (P : Int → Prop) : Int → List Int → Prop
  | _, [] => True
  | lo, o :: r => (x = lo → P o) ∧ TbP x P (lo + 1) r
theorem TbP.at {x : Int} {P : Int → Prop} : ∀ {l : List Int} {lo : Int} {j : Nat} {o : Int}, TbP x P lo l → l[j]? = some o → x = lo + j → P o
  | [], lo, j, o, _, h, _ => by simp at h
  | a :: l, lo, 0, o, h, h2, h3 => by simp at h2; subst h2; exact h.1 (by omega)
  | a :: l, lo, j + 1, o, h, h2, h3 => TbP.at (j := j) h.2 (by simpa using h2) (by omega)
theorem R_pc {X : KX} {own : String} {cc : ByteArray} {nL fr lo mc ms : Nat} {ret : Option FieldType} {sh : Shp} {cs ss pc : Nat} {L : List (Option Value)} {st : List Value} {F : Hp} {Z : State → Prop} {pc' : Nat} (h : pc' = pc) (k : R X sh cs ss pc L st F Z) : R X sh cs ss pc' L st F Z := by subst h; exact k
theorem R_tab {X : KX} {own : String} {cc : ByteArray} {nL fr lo mc ms : Nat} {ret : Option FieldType} {sh : Shp} {cs ss pc : Nat} {L : List (Option Value)} {st : List Value} {F : Hp} {Z : State → Prop} (hX : Ok X own cc nL ret fr lo mc ms) {x : Int} {dflt lo' hi : Int} {offs : List Int} {len : Nat} (hd : decode cc pc = .ok (.tableswitch dflt lo' hi offs.toArray, len)) (hx : I32 x) (hn : hi - lo' + 1 = offs.length) (hpos : 0 ≤ dflt ∧ ∀ o ∈ offs, 0 ≤ o) (kd : x < lo' ∨ hi < x → R X sh cs ss (pc + dflt.toNat) L st F Z) (k : TbP x (fun o => R X sh cs ss (pc + o.toNat) L st F Z) lo' offs) : R X sh cs ss pc L (vi x :: st) F Z := by
  by_cases q : x < lo' ∨ hi < x
  · exact R_switchOut hX hd hx q (by have := hpos.1; omega) (kd q)
  · have hl : (x - lo').toNat < offs.length := by omega
    have e : offs[(x - lo').toNat]? = some offs[(x - lo').toNat] := List.getElem?_eq_getElem hl
    exact R_switchIn hX hd hx (by omega) (by omega) (by rw [List.getElem?_toArray]; exact e) (by have := hpos.2 _ (List.getElem_mem hl); omega) (TbP.at k e (by omega))
theorem R_icmpneS {X : KX} {own : String} {cc : ByteArray} {nL fr lo mc ms : Nat} {ret : Option FieldType} {sh : Shp} {cs ss pc : Nat} {L : List (Option Value)} {st : List Value} {F : Hp} {Z : State → Prop} (hX : Ok X own cc nL ret fr lo mc ms) {x y : Int} {off : Int} {tgt : Nat} (hd : decode cc pc = .ok (.if_icmp .ne off, 3)) (ht : (pc : Int) + off = (tgt : Int)) (he : x = y) (kf : R X sh cs ss (pc + 3) L st F Z) : R X sh cs ss pc L (vi y :: vi x :: st) F Z := fun hz H locs ls hP hS hL => lv_icmp_ne hX.1 hX.2.1 hd ht (fun h => absurd (by rw [he]) h) (fun h => kf hz H locs ls hP hS hL)
