/-- the reference's heap F holds the next token of the class's machine M -/
def Tok (M F : Hp) : Prop := F 136 15 = skpE M ∧ F 136 16 = tokE M ∧ F 136 17 = tokK M ∧ (tokK M = 1 → WdR (F 136 21) ∧ cvN (F 136 21) = tokW M) ∧ (tokK M = 2 → F 136 18 = tokN M)
theorem tok_next {M F : Hp} (h : TxR M F) (hp : M 21 0 = F 136 16) (hq : PQ F) (hg : F 136 19 = 0) : Tok M (sc F) := by
  obtain ⟨s1, s2, s3, s4, s5⟩ := tok_sim h hp hq.1
  obtain ⟨f1, f2, f3, f4, f5⟩ := scF_f F
  unfold Tok
  rw [show sc F = scF F from if_pos hg, f1, f2, f3, f4, f5, s1, s2, s3]
  exact ⟨rfl, rfl, rfl, fun z => ⟨⟨(s4 z).2.1, (s4 z).2.2⟩, (s4 z).1⟩, fun z => s5 z⟩
/-- the keyword at hand -/
def kwR (F : Hp) : Int := if F 136 17 = 1 then kwS (cvN (F 136 21)) else -1
theorem Tok.f {M F : Hp} (h : Tok M F) : scnS M 21 0 = F 136 16 ∧ scnS M 21 1 = F 136 17 ∧ scnS M 21 2 = F 136 15 ∧ scnS M 21 4 = kwR F ∧ (F 136 17 = 1 → WdR (F 136 21) ∧ scnS M 21 3 = cvN (F 136 21)) ∧ (F 136 17 = 2 → scnS M 21 5 = F 136 18) := by
  obtain ⟨t1, t2, t3, t4, t5⟩ := h
  obtain ⟨f0, f1, f2, f3, f4, f5⟩ := scn_f M
  refine ⟨f0.trans t2.symm, f1.trans t3.symm, f2.trans t1.symm, ?_, fun z => ?_, fun z => ?_⟩
  · unfold kwR
    by_cases q : tokK M = 1
    · rw [t3, if_pos q, (f3 q).2, (t4 q).2]
    · rw [t3, if_neg q, f4 q]
  · rw [t3] at z
    rw [(f3 z).1]
    exact ⟨(t4 z).1, (t4 z).2.symm⟩
  · rw [t3] at z
    rw [f5 z, t5 z]
theorem kw_r {F : Hp} (hw : F 136 17 = 1 → WdR (F 136 21)) : (stH F = if 0 ≤ kwR F ∧ kwR F ≤ 6 then kwR F else -2) ∧ (nmB F ↔ (F 136 17 = 1 ∧ kwR F = -1)) ∧ (wdB 474245 F ↔ kwR F = 7) ∧ (wdB 302 F ↔ kwR F = 8) ∧ (wdB 12891444 F ↔ kwR F = 9) ∧ (wdB 1253 F ↔ kwR F = 10) ∧ (wdB 52 F ↔ kwR F = 11) ∧ (-1 ≤ kwR F ∧ kwR F ≤ 11) := by
  unfold kwR
  by_cases q : F 136 17 = 1
  · rw [if_pos q]
    obtain ⟨k1, k2, k3, k4, k5, k6, k7⟩ := st_kw q (hw q)
    have hr := (kw_cv (hw q)).2
    exact ⟨k1, ⟨fun z => ⟨q, k2.mp z⟩, fun z => k2.mpr z.2⟩, k3, k4, k5, k6, k7, by omega⟩
  · rw [if_neg q]
    have hs : stH F = -2 := by unfold stH; rw [if_pos q]
    exact ⟨by rw [hs, if_neg (by omega)], ⟨fun z => absurd z.1 q, fun z => absurd z.1 q⟩, ⟨fun z => absurd z.1 q, fun z => by omega⟩, ⟨fun z => absurd z.1 q, fun z => by omega⟩, ⟨fun z => absurd z.1 q, fun z => by omega⟩, ⟨fun z => absurd z.1 q, fun z => by omega⟩, ⟨fun z => absurd z.1 q, fun z => by omega⟩, by omega⟩
/-- a step of the class's machine -/
def stp (v : Int) (M : Hp) : Hp := up (takS v (scnS M)).2 3 0 0
theorem stp_k {v a : Int} {M : Hp} (hv : isSu v) (h : a = 1 ∨ a = 2 ∨ a = 21) : stp v M a = scnS M a := by
  funext i
  unfold stp
  rw [up_k (by omega), tak_k hv (by omega)]
theorem stp_tx {v : Int} {M F : Hp} (hv : isSu v) (h : TxR M F) : TxR (stp v M) F := by
  unfold TxR at h ⊢
  rw [stp_k hv (Or.inl rfl), stp_k hv (Or.inr (Or.inl rfl)), scn_r (by decide), scn_r (by decide)]
  exact h
/-- the class's machine behind the token at hand, and the reference's next scan -/
theorem tok_stp {v : Int} {M F G : Hp} (hv : isSu v) (h : TxR M F) (ht : Tok M F) (hG : PQ G) (hg : G 136 19 = 0) (h14 : G 136 14 = F 136 14) (h16 : G 136 16 = F 136 16) (h6 : G 146 = F 146) : Tok (stp v M) (sc G) := by
  refine tok_next ?_ ?_ hG hg
  · have := stp_tx (v := v) hv h
    unfold TxR at this ⊢
    rw [h14, h6]
    exact this
  · rw [stp_k hv (by omega), ht.f.1, h16]

