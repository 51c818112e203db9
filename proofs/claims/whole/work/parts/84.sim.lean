theorem nb_nm {ch ch2 : Int → Int} {a : Int} : ∀ k : Nat, k ≤ 4 → (∀ i : Int, a ≤ i → i < a + k → ch2 i = ch i ∧ 48 ≤ ch i ∧ ch i ≤ 57) → nbQ ch a k = nmC ch2 a k ∧ 0 ≤ nmC ch2 a k ∧ nmC ch2 a k + 1 ≤ ((10 ^ k : Nat) : Int)
  | 0, _, _ => by simp [nbQ, nmC]
  | k + 1, hk, h => by
    obtain ⟨i1, i2, i3⟩ := nb_nm (ch := ch) (ch2 := ch2) (a := a) k (by omega) (fun i z1 z2 => h i z1 (by omega))
    have hc := h (a + k) (by omega) (by omega)
    have hp : 10 ^ k ≤ 10 ^ 3 := Nat.pow_le_pow_right (by decide) (by omega)
    have e : nbQ ch a (k + 1) = 10 * nbQ ch a k + ch (a + k) - 48 := if_neg (by omega)
    have e2 : nmC ch2 a (k + 1) = nmC ch2 a k * 10 + (ch2 (a + k) - 48) := rfl
    rw [e, e2, i1, hc.1, Nat.pow_succ]
    omega
theorem tok_sim {M F : Hp} (h : TxR M F) (hp : M 21 0 = F 136 16) (hq : TxQ F) : skpE M = rkE F ∧ tokE M = rtE F ∧ tokK M = rtK F ∧ (rtK F = 1 → cvN (rtW F) = tokW M ∧ 0 < rtW F ∧ ¬ rtW F % 32 = 0 ∧ LtW (rtW F)) ∧ (rtK F = 2 → rtN F = tokN M) := by
  have hk := rk_f hq
  have hl := rl_f hq
  have hd := rd_f hq
  have h0 := hq.2.2
  have e1 : skpE M = rkE F := by
    unfold skpE rkE
    rw [hp]
    exact tx_run h (fun x hx => (sb_l hx).1) h0.1
  have e2 : ltrE M = rlE F := by
    unfold ltrE rlE
    rw [e1]
    exact tx_run h (fun x hx => (sb_l hx).2.1) (by omega)
  have e3 : digE M = rdE F := by
    unfold digE rdE
    rw [e1]
    exact tx_run h (fun x hx => (sb_l hx).2.2.1) (by omega)
  by_cases q1 : F 136 14 ≤ rkE F
  · have a1 : tokE M = rtE F := by unfold tokE rtE; rw [e1, h.1, if_pos q1, if_pos q1]
    have a2 : tokK M = 0 := by unfold tokK; rw [e1, h.1, if_pos q1]
    have a3 : rtK F = 0 := by unfold rtK; rw [if_pos q1]
    rw [a2, a3]
    exact ⟨e1, a1, rfl, fun z => absurd z (by decide), fun z => absurd z (by decide)⟩
  · have hm := h.2.2 (rkE F) (by omega) (by omega)
    have hs := sb_l hm.2
    by_cases q2 : ltrB (F 146 (rkE F)) = true
    · have q2' : ltrB (M 2 (rkE F)) = true := by rw [hm.1, hs.2.1]; exact q2
      have a1 : tokE M = rlE F := by unfold tokE; rw [e1, h.1, if_neg q1, if_pos q2', e2]
      have b1 : rtE F = rlE F := by unfold rtE; rw [if_neg q1, if_pos q2]
      have a2 : tokK M = if rlE F - rkE F ≤ 8 then 1 else 4 := by unfold tokK; rw [e1, h.1, if_neg q1, if_pos q2', e2]
      have b2 : rtK F = if rlE F - rkE F ≤ 8 then 1 else 4 := by unfold rtK; rw [if_neg q1, if_pos q2]
      have b3 : rtW F = rwC (F 146) (rkE F) (rlE F - rkE F).toNat := by unfold rtW; rw [if_neg q1, if_pos q2]
      refine ⟨e1, a1.trans b1.symm, a2.trans b2.symm, fun z => ?_, fun z => ?_⟩
      · have q8 : rlE F - rkE F ≤ 8 := by rw [b2] at z; split at z; assumption; exact absurd z (by decide)
        have hne : rkE F < rlE F := by
          have e := rl_e (F := F)
          by_cases y : rkE F = rlE F
          · exact absurd ⟨by omega, y ▸ q2⟩ e
          · omega
        have hw := rw_wd (ch := F 146) (ch2 := M 2) (a := rkE F) (rlE F - rkE F).toNat (by omega) (fun i z1 z2 => by
          have t := ltrB_t.mp (runE_in _ _ i z1 (show i < rlE F by omega))
          have u := h.2.2 i (by omega) (by omega)
          refine ⟨?_, t.1, t.2⟩
          rw [u.1]
          unfold sb
          rw [if_pos (by omega)])
        unfold tokW cvN
        have hlt := rw_lt (ch := F 146) (a := rkE F) (rlE F - rkE F).toNat (by omega) (fun i z1 z2 => by
          have t := ltrB_t.mp (runE_in _ _ i z1 (show i < rlE F by omega))
          exact ⟨t.1, t.2⟩)
        rw [e1, a1, b3, hw.2.1, hw.1]
        exact ⟨rfl, (hw.2.2 (by omega)).1, (hw.2.2 (by omega)).2, fun j hj => hlt j (by rw [hw.2.1] at hj; exact hj)⟩
      · rw [b2] at z
        split at z <;> exact absurd z (by decide)
    · have q2' : ¬ ltrB (M 2 (rkE F)) = true := by rw [hm.1, hs.2.1]; exact q2
      by_cases q3 : dgtB (F 146 (rkE F)) = true
      · have q3' : dgtB (M 2 (rkE F)) = true := by rw [hm.1, hs.2.2.1]; exact q3
        have a1 : tokE M = rdE F := by unfold tokE; rw [e1, h.1, if_neg q1, if_neg q2', if_pos q3', e3]
        have b1 : rtE F = rdE F := by unfold rtE; rw [if_neg q1, if_neg q2, if_pos q3]
        have a2 : tokK M = if rdE F - rkE F ≤ 4 then 2 else 4 := by unfold tokK; rw [e1, h.1, if_neg q1, if_neg q2', if_pos q3', e3]
        have b2 : rtK F = if rdE F - rkE F ≤ 4 then 2 else 4 := by unfold rtK; rw [if_neg q1, if_neg q2, if_pos q3]
        have b3 : rtN F = nbQ (F 146) (rkE F) (rdE F - rkE F).toNat := by unfold rtN; rw [if_neg q1, if_neg q2, if_pos q3]
        refine ⟨e1, a1.trans b1.symm, a2.trans b2.symm, fun z => ?_, fun z => ?_⟩
        · rw [b2] at z
          split at z <;> exact absurd z (by decide)
        · have q4 : rdE F - rkE F ≤ 4 := by rw [b2] at z; split at z; assumption; exact absurd z (by decide)
          have hw := nb_nm (ch := F 146) (ch2 := M 2) (a := rkE F) (rdE F - rkE F).toNat (by omega) (fun i z1 z2 => by
            have t := dgtB_t.mp (runE_in _ _ i z1 (show i < rdE F by omega))
            have u := h.2.2 i (by omega) (by omega)
            refine ⟨?_, t.1, t.2⟩
            rw [u.1]
            unfold sb
            rw [if_pos (by omega)])
          unfold tokN
          rw [e1, a1, b3, hw.1]
      · have q3' : ¬ dgtB (M 2 (rkE F)) = true := by rw [hm.1, hs.2.2.1]; exact q3
        have a1 : tokE M = rkE F + 1 := by unfold tokE; rw [e1, h.1, if_neg q1, if_neg q2', if_neg q3']
        have b1 : rtE F = rkE F + 1 := by unfold rtE; rw [if_neg q1, if_neg q2, if_neg q3]
        have a2 : tokK M = if M 2 (rkE F) = 59 then 3 else 4 := by unfold tokK; rw [e1, h.1, if_neg q1, if_neg q2', if_neg q3']
        have b2 : rtK F = if F 146 (rkE F) = 59 then 3 else 4 := by unfold rtK; rw [if_neg q1, if_neg q2, if_neg q3]
        have c2 : tokK M = rtK F := by
          rw [a2, b2, hm.1]
          by_cases y : F 146 (rkE F) = 59
          · rw [if_pos y, if_pos (hs.2.2.2.mpr y)]
          · rw [if_neg y, if_neg (fun z => y (hs.2.2.2.mp z))]
        refine ⟨e1, a1.trans b1.symm, c2, fun z => ?_, fun z => ?_⟩ <;> (rw [b2] at z; split at z <;> exact absurd z (by decide))

