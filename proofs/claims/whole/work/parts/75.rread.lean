/-! the reference's reader: heap functions -/
abbrev wdB (w : Int) (F : Hp) : Prop := F 136 17 = 1 ∧ F 136 21 = w
def stH (F : Hp) : Int := if ¬ F 136 17 = 1 then -2 else if F 136 21 = 591493 then 0 else if F 136 21 = 3398837703 then 1 else if F 136 21 = 2804340 then 2 else if F 136 21 = 119705908 then 3 else if F 136 21 = 777297172 then 4 else if F 136 21 = 569401484953 then 5 else if F 136 21 = 1457605 then 6 else -2
abbrev nmB (F : Hp) : Prop := F 136 17 = 1 ∧ stH F = -2 ∧ ¬ F 136 21 = 474245 ∧ ¬ F 136 21 = 302 ∧ ¬ F 136 21 = 12891444 ∧ ¬ F 136 21 = 1253 ∧ ¬ F 136 21 = 52
def hrS (F : Hp) : Int := fnF (F 140) (F 136 21) (F 136 22) 12 0
/-- what holds while the reference reads -/
def PQ (F : Hp) : Prop := TxQ F ∧ (0 ≤ F 136 19 ∧ F 136 19 ≤ 5) ∧ (0 ≤ F 136 17 ∧ F 136 17 ≤ 4) ∧ (0 ≤ F 136 18 ∧ F 136 18 ≤ 1000009) ∧ (0 ≤ F 136 21 ∧ F 136 21 < 1099511627776) ∧ (0 ≤ F 136 22 ∧ F 136 22 ≤ 12) ∧ (0 ≤ F 136 39 ∧ F 136 39 ≤ 12) ∧ (∀ n : Int, 0 ≤ n → n < 12 → 0 ≤ F 140 n ∧ F 140 n < 1099511627776) ∧ (F 136 25 = 0 ∨ F 136 25 = 1) ∧ (F 136 26 = 0 ∨ F 136 26 = 1) ∧ (∀ i : Int, 0 ≤ i → i < 84 → F 149 i = 0 ∨ F 149 i = 1)
theorem stH_rng (F : Hp) : stH F = -2 ∨ (F 136 17 = 1 ∧ 0 ≤ stH F ∧ stH F ≤ 6) := by
  unfold stH
  by_cases q : F 136 17 = 1
  · rw [if_neg (fun z => z q)]
    repeat' split
    all_goals omega
  · rw [if_pos q]; exact Or.inl rfl
theorem sc_r {F : Hp} {a i : Int} (h : a ≠ 136 ∨ (i ≠ 15 ∧ i ≠ 16 ∧ i ≠ 17 ∧ i ≠ 18 ∧ i ≠ 21)) : sc F a i = F a i := by
  unfold sc scF
  split
  · by_cases q : a = 136
    · subst q
      rw [up_i (by omega), scH_f (by omega)]
    · rw [up_k q, scH_k q]
  · rfl
theorem mu_r {g : Prop} [Decidable g] {c : Int} {F : Hp} {a i : Int} (h : a ≠ 136 ∨ (i ≠ 19 ∧ i ≠ 20)) : mu g c F a i = F a i := by
  unfold mu
  split
  · rw [up_n (by omega), up_n (by omega)]
  · rfl
theorem scF_f (F : Hp) : scF F 136 15 = rkE F ∧ scF F 136 16 = rtE F ∧ scF F 136 17 = rtK F ∧ scF F 136 18 = rtN F ∧ scF F 136 21 = rtW F := by
  unfold scF
  refine ⟨?_, ?_, ?_, ?_, ?_⟩
  · rw [up_i (by decide)]; rfl
  · rw [up_i (by decide)]; rfl
  · exact up_s
  · rw [up_i (by decide)]; rfl
  · rw [up_i (by decide)]; rfl
theorem rwC_rng {ch : Int → Int} {a : Int} : ∀ k : Nat, (∀ i : Int, a ≤ i → i < a + k → 97 ≤ ch i ∧ ch i ≤ 122) → 0 ≤ rwC ch a k ∧ rwC ch a k < ((32 ^ min k 8 : Nat) : Int)
  | 0, _ => by simp [rwC]
  | k + 1, h => by
    have ih := rwC_rng (ch := ch) (a := a) k (fun i z1 z2 => h i z1 (by omega))
    have hc := h (a + k) (by omega) (by omega)
    rw [show rwC ch a (k + 1) = if k < 8 then rwC ch a k * 32 + ch (a + k) - 96 else rwC ch a k from rfl]
    split
    · rename_i q
      rw [show min (k + 1) 8 = min k 8 + 1 by omega, p32_s]
      omega
    · rename_i q
      rw [show min (k + 1) 8 = min k 8 by omega]
      exact ih
theorem nbQ_rng {ch : Int → Int} {a : Int} : ∀ k : Nat, (∀ i : Int, a ≤ i → i < a + k → 48 ≤ ch i ∧ ch i ≤ 57) → 0 ≤ nbQ ch a k ∧ nbQ ch a k ≤ 1000009
  | 0, _ => by simp [nbQ]
  | k + 1, h => by
    have ih := nbQ_rng (ch := ch) (a := a) k (fun i z1 z2 => h i z1 (by omega))
    have hc := h (a + k) (by omega) (by omega)
    rw [show nbQ ch a (k + 1) = if 99999 < nbQ ch a k then nbQ ch a k else 10 * nbQ ch a k + ch (a + k) - 48 from rfl]
    split <;> omega
theorem rt_rng {F : Hp} (h : TxQ F) : (rkE F ≤ rtE F ∧ rtE F ≤ F 136 14) ∧ (0 ≤ rtK F ∧ rtK F ≤ 4) ∧ (0 ≤ rtN F ∧ rtN F ≤ 1000009) ∧ (0 ≤ rtW F ∧ rtW F < 1099511627776) ∧ (rtK F ≠ 0 → rkE F < F 136 14 ∧ rkE F < rtE F) ∧ (rtK F = 0 → rtE F = F 136 14) := by
  have hk := rk_f h
  have hl := rl_f h
  have hd := rd_f h
  unfold rtE rtK rtN rtW
  by_cases q1 : F 136 14 ≤ rkE F
  · simp only [if_pos q1]
    omega
  · by_cases q2 : ltrB (F 146 (rkE F)) = true
    · simp only [if_neg q1, if_pos q2]
      have hw := rwC_rng (ch := F 146) (a := rkE F) (rlE F - rkE F).toNat (fun i z1 z2 => ltrB_t.mp (runE_in _ _ i z1 (show i < rlE F by omega)))
      have hp : 32 ^ min (rlE F - rkE F).toNat 8 ≤ 32 ^ 8 := Nat.pow_le_pow_right (by decide) (by omega)
      have hne : rkE F < rlE F := by
        have e := rl_e (F := F)
        by_cases z : rkE F = rlE F
        · exact absurd ⟨by omega, z ▸ q2⟩ e
        · omega
      refine ⟨hl, by split <;> omega, by omega, by omega, fun _ => by omega, fun z => by split at z <;> exact absurd z (by decide)⟩
    · by_cases q3 : dgtB (F 146 (rkE F)) = true
      · simp only [if_neg q1, if_neg q2, if_pos q3]
        have hw := nbQ_rng (ch := F 146) (a := rkE F) (rdE F - rkE F).toNat (fun i z1 z2 => dgtB_t.mp (runE_in _ _ i z1 (show i < rdE F by omega)))
        have hne : rkE F < rdE F := by
          have e := rd_e (F := F)
          by_cases z : rkE F = rdE F
          · exact absurd ⟨by omega, z ▸ q3⟩ e
          · omega
        refine ⟨hd, by split <;> omega, by omega, by omega, fun _ => by omega, fun z => by split at z <;> exact absurd z (by decide)⟩
      · simp only [if_neg q1, if_neg q2, if_neg q3]
        refine ⟨by omega, by split <;> omega, by omega, by omega, fun _ => by omega, fun z => by split at z <;> exact absurd z (by decide)⟩
theorem PQ.sc {F : Hp} (h : PQ F) : PQ (sc F) := by
  obtain ⟨h1, h2, h3, h4, h5, h6, h7, h8, h9, h10, h11⟩ := id h
  have hr := rt_rng h1
  have hk := rk_f h1
  by_cases q : F 136 19 = 0
  · have e : Jvm.Pilot.CRateLimiterLaw_law_r9152_2bcaae.sc F = scF F := if_pos q
    have f := scF_f F
    have r : ∀ a i : Int, (a ≠ 136 ∨ (i ≠ 15 ∧ i ≠ 16 ∧ i ≠ 17 ∧ i ≠ 18 ∧ i ≠ 21)) → scF F a i = F a i := fun a i z => by rw [← e]; exact sc_r z
    have r6 : scF F 146 = F 146 := by funext i; exact r 146 i (by omega)
    have r0 : scF F 140 = F 140 := by funext i; exact r 140 i (by omega)
    have r9 : scF F 149 = F 149 := by funext i; exact r 149 i (by omega)
    rw [e]
    unfold PQ TxQ
    rw [f.2.1, f.2.2.1, f.2.2.2.1, f.2.2.2.2, r 136 14 (by omega), r 136 19 (by omega), r 136 22 (by omega), r 136 39 (by omega), r 136 25 (by omega), r 136 26 (by omega), r6, r0, r9]
    exact ⟨⟨h1.1, h1.2.1, by have := h1.2.2; omega⟩, h2, hr.2.1, hr.2.2.1, hr.2.2.2.1, h6, h7, h8, h9, h10, h11⟩
  · rw [show Jvm.Pilot.CRateLimiterLaw_law_r9152_2bcaae.sc F = F from if_neg q]
    exact h
theorem PQ.mu {g : Prop} [Decidable g] {c : Int} {F : Hp} (h : PQ F) (hc : 0 ≤ c ∧ c ≤ 5) : PQ (mu g c F) := by
  obtain ⟨h1, h2, h3, h4, h5, h6, h7, h8, h9, h10, h11⟩ := id h
  have r : ∀ a i : Int, (a ≠ 136 ∨ (i ≠ 19 ∧ i ≠ 20)) → Jvm.Pilot.CRateLimiterLaw_law_r9152_2bcaae.mu g c F a i = F a i := fun a i z => mu_r z
  have r6 : Jvm.Pilot.CRateLimiterLaw_law_r9152_2bcaae.mu g c F 146 = F 146 := by funext i; exact r 146 i (by omega)
  have r0 : Jvm.Pilot.CRateLimiterLaw_law_r9152_2bcaae.mu g c F 140 = F 140 := by funext i; exact r 140 i (by omega)
  have r9 : Jvm.Pilot.CRateLimiterLaw_law_r9152_2bcaae.mu g c F 149 = F 149 := by funext i; exact r 149 i (by omega)
  have h19 : 0 ≤ Jvm.Pilot.CRateLimiterLaw_law_r9152_2bcaae.mu g c F 136 19 ∧ Jvm.Pilot.CRateLimiterLaw_law_r9152_2bcaae.mu g c F 136 19 ≤ 5 := by
    unfold Jvm.Pilot.CRateLimiterLaw_law_r9152_2bcaae.mu
    split
    · rw [up_i (by decide), up_s]; split <;> omega
    · exact h2
  unfold PQ TxQ
  rw [r 136 14 (by omega), r 136 16 (by omega), r 136 17 (by omega), r 136 18 (by omega), r 136 21 (by omega), r 136 22 (by omega), r 136 39 (by omega), r 136 25 (by omega), r 136 26 (by omega), r6, r0, r9]
  exact ⟨h1, h19, h3, h4, h5, h6, h7, h8, h9, h10, h11⟩
set_option maxRecDepth 100000 in
set_option maxHeartbeats 4000000 in
theorem r_isWord {V : VX} {F : Hp} (h : PQ F) {w : Int} (hw : I64 w)  : Ct V yX12_isWord cX12_isWord 3 (some .boolean) 0 0 0 0 SH [vr V 136, vl w] F SH 1 (fun r F' => ((r = 1 ∧ (wdB w F)) ∨ (r = 0 ∧ ¬ (wdB w F))) ∧ F' = F) := by
  refine Ct.of [some (vr V 136), some (vl w), none] (by decide) (by simp [lg_sl, vi_cat, vl_cat, vr_cat]) rfl (by simp [asc, lv_args, vi_cat, vl_cat, vr_cat]) (fun X hV hX => ?_)
  subst hV
  obtain ⟨h1, h2, h3, h4, h5, h6, h7, h8, h9, h10, h11⟩ := id h
  refine R_aload_0 hX dX12_isWord_0 ?_
  refine R_geti hX dX12_isWord_1 fl_X12_116 o_136 rfl ?_
  refine R_iconst hX dX12_isWord_4 ?_
  refine R_icmpne (tgt := 21) hX dX12_isWord_5 (by decide) (by constructor <;> first | omega | (simp (disch := omega) only [up_k, up_i, up_s]; omega)) (by constructor <;> first | omega | (simp (disch := omega) only [up_k, up_i, up_s]; omega)) (fun c_5 => ?_) (fun c_5 => ?_)
  · skip
    have hw2 : ¬ (F 136 17 = 1 ∧ F 136 21 = w) := by first | omega | (intro z; unfold lc at c_14; rw [if_neg (by omega), if_pos z.2] at c_14; omega)
    refine R_iconst hX dX12_isWord_21 ?_
    exact R_zret hX (by omega) dX12_isWord_22 ⟨by unfold wdB; omega, rfl⟩
  · skip
    refine R_aload_0 hX dX12_isWord_8 ?_
    refine R_getl hX dX12_isWord_9 fl_X12_132 o_136 rfl ?_
    refine R_lload_1 hX dX12_isWord_12 ?_
    refine R_lcmp hX (by constructor <;> omega) hw dX12_isWord_13 ?_
    refine R_ifne (tgt := 21) hX dX12_isWord_14 (by decide) (by unfold lc; split <;> (try split) <;> constructor <;> omega) (fun c_14 => ?_) (fun c_14 => ?_)
    · skip
      have hw2 : ¬ (F 136 17 = 1 ∧ F 136 21 = w) := by first | omega | (intro z; unfold lc at c_14; rw [if_neg (by omega), if_pos z.2] at c_14; omega)
      refine R_iconst hX dX12_isWord_21 ?_
      exact R_zret hX (by omega) dX12_isWord_22 ⟨by unfold wdB; omega, rfl⟩
    · skip
      have hw1 : F 136 21 = w := by unfold lc at c_14; split at c_14 <;> (try split at c_14) <;> omega
      refine R_iconst hX dX12_isWord_17 ?_
      refine R_goto (tgt := 22) hX dX12_isWord_18 (by decide) ?_
      exact R_zret hX (by omega) dX12_isWord_22 ⟨by unfold wdB; omega, rfl⟩
set_option maxRecDepth 100000 in
set_option maxHeartbeats 4000000 in
theorem r_settingHere {V : VX} {F : Hp} (h : PQ F)  : Ct V yX12_settingHere cX12_settingHere 1 (some .int) 0 0 0 0 SH [vr V 136] F SH 1 (fun r F' => r = stH F ∧ F' = F) := by
  refine Ct.of [some (vr V 136)] (by decide) (by simp [lg_sl, vi_cat, vl_cat, vr_cat]) rfl (by simp [asc, lv_args, vi_cat, vl_cat, vr_cat]) (fun X hV hX => ?_)
  subst hV
  obtain ⟨h1, h2, h3, h4, h5, h6, h7, h8, h9, h10, h11⟩ := id h
  refine R_aload_0 hX dX12_settingHere_0 ?_
  refine R_geti hX dX12_settingHere_1 fl_X12_116 o_136 rfl ?_
  refine R_iconst hX dX12_settingHere_4 ?_
  refine R_icmpeq (tgt := 11) hX dX12_settingHere_5 (by decide) (by constructor <;> first | omega | (simp (disch := omega) only [up_k, up_i, up_s]; omega)) (by constructor <;> first | omega | (simp (disch := omega) only [up_k, up_i, up_s]; omega)) (fun c_5 => ?_) (fun c_5 => ?_)
  · skip
    refine R_aload_0 hX dX12_settingHere_11 ?_
    refine R_getl hX dX12_settingHere_12 fl_X12_132 o_136 rfl ?_
    refine R_ldc2 (n := 591493) hX k2_X12_147 rfl dX12_settingHere_15 ?_
    refine R_lcmp hX (by constructor <;> omega) (by constructor <;> omega) dX12_settingHere_18 ?_
    refine R_ifne (tgt := 24) hX dX12_settingHere_19 (by decide) (by unfold lc; split <;> (try split) <;> constructor <;> omega) (fun c_19 => ?_) (fun c_19 => ?_)
    · skip
      have n0 : ¬ F 136 21 = 591493 := by intro z; unfold lc at c_19; rw [if_neg (by omega), if_pos z] at c_19; omega
      refine R_aload_0 hX dX12_settingHere_24 ?_
      refine R_getl hX dX12_settingHere_25 fl_X12_132 o_136 rfl ?_
      refine R_ldc2 (n := 3398837703) hX k2_X12_149 rfl dX12_settingHere_28 ?_
      refine R_lcmp hX (by constructor <;> omega) (by constructor <;> omega) dX12_settingHere_31 ?_
      refine R_ifne (tgt := 37) hX dX12_settingHere_32 (by decide) (by unfold lc; split <;> (try split) <;> constructor <;> omega) (fun c_32 => ?_) (fun c_32 => ?_)
      · skip
        have n1 : ¬ F 136 21 = 3398837703 := by intro z; unfold lc at c_32; rw [if_neg (by omega), if_pos z] at c_32; omega
        refine R_aload_0 hX dX12_settingHere_37 ?_
        refine R_getl hX dX12_settingHere_38 fl_X12_132 o_136 rfl ?_
        refine R_ldc2 (n := 2804340) hX k2_X12_151 rfl dX12_settingHere_41 ?_
        refine R_lcmp hX (by constructor <;> omega) (by constructor <;> omega) dX12_settingHere_44 ?_
        refine R_ifne (tgt := 50) hX dX12_settingHere_45 (by decide) (by unfold lc; split <;> (try split) <;> constructor <;> omega) (fun c_45 => ?_) (fun c_45 => ?_)
        · skip
          have n2 : ¬ F 136 21 = 2804340 := by intro z; unfold lc at c_45; rw [if_neg (by omega), if_pos z] at c_45; omega
          refine R_aload_0 hX dX12_settingHere_50 ?_
          refine R_getl hX dX12_settingHere_51 fl_X12_132 o_136 rfl ?_
          refine R_ldc2 (n := 119705908) hX k2_X12_153 rfl dX12_settingHere_54 ?_
          refine R_lcmp hX (by constructor <;> omega) (by constructor <;> omega) dX12_settingHere_57 ?_
          refine R_ifne (tgt := 63) hX dX12_settingHere_58 (by decide) (by unfold lc; split <;> (try split) <;> constructor <;> omega) (fun c_58 => ?_) (fun c_58 => ?_)
          · skip
            have n3 : ¬ F 136 21 = 119705908 := by intro z; unfold lc at c_58; rw [if_neg (by omega), if_pos z] at c_58; omega
            refine R_aload_0 hX dX12_settingHere_63 ?_
            refine R_getl hX dX12_settingHere_64 fl_X12_132 o_136 rfl ?_
            refine R_ldc2 (n := 777297172) hX k2_X12_155 rfl dX12_settingHere_67 ?_
            refine R_lcmp hX (by constructor <;> omega) (by constructor <;> omega) dX12_settingHere_70 ?_
            refine R_ifne (tgt := 76) hX dX12_settingHere_71 (by decide) (by unfold lc; split <;> (try split) <;> constructor <;> omega) (fun c_71 => ?_) (fun c_71 => ?_)
            · skip
              have n4 : ¬ F 136 21 = 777297172 := by intro z; unfold lc at c_71; rw [if_neg (by omega), if_pos z] at c_71; omega
              refine R_aload_0 hX dX12_settingHere_76 ?_
              refine R_getl hX dX12_settingHere_77 fl_X12_132 o_136 rfl ?_
              refine R_ldc2 (n := 569401484953) hX k2_X12_157 rfl dX12_settingHere_80 ?_
              refine R_lcmp hX (by constructor <;> omega) (by constructor <;> omega) dX12_settingHere_83 ?_
              refine R_ifne (tgt := 89) hX dX12_settingHere_84 (by decide) (by unfold lc; split <;> (try split) <;> constructor <;> omega) (fun c_84 => ?_) (fun c_84 => ?_)
              · skip
                have n5 : ¬ F 136 21 = 569401484953 := by intro z; unfold lc at c_84; rw [if_neg (by omega), if_pos z] at c_84; omega
                refine R_aload_0 hX dX12_settingHere_89 ?_
                refine R_getl hX dX12_settingHere_90 fl_X12_132 o_136 rfl ?_
                refine R_ldc2 (n := 1457605) hX k2_X12_159 rfl dX12_settingHere_93 ?_
                refine R_lcmp hX (by constructor <;> omega) (by constructor <;> omega) dX12_settingHere_96 ?_
                refine R_ifne (tgt := 105) hX dX12_settingHere_97 (by decide) (by unfold lc; split <;> (try split) <;> constructor <;> omega) (fun c_97 => ?_) (fun c_97 => ?_)
                · skip
                  have n6 : ¬ F 136 21 = 1457605 := by intro z; unfold lc at c_97; rw [if_neg (by omega), if_pos z] at c_97; omega
                  refine R_bipush hX dX12_settingHere_105 (by decide) ?_
                  exact R_iret hX dX12_settingHere_107 (by first | exact ⟨by unfold stH; rw [if_neg (show ¬ ¬ F 136 17 = 1 by omega), if_neg n0, if_neg n1, if_neg n2, if_neg n3, if_neg n4, if_neg n5, if_pos y6], rfl⟩ | exact ⟨by unfold stH; rw [if_neg (show ¬ ¬ F 136 17 = 1 by omega), if_neg n0, if_neg n1, if_neg n2, if_neg n3, if_neg n4, if_neg n5, if_neg n6], rfl⟩)
                · skip
                  have y6 : F 136 21 = 1457605 := by unfold lc at c_97; split at c_97 <;> (try split at c_97) <;> omega
                  refine R_bipush hX dX12_settingHere_100 (by decide) ?_
                  refine R_goto (tgt := 107) hX dX12_settingHere_102 (by decide) ?_
                  exact R_iret hX dX12_settingHere_107 (by first | exact ⟨by unfold stH; rw [if_neg (show ¬ ¬ F 136 17 = 1 by omega), if_neg n0, if_neg n1, if_neg n2, if_neg n3, if_neg n4, if_neg n5, if_pos y6], rfl⟩ | exact ⟨by unfold stH; rw [if_neg (show ¬ ¬ F 136 17 = 1 by omega), if_neg n0, if_neg n1, if_neg n2, if_neg n3, if_neg n4, if_neg n5, if_neg n6], rfl⟩)
              · skip
                have y5 : F 136 21 = 569401484953 := by unfold lc at c_84; split at c_84 <;> (try split at c_84) <;> omega
                refine R_iconst hX dX12_settingHere_87 ?_
                exact R_iret hX dX12_settingHere_88 ⟨by unfold stH; rw [if_neg (show ¬ ¬ F 136 17 = 1 by omega), if_neg n0, if_neg n1, if_neg n2, if_neg n3, if_neg n4, if_pos y5], rfl⟩
            · skip
              have y4 : F 136 21 = 777297172 := by unfold lc at c_71; split at c_71 <;> (try split at c_71) <;> omega
              refine R_iconst hX dX12_settingHere_74 ?_
              exact R_iret hX dX12_settingHere_75 ⟨by unfold stH; rw [if_neg (show ¬ ¬ F 136 17 = 1 by omega), if_neg n0, if_neg n1, if_neg n2, if_neg n3, if_pos y4], rfl⟩
          · skip
            have y3 : F 136 21 = 119705908 := by unfold lc at c_58; split at c_58 <;> (try split at c_58) <;> omega
            refine R_iconst hX dX12_settingHere_61 ?_
            exact R_iret hX dX12_settingHere_62 ⟨by unfold stH; rw [if_neg (show ¬ ¬ F 136 17 = 1 by omega), if_neg n0, if_neg n1, if_neg n2, if_pos y3], rfl⟩
        · skip
          have y2 : F 136 21 = 2804340 := by unfold lc at c_45; split at c_45 <;> (try split at c_45) <;> omega
          refine R_iconst hX dX12_settingHere_48 ?_
          exact R_iret hX dX12_settingHere_49 ⟨by unfold stH; rw [if_neg (show ¬ ¬ F 136 17 = 1 by omega), if_neg n0, if_neg n1, if_pos y2], rfl⟩
      · skip
        have y1 : F 136 21 = 3398837703 := by unfold lc at c_32; split at c_32 <;> (try split at c_32) <;> omega
        refine R_iconst hX dX12_settingHere_35 ?_
        exact R_iret hX dX12_settingHere_36 ⟨by unfold stH; rw [if_neg (show ¬ ¬ F 136 17 = 1 by omega), if_neg n0, if_pos y1], rfl⟩
    · skip
      have y0 : F 136 21 = 591493 := by unfold lc at c_19; split at c_19 <;> (try split at c_19) <;> omega
      refine R_iconst hX dX12_settingHere_22 ?_
      exact R_iret hX dX12_settingHere_23 ⟨by unfold stH; rw [if_neg (show ¬ ¬ F 136 17 = 1 by omega), if_pos y0], rfl⟩
  · skip
    refine R_bipush hX dX12_settingHere_8 (by decide) ?_
    exact R_iret hX dX12_settingHere_10 ⟨by unfold stH; rw [if_pos (by omega)], rfl⟩
set_option maxRecDepth 100000 in
set_option maxHeartbeats 4000000 in
theorem r_isName {V : VX} {F : Hp} (h : PQ F)  : Ct V yX12_isName cX12_isName 1 (some .boolean) 1 20 0 0 SH [vr V 136] F SH 1 (fun r F' => ((r = 1 ∧ (nmB F)) ∨ (r = 0 ∧ ¬ (nmB F))) ∧ F' = F) := by
  refine Ct.of [some (vr V 136)] (by decide) (by simp [lg_sl, vi_cat, vl_cat, vr_cat]) rfl (by simp [asc, lv_args, vi_cat, vl_cat, vr_cat]) (fun X hV hX => ?_)
  subst hV
  obtain ⟨h1, h2, h3, h4, h5, h6, h7, h8, h9, h10, h11⟩ := id h
  have hsr := stH_rng F
  refine R_aload_0 hX dX12_isName_0 ?_
  refine R_geti hX dX12_isName_1 fl_X12_116 o_136 rfl ?_
  refine R_iconst hX dX12_isName_4 ?_
  refine R_icmpne (tgt := 76) hX dX12_isName_5 (by decide) (by constructor <;> first | omega | (simp (disch := omega) only [up_k, up_i, up_s]; omega)) (by constructor <;> first | omega | (simp (disch := omega) only [up_k, up_i, up_s]; omega)) (fun c_5 => ?_) (fun c_5 => ?_)
  · skip
    have hno : ¬ nmB F := by
      intro z
      first | omega | (unfold lc at c_25; split at c_25 <;> (try split at c_25) <;> omega) | (unfold lc at c_36; split at c_36 <;> (try split at c_36) <;> omega) | (unfold lc at c_47; split at c_47 <;> (try split at c_47) <;> omega) | (unfold lc at c_58; split at c_58 <;> (try split at c_58) <;> omega) | (unfold lc at c_69; split at c_69 <;> (try split at c_69) <;> omega)
    refine R_iconst hX dX12_isName_76 ?_
    exact R_zret hX (by omega) dX12_isName_77 ⟨by first | exact Or.inr ⟨rfl, hno⟩ | exact Or.inl ⟨rfl, by omega, by omega, n0, n1, n2, n3, n4⟩, rfl⟩
  · skip
    refine R_aload_0 hX dX12_isName_8 ?_
    refine R_v0i hX dX12_isName_9 li_X12_161 mk_X12_settingHere mi_X12_settingHere rfl o_136 (r_settingHere h) ⟨⟨by decide, by decide⟩, by decide, by decide, rfl, Nat.le_of_ble_eq_true rfl, rfl⟩ (fun x_9 F_9 h_9 => ?_)
    obtain ⟨h_9, e_9⟩ := h_9; replace e_9 := e_9.symm; subst e_9
    subst h_9
    refine R_bipush hX dX12_isName_12 (by decide) ?_
    refine R_icmpne (tgt := 76) hX dX12_isName_14 (by decide) (by constructor <;> first | omega | (simp (disch := omega) only [up_k, up_i, up_s]; omega)) (by constructor <;> first | omega | (simp (disch := omega) only [up_k, up_i, up_s]; omega)) (fun c_14 => ?_) (fun c_14 => ?_)
    · skip
      have hno : ¬ nmB F := by
        intro z
        first | omega | (unfold lc at c_25; split at c_25 <;> (try split at c_25) <;> omega) | (unfold lc at c_36; split at c_36 <;> (try split at c_36) <;> omega) | (unfold lc at c_47; split at c_47 <;> (try split at c_47) <;> omega) | (unfold lc at c_58; split at c_58 <;> (try split at c_58) <;> omega) | (unfold lc at c_69; split at c_69 <;> (try split at c_69) <;> omega)
      refine R_iconst hX dX12_isName_76 ?_
      exact R_zret hX (by omega) dX12_isName_77 ⟨by first | exact Or.inr ⟨rfl, hno⟩ | exact Or.inl ⟨rfl, by omega, by omega, n0, n1, n2, n3, n4⟩, rfl⟩
    · skip
      refine R_aload_0 hX dX12_isName_17 ?_
      refine R_getl hX dX12_isName_18 fl_X12_132 o_136 rfl ?_
      refine R_ldc2 (n := 474245) hX k2_X12_165 rfl dX12_isName_21 ?_
      refine R_lcmp hX (by constructor <;> omega) (by constructor <;> omega) dX12_isName_24 ?_
      refine R_ifeq (tgt := 76) hX dX12_isName_25 (by decide) (by unfold lc; split <;> (try split) <;> constructor <;> omega) (fun c_25 => ?_) (fun c_25 => ?_)
      · skip
        have hno : ¬ nmB F := by
          intro z
          first | omega | (unfold lc at c_25; split at c_25 <;> (try split at c_25) <;> omega) | (unfold lc at c_36; split at c_36 <;> (try split at c_36) <;> omega) | (unfold lc at c_47; split at c_47 <;> (try split at c_47) <;> omega) | (unfold lc at c_58; split at c_58 <;> (try split at c_58) <;> omega) | (unfold lc at c_69; split at c_69 <;> (try split at c_69) <;> omega)
        refine R_iconst hX dX12_isName_76 ?_
        exact R_zret hX (by omega) dX12_isName_77 ⟨by first | exact Or.inr ⟨rfl, hno⟩ | exact Or.inl ⟨rfl, by omega, by omega, n0, n1, n2, n3, n4⟩, rfl⟩
      · skip
        have n0 : ¬ F 136 21 = 474245 := by intro z; unfold lc at c_25; rw [if_neg (by omega), if_pos z] at c_25; omega
        refine R_aload_0 hX dX12_isName_28 ?_
        refine R_getl hX dX12_isName_29 fl_X12_132 o_136 rfl ?_
        refine R_ldc2 (n := 302) hX k2_X12_167 rfl dX12_isName_32 ?_
        refine R_lcmp hX (by constructor <;> omega) (by constructor <;> omega) dX12_isName_35 ?_
        refine R_ifeq (tgt := 76) hX dX12_isName_36 (by decide) (by unfold lc; split <;> (try split) <;> constructor <;> omega) (fun c_36 => ?_) (fun c_36 => ?_)
        · skip
          have hno : ¬ nmB F := by
            intro z
            first | omega | (unfold lc at c_25; split at c_25 <;> (try split at c_25) <;> omega) | (unfold lc at c_36; split at c_36 <;> (try split at c_36) <;> omega) | (unfold lc at c_47; split at c_47 <;> (try split at c_47) <;> omega) | (unfold lc at c_58; split at c_58 <;> (try split at c_58) <;> omega) | (unfold lc at c_69; split at c_69 <;> (try split at c_69) <;> omega)
          refine R_iconst hX dX12_isName_76 ?_
          exact R_zret hX (by omega) dX12_isName_77 ⟨by first | exact Or.inr ⟨rfl, hno⟩ | exact Or.inl ⟨rfl, by omega, by omega, n0, n1, n2, n3, n4⟩, rfl⟩
        · skip
          have n1 : ¬ F 136 21 = 302 := by intro z; unfold lc at c_36; rw [if_neg (by omega), if_pos z] at c_36; omega
          refine R_aload_0 hX dX12_isName_39 ?_
          refine R_getl hX dX12_isName_40 fl_X12_132 o_136 rfl ?_
          refine R_ldc2 (n := 12891444) hX k2_X12_169 rfl dX12_isName_43 ?_
          refine R_lcmp hX (by constructor <;> omega) (by constructor <;> omega) dX12_isName_46 ?_
          refine R_ifeq (tgt := 76) hX dX12_isName_47 (by decide) (by unfold lc; split <;> (try split) <;> constructor <;> omega) (fun c_47 => ?_) (fun c_47 => ?_)
          · skip
            have hno : ¬ nmB F := by
              intro z
              first | omega | (unfold lc at c_25; split at c_25 <;> (try split at c_25) <;> omega) | (unfold lc at c_36; split at c_36 <;> (try split at c_36) <;> omega) | (unfold lc at c_47; split at c_47 <;> (try split at c_47) <;> omega) | (unfold lc at c_58; split at c_58 <;> (try split at c_58) <;> omega) | (unfold lc at c_69; split at c_69 <;> (try split at c_69) <;> omega)
            refine R_iconst hX dX12_isName_76 ?_
            exact R_zret hX (by omega) dX12_isName_77 ⟨by first | exact Or.inr ⟨rfl, hno⟩ | exact Or.inl ⟨rfl, by omega, by omega, n0, n1, n2, n3, n4⟩, rfl⟩
          · skip
            have n2 : ¬ F 136 21 = 12891444 := by intro z; unfold lc at c_47; rw [if_neg (by omega), if_pos z] at c_47; omega
            refine R_aload_0 hX dX12_isName_50 ?_
            refine R_getl hX dX12_isName_51 fl_X12_132 o_136 rfl ?_
            refine R_ldc2 (n := 1253) hX k2_X12_171 rfl dX12_isName_54 ?_
            refine R_lcmp hX (by constructor <;> omega) (by constructor <;> omega) dX12_isName_57 ?_
            refine R_ifeq (tgt := 76) hX dX12_isName_58 (by decide) (by unfold lc; split <;> (try split) <;> constructor <;> omega) (fun c_58 => ?_) (fun c_58 => ?_)
            · skip
              have hno : ¬ nmB F := by
                intro z
                first | omega | (unfold lc at c_25; split at c_25 <;> (try split at c_25) <;> omega) | (unfold lc at c_36; split at c_36 <;> (try split at c_36) <;> omega) | (unfold lc at c_47; split at c_47 <;> (try split at c_47) <;> omega) | (unfold lc at c_58; split at c_58 <;> (try split at c_58) <;> omega) | (unfold lc at c_69; split at c_69 <;> (try split at c_69) <;> omega)
              refine R_iconst hX dX12_isName_76 ?_
              exact R_zret hX (by omega) dX12_isName_77 ⟨by first | exact Or.inr ⟨rfl, hno⟩ | exact Or.inl ⟨rfl, by omega, by omega, n0, n1, n2, n3, n4⟩, rfl⟩
            · skip
              have n3 : ¬ F 136 21 = 1253 := by intro z; unfold lc at c_58; rw [if_neg (by omega), if_pos z] at c_58; omega
              refine R_aload_0 hX dX12_isName_61 ?_
              refine R_getl hX dX12_isName_62 fl_X12_132 o_136 rfl ?_
              refine R_ldc2 (n := 52) hX k2_X12_173 rfl dX12_isName_65 ?_
              refine R_lcmp hX (by constructor <;> omega) (by constructor <;> omega) dX12_isName_68 ?_
              refine R_ifeq (tgt := 76) hX dX12_isName_69 (by decide) (by unfold lc; split <;> (try split) <;> constructor <;> omega) (fun c_69 => ?_) (fun c_69 => ?_)
              · skip
                have hno : ¬ nmB F := by
                  intro z
                  first | omega | (unfold lc at c_25; split at c_25 <;> (try split at c_25) <;> omega) | (unfold lc at c_36; split at c_36 <;> (try split at c_36) <;> omega) | (unfold lc at c_47; split at c_47 <;> (try split at c_47) <;> omega) | (unfold lc at c_58; split at c_58 <;> (try split at c_58) <;> omega) | (unfold lc at c_69; split at c_69 <;> (try split at c_69) <;> omega)
                refine R_iconst hX dX12_isName_76 ?_
                exact R_zret hX (by omega) dX12_isName_77 ⟨by first | exact Or.inr ⟨rfl, hno⟩ | exact Or.inl ⟨rfl, by omega, by omega, n0, n1, n2, n3, n4⟩, rfl⟩
              · skip
                have n4 : ¬ F 136 21 = 52 := by intro z; unfold lc at c_69; rw [if_neg (by omega), if_pos z] at c_69; omega
                refine R_iconst hX dX12_isName_72 ?_
                refine R_goto (tgt := 77) hX dX12_isName_73 (by decide) ?_
                exact R_zret hX (by omega) dX12_isName_77 ⟨by first | exact Or.inr ⟨rfl, hno⟩ | exact Or.inl ⟨rfl, by omega, by omega, n0, n1, n2, n3, n4⟩, rfl⟩
set_option maxRecDepth 100000 in
set_option maxHeartbeats 4000000 in
theorem r_here {V : VX} {F : Hp} (h : PQ F)  : Ct V yX12_here cX12_here 2 (some .int) 0 0 0 0 SH [vr V 136] F SH 1 (fun r F' => r = hrS F ∧ F' = F) := by
  refine Ct.of [some (vr V 136), none] (by decide) (by simp [lg_sl, vi_cat, vl_cat, vr_cat]) rfl (by simp [asc, lv_args, vi_cat, vl_cat, vr_cat]) (fun X hV hX => ?_)
  subst hV
  obtain ⟨h1, h2, h3, h4, h5, h6, h7, h8, h9, h10, h11⟩ := id h
  refine R_iconst hX dX12_here_0 ?_
  refine R_istore_1 hX c1_r dX12_here_1 ?_
  have lp_2 : ∀ (n : Nat) (x : Int), (0 ≤ x ∧ x ≤ F 136 22) → (∀ j : Int, 0 ≤ j → j < x → F 140 j ≠ F 136 21) → (13 - x).toNat < n → R X SH 0 0 2 [some (vr (xV X) 136), some (vi x)] [] F (Zq X SH 1 (fun r F' => r = hrS F ∧ F' = F) 0 0) := by
    intro n
    induction n with
    | zero => intro x iv2_0 iv2_1 hm; exact absurd hm (Nat.not_lt_zero _)
    | succ n ih_2 =>
      intro x iv2_0 iv2_1 hm_2
      refine R_iload_1 hX dX12_here_2 ?_
      refine R_aload_0 hX dX12_here_3 ?_
      refine R_geti hX dX12_here_4 fl_X12_182 o_136 rfl ?_
      refine R_icmpge (tgt := 32) hX dX12_here_7 (by decide) (by constructor <;> first | omega | (simp (disch := omega) only [up_k, up_i, up_s]; omega)) (by constructor <;> first | omega | (simp (disch := omega) only [up_k, up_i, up_s]; omega)) (fun c_7 => ?_) (fun c_7 => ?_)
      · skip
        refine R_bipush hX dX12_here_32 (by decide) ?_
        exact R_iret hX dX12_here_34 ⟨by unfold hrS; rw [fnF_none 12 0 (fun j z0 z1 => iv2_1 j z0 (by omega))], rfl⟩
      · skip
        refine R_aload_0 hX dX12_here_10 ?_
        refine R_getq (v := 140) hX dX12_here_11 fl_X12_28 o_136 rfl (by omega) ?_
        refine R_iload_1 hX dX12_here_14 ?_
        refine R_lald hX dX12_here_15 a_140 ⟨by omega, by omega⟩ ?_
        refine R_aload_0 hX dX12_here_16 ?_
        refine R_getl hX dX12_here_17 fl_X12_132 o_136 rfl ?_
        refine R_lcmp hX (by have := h8 x (by omega) (by omega); constructor <;> omega) (by constructor <;> omega) dX12_here_20 ?_
        refine R_ifne (tgt := 26) hX dX12_here_21 (by decide) (by have := h8 x (by omega) (by omega); unfold lc; split <;> (try split) <;> constructor <;> omega) (fun c_21 => ?_) (fun c_21 => ?_)
        · skip
          have hne : F 140 x ≠ F 136 21 := by intro z; unfold lc at c_21; rw [if_neg (by omega), if_pos z] at c_21; omega
          refine R_iinc_1 hX c1_r dX12_here_26 ?_
          refine R_goto (tgt := 2) hX dX12_here_29 (by decide) ?_
          exact ih_2 (x + 1) (by omega) (fun j h0 h1 => by by_cases z : j = x; (rw [z]; exact hne); exact iv2_1 j h0 (by omega)) (by omega)
        · skip
          have heq : F 140 x = F 136 21 := by unfold lc at c_21; split at c_21 <;> (try split at c_21) <;> omega
          refine R_iload_1 hX dX12_here_24 ?_
          exact R_iret hX dX12_here_25 ⟨by unfold hrS; rw [fnF_hit 12 0 (by omega) (by omega) (by omega) heq (fun j z0 z1 => iv2_1 j z0 z1)], rfl⟩
  exact lp_2 14 0 (by omega) (fun j h0 h1 => by omega) (by omega)
