/-! the law's loop; the start -/
theorem lw_loop {X : KX} {Z : State → Prop} {b Ln : Nat} {f : Nat → Int32} (hW : LwX X b Ln f) (hLn : (Ln : Int) ≤ 3072) (hret : ∀ (j : Int) (G : Hp), R X SH 159 11283 1883 (LWl X b j) [vi 1] G Z) : ∀ (n : Nat) (i u v K : Int) (F : Hp), 0 ≤ i → i ≤ Ln → (Ln : Int) + 1 - i ≤ n → 0 ≤ K → 6 * K ≤ 99 * i → Gl u v K F → R X SH 159 11283 18 (LWl X b i) [] F Z
  | 0, i, u, v, K, F, h0, h1, hn, _, _, _ => by omega
  | n + 1, i, u, v, K, F, h0, h1, hn, hK0, hK1, h => by
    have hX := hW.1
    refine R_iload_3 hX dL_law_18 ?_
    refine R_aload_0_any hX dL_law_19 ?_
    refine R_slen hX hW.2.1 hW.2.2.1 hW.2.2.2 dL_law_20 ?_
    refine R_bipush hX dL_law_21 rfl ?_
    refine R_isub hX dL_law_23 ?_
    refine R_icmpgt (tgt := 1882) hX dL_law_24 (by decide) ⟨by omega, by omega⟩ ⟨by omega, by omega⟩ (fun c_24 => ?_) (fun c_24 => ?_)
    · refine R_iconst hX dL_law_1882 ?_
      exact hret i F
    · have hi : 0 ≤ i ∧ i + 6 ≤ Ln ∧ (Ln : Int) ≤ 3072 := by omega
      have hK : 0 ≤ K ∧ K + 99 ≤ 100000 := by omega
      have hk : ∀ (u1 v1 : Int) (G : Hp), Gl u1 v1 (K + 99) G → R X SH 159 11283 1876 (LWl X b i) [] G Z := fun u1 v1 G hg => by
        refine R_iinc_3 hX c1_r dL_law_1876 ?_
        refine R_goto (tgt := 18) hX dL_law_1879 (by decide) ?_
        exact lw_loop hW hLn hret n (i + 6) u1 v1 (K + 99) G (by omega) (by omega) (by omega) (by omega) (by omega) hg
      refine R_aload_0_any hX dL_law_27 ?_
      refine R_iload_3 hX dL_law_28 ?_
      refine R_sld hX hW.2.1 hW.2.2.1 hW.2.2.2 (by omega) (by omega) dL_law_29 ?_
      refine R_bipush hX dL_law_30 rfl ?_
      refine R_iand hX dL_law_32 ?_
      rw [iand_63]
      refine R_tab hX dL_law_33 ⟨by omega, by omega⟩ rfl (by decide) (fun z => by omega) ⟨fun _ => lwc_0 hW hi h hK hk, fun _ => lwc_1 hW hi h hK hk, fun _ => lwc_2 hW hi h hK hk, fun _ => lwc_3 hW hi h hK hk, fun _ => lwc_4 hW hi h hK hk, fun _ => lwc_5 hW hi h hK hk, fun _ => lwc_6 hW hi h hK hk, fun _ => lwc_7 hW hi h hK hk, fun _ => lwc_8 hW hi h hK hk, fun _ => lwc_9 hW hi h hK hk, fun _ => lwc_10 hW hi h hK hk, fun _ => lwc_11 hW hi h hK hk, fun _ => lwc_12 hW hi h hK hk, fun _ => lwc_13 hW hi h hK hk, fun _ => lwc_14 hW hi h hK hk, fun _ => lwc_15 hW hi h hK hk, fun _ => lwc_16 hW hi h hK hk, fun _ => lwc_17 hW hi h hK hk, fun _ => lwc_18 hW hi h hK hk, fun _ => lwc_19 hW hi h hK hk, fun _ => lwc_20 hW hi h hK hk, fun _ => lwc_21 hW hi h hK hk, fun _ => lwc_22 hW hi h hK hk, fun _ => lwc_23 hW hi h hK hk, fun _ => lwc_24 hW hi h hK hk, fun _ => lwc_25 hW hi h hK hk, fun _ => lwc_26 hW hi h hK hk, fun _ => lwc_27 hW hi h hK hk, fun _ => lwc_28 hW hi h hK hk, fun _ => lwc_29 hW hi h hK hk, fun _ => lwc_30 hW hi h hK hk, fun _ => lwc_31 hW hi h hK hk, fun _ => lwc_32 hW hi h hK hk, fun _ => lwc_33 hW hi h hK hk, fun _ => lwc_34 hW hi h hK hk, fun _ => lwc_35 hW hi h hK hk, fun _ => lwc_36 hW hi h hK hk, fun _ => lwc_37 hW hi h hK hk, fun _ => lwc_38 hW hi h hK hk, fun _ => lwc_39 hW hi h hK hk, fun _ => lwc_40 hW hi h hK hk, fun _ => lwc_41 hW hi h hK hk, fun _ => lwc_42 hW hi h hK hk, fun _ => lwc_43 hW hi h hK hk, fun _ => lwc_44 hW hi h hK hk, fun _ => lwc_45 hW hi h hK hk, fun _ => lwc_46 hW hi h hK hk, fun _ => lwc_47 hW hi h hK hk, fun _ => lwc_48 hW hi h hK hk, fun _ => lwc_49 hW hi h hK hk, fun _ => lwc_50 hW hi h hK hk, fun _ => lwc_51 hW hi h hK hk, fun _ => lwc_52 hW hi h hK hk, fun _ => lwc_53 hW hi h hK hk, fun _ => lwc_54 hW hi h hK hk, fun _ => lwc_55 hW hi h hK hk, fun _ => lwc_56 hW hi h hK hk, fun _ => lwc_57 hW hi h hK hk, fun _ => lwc_58 hW hi h hK hk, fun _ => lwc_59 hW hi h hK hk, fun _ => lwc_60 hW hi h hK hk, fun _ => lwc_61 hW hi h hK hk, fun _ => lwc_62 hW hi h hK hk, fun _ => lwc_63 hW hi h hK hk, trivial⟩
/-- a constructor's cells seen with their final references -/
def ftE : FieldType → FieldType → Bool
  | .int, .int => true
  | .long, .long => true
  | .boolean, .boolean => true
  | .byte, .byte => true
  | _, _ => false
theorem ftE_eq {a c : FieldType} (h : ftE a c = true) : a = c := by
  cases a <;> cases c <;> first | rfl | exact absurd h (by decide) | (simp [ftE] at h)
def frB (k : Nat) : Bool := match SH.getD k (.inl (0, [])), RSH.getD k (.inl (0, [])) with
  | .inl (ci, rs), .inl (ci', rs') => decide (ci = ci') && rs'.isEmpty && (List.range (fN ci)).all (fun j => !decide (0 ≤ rs.getD j (-1)) || (isRf (ftys ci j) && decide (INI k j = rs.getD j (-1))))
  | .inr (ty, n), .inr (ty', n') => ftE ty ty' && decide (n = n')
  | _, _ => false
theorem frB_ok : ∀ k, k < 159 → frB k = true := by decide +kernel
theorem mkv_rf {V : VX} {ty : FieldType} {x : Int} (h : isRf ty = true) : mkv V ty x = vr V x := by
  cases ty <;> first | rfl | (simp [isRf] at h)
theorem fr_cE {V : VX} {F : Hp} {k : Nat} (hk : k < 159) (h : F (k : Int) = INI k) : cE V (SH.getD k (.inl (0, []))) (F (k : Int)) = cE V (RSH.getD k (.inl (0, []))) (F (k : Int)) := by
  have b := frB_ok k hk
  unfold frB at b
  generalize SH.getD k (.inl (0, [])) = g at *
  generalize RSH.getD k (.inl (0, [])) = g' at *
  rcases g with ⟨ci, rs⟩ | ⟨ty, n⟩
  · rcases g' with ⟨ci', rs'⟩ | ⟨ty', n'⟩
    · dsimp only at b
      rw [Bool.and_eq_true, Bool.and_eq_true, decide_eq_true_iff, List.isEmpty_iff] at b
      obtain ⟨⟨rfl, rfl⟩, b3⟩ := b
      unfold cE
      dsimp only
      congr 2
      refine List.map_congr_left (fun j hj => ?_)
      have c := List.all_eq_true.mp b3 j hj
      unfold fv
      by_cases q : 0 ≤ rs.getD j (-1)
      · rw [if_pos q, if_neg (by simp)]
        rw [Bool.or_eq_true, Bool.not_eq_true', decide_eq_false_iff_not, Bool.and_eq_true, decide_eq_true_iff] at c
        have c2 := c.resolve_left (fun z => z q)
        rw [mkv_rf c2.1, h, c2.2]
      · rw [if_neg q, if_neg (by simp)]
    · exact absurd (show false = true from b) (by decide)
  · rcases g' with ⟨ci', rs'⟩ | ⟨ty', n'⟩
    · exact absurd (show false = true from b) (by decide)
    · dsimp only at b
      rw [Bool.and_eq_true, decide_eq_true_iff] at b
      rw [ftE_eq b.1, b.2]
theorem R_frz {X : KX} {cs ss pc : Nat} {L : List (Option Value)} {st : List Value} {F : Hp} {Z : State → Prop} (h : ∀ a : Int, 0 ≤ a → a < 159 → F a = INI a) (k : R X SH cs ss pc L st F Z) : R X (RSH.take 159) cs ss pc L st F Z := by
  have hR : RSH.take 159 = RSH := rfl
  have hl : RSH.length = SH.length := rfl
  rw [hR]
  intro hz H locs ls hP hS hL
  refine k (by rw [← hl]; exact hz) H locs ls ?_ hS hL
  have e : wl (xV X) SH F = wl (xV X) RSH F := by
    unfold wl
    rw [hl]
    refine List.map_congr_left (fun j hj => ?_)
    have hj2 : j < 159 := by
      have := List.mem_range.mp hj
      rw [SH_len] at this
      exact this
    rw [fr_cE hj2 (h j (by omega) (by omega))]
  unfold HP at hP ⊢
  rw [e]
  exact hP
/-- the relation at the start -/
theorem gl_ini {F : Hp} (h : ∀ a : Int, 0 ≤ a → a < 159 → F a = INI a) : Gl 23 4 0 F := by
  have e : ∀ a : Int, 0 ≤ a → a < 159 → ∀ i : Int, F a i = INI a i := fun a z1 z2 i => by rw [h a z1 z2]
  have n0 : F 23 0 = 0 := by rw [e 23 (by decide) (by decide)]; rfl
  have n13 : F 23 13 = 10 := by rw [e 23 (by decide) (by decide)]; rfl
  have n14 : F 23 14 = -1 := by rw [e 23 (by decide) (by decide)]; rfl
  have n12 : F (23 + 12) 0 = 0 := by rw [e (23 + 12) (by decide) (by decide)]; rfl
  have t1 : F 40 1 = 0 := by rw [e 40 (by decide) (by decide)]; rfl
  have t8 : F (40 + 8) 4 = 0 := by rw [e (40 + 8) (by decide) (by decide)]; rfl
  have t19 : F (40 + 19) 0 = 0 := by rw [e (40 + 19) (by decide) (by decide)]; rfl
  have z137 : ∀ i : Int, F 137 i = 0 := fun i => by rw [e 137 (by decide) (by decide)]; rfl
  have z140 : ∀ i : Int, F 140 i = 0 := fun i => by rw [e 140 (by decide) (by decide)]; rfl
  have z149 : ∀ i : Int, F 149 i = 0 := fun i => by rw [e 149 (by decide) (by decide)]; rfl
  have m3 : F 136 3 = 0 := by rw [e 136 (by decide) (by decide)]; rfl
  have m4 : F 136 4 = 10 := by rw [e 136 (by decide) (by decide)]; rfl
  have m5 : F 136 5 = -1 := by rw [e 136 (by decide) (by decide)]; rfl
  have m38 : F 136 38 = 0 := by rw [e 136 (by decide) (by decide)]; rfl
  have m14 : F 136 14 = 0 := by rw [e 136 (by decide) (by decide)]; rfl
  have m17 : F 136 17 = 0 := by rw [e 136 (by decide) (by decide)]; rfl
  have m18 : F 136 18 = 0 := by rw [e 136 (by decide) (by decide)]; rfl
  have m19 : F 136 19 = 0 := by rw [e 136 (by decide) (by decide)]; rfl
  have m20 : F 136 20 = -2 := by rw [e 136 (by decide) (by decide)]; rfl
  have m21 : F 136 21 = 0 := by rw [e 136 (by decide) (by decide)]; rfl
  have k0 : F 138 0 = 0 := by rw [e 138 (by decide) (by decide)]; rfl
  have k1 : F 138 1 = 0 := by rw [e 138 (by decide) (by decide)]; rfl
  have c03 : F 0 3 = 23 := by rw [e 0 (by decide) (by decide)]; rfl
  have c32 : F 3 2 = 4 := by rw [e 3 (by decide) (by decide)]; rfl
  have c30 : F 3 0 = 0 := by rw [e 3 (by decide) (by decide)]; rfl
  have c31 : F 3 1 = -2 := by rw [e 3 (by decide) (by decide)]; rfl
  have c11 : F 1 1 = 0 := by rw [e 1 (by decide) (by decide)]; rfl
  have c88 : F 88 0 = 0 := by rw [e 88 (by decide) (by decide)]; rfl
  have c112 : F 112 0 = 0 := by rw [e 112 (by decide) (by decide)]; rfl
  have hSu : SuI 23 F := by
    unfold SuI Tr
    rw [n0, n13, n14, n12]
    exact ⟨by omega, fun n _ _ => by omega, fun n _ _ => by omega, fun n _ _ => by omega, fun n _ _ => by omega, fun n _ _ => by omega, fun n _ _ => by omega, fun n _ _ => by omega, by omega, by omega, by omega, fun n _ _ => by omega⟩
  have hSt : StA 40 23 0 F := ⟨hSu, fun n _ hn => by rw [n0] at hn; omega, ⟨by rw [t1]; omega, fun n _ hn => by rw [n0] at hn; omega, fun n _ hn => by rw [n0] at hn; omega⟩, ⟨by rw [t19]; omega, fun k _ hk => by rw [t19] at hk; omega⟩, fun n _ hn => by rw [n0] at hn; omega⟩
  refine ⟨⟨⟨Or.inr rfl, Or.inl rfl⟩, by decide⟩, ?_, ?_, ?_, ?_, ?_, ?_, ?_, ?_⟩
  · unfold CI
    rw [c03, c32, c11, c88, c112]
    exact ⟨rfl, rfl, hSt, by decide, by omega, fun i _ _ => by omega, Or.inl rfl, Or.inl rfl, fun z => absurd z (by decide), fun z => absurd z (by decide)⟩
  · exact AgU.mk hSu (by rw [n0, m3]) (by rw [n13, m4]) (by rw [n14, m5]) (by rw [n12, m38]) (fun n _ hn => by rw [n0] at hn; omega) (fun k _ hk => by rw [n12] at hk; omega)
  · refine ⟨by rw [t1, vw_t, z137], by rw [t8, show (1000 : Int) + 8 = 1008 from rfl, vw_x, z137], by rw [t19, show (1000 : Int) + 19 = 1019 from rfl, vw_c, z137], fun n _ hn => by rw [n0] at hn; omega, fun n _ hn => by rw [n0] at hn; omega, fun n _ hn => by rw [n0] at hn; omega, fun k _ hk => by rw [t19] at hk; omega⟩
  · exact fun n _ hn => by rw [n0] at hn; omega
  · unfold Sn
    rw [k0, k1, c88, c112]
    exact ⟨rfl, rfl, fun z => absurd z (by decide), fun z => absurd z (by decide)⟩
  · unfold TxR
    rw [c11, m14]
    exact ⟨rfl, by omega, fun i _ _ => by omega⟩
  · rw [c30, c31, m19, m20]
    exact ⟨rfl, rfl⟩
  · unfold PZ
    rw [m14, m17, m18, m21]
    exact ⟨by omega, fun i _ _ => by omega, by omega, by omega, by omega, fun n _ _ => by rw [z140]; omega, fun i _ _ => by rw [z149]; omega⟩

