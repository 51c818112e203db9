set_option maxRecDepth 100000 in
set_option maxHeartbeats 4000000 in
theorem lw_law {X : KX} {Z : State → Prop} {T : Shp} {cs ss : Nat} {F : Hp} (hX : Ok X RL cL_law 10 (some .boolean) 20 600 600000 7302250) {b Ln : Nat} {f : Nat → Int32} (hA : va_X b Ln f (xs X) (xs X).heap) (hbV : b < vB (xV X)) (hLn : Ln ≤ 260) (h03 : F 0 3 = 23) (h32 : F 3 2 = 4) (h11 : F 1 1 = 0) (hc : cs ≤ 200 ∧ ss ≤ 5000)
    (hret : ∀ (T1 : Shp) (G : Hp) (c1 s1 : Nat) (turn : Int), (c1 ≤ 600000 ∧ s1 ≤ 7302250) → R X (SH T1) c1 s1 430 [some (.ref b), some (vr (xV X) 0), some (vi 1), some (vi turn), none, none, none, none, none, none] [vi 1] G Z) : R X (SH T) cs ss 110 [some (.ref b), some (vr (xV X) 0), some (vi 1), none, none, none, none, none, none, none] [] F Z := by
  refine R_iconst hX dL_law_110 ?_
  refine R_istore_3 hX c1_i dL_law_111 ?_
  have lp_112 : ∀ (n : Nat) (T1 : Shp) (G : Hp) (u : Int) (v : Int) (turn : Int) (c1 : Nat) (s1 : Nat), ((0 ≤ turn ∧ turn ≤ 5) ∧ (c1 ≤ 200 + 400 * turn.toNat ∧ s1 ≤ 5000 + 312000 * turn.toNat)) → (SS u v) → (G 0 3 = u ∧ G 3 2 = v ∧ G 1 1 = 0) → (6 - turn).toNat < n → R X (SH T1) c1 s1 112 [some (.ref b), some (vr (xV X) 0), some (vi 1), some (vi turn), none, none, none, none, none, none] [] G Z := by
    intro n
    induction n with
    | zero => intro T1 G u v turn c1 s1 iv112_0 iv112_1 iv112_2 hm; exact absurd hm (Nat.not_lt_zero _)
    | succ n ih_112 =>
      intro T1 G u v turn c1 s1 iv112_0 iv112_1 iv112_2 hm_112
      obtain ⟨g03, g32, g11⟩ := iv112_2
      refine R_iload_3 hX dL_law_112 ?_
      refine R_iconst hX dL_law_113 ?_
      refine R_icmpge (tgt := 429) hX dL_law_114 (by decide) ⟨by omega, by omega⟩ ⟨by omega, by omega⟩ (fun c_114 => ?_) (fun c_114 => ?_)
      · skip
        refine R_iload_2 hX dL_law_429 ?_
        exact hret _ _ _ _ _ (by omega)
      · skip
        refine R_iload_2 hX dL_law_117 ?_
        refine R_ifeq (tgt := 429) hX dL_law_118 (by decide) ⟨by omega, by omega⟩ (fun c_118 => ?_) (fun c_118 => ?_)
        · exact absurd c_118 (by decide)
        · skip
          have hz := iv112_0
          refine lw_new hX hA hbV hLn (turn := turn) (by omega) (by omega) (fun T2 G2 d t c2 s2 hdt hc2 hS2 hV2 hq2 => ?_)
          refine lw_mid hX hdt iv112_1 hS2.1 hV2.1 hV2.2.1 hV2.2.2.1 hV2.2.2.2 (by rw [hq2 0 (by decide)]; exact g03) (by rw [hq2 3 (by decide)]; exact g32) (by rw [hq2 1 (by decide)]; exact g11) (by omega) (fun g3 G3 c3 hc3 h3 => ?_)
          refine lw_req hX hdt hS2.1.up hS2.2.up h3.1 h3.2.1 h3.2.2.1 h3.2.2.2 (by omega) (fun T4 G4 c4 s4 hc4 h4 => ?_)
          refine R_iinc_3 hX c1_i dL_law_423 ?_
          refine R_goto (tgt := 112) hX dL_law_426 (by decide) ?_
          exact ih_112 _ _ v u _ _ _ (by omega) (by have hs := iv112_1; unfold SS at hs ⊢; omega) h4 (by omega)
  exact lp_112 7 _ _ 23 4 _ _ _ (by omega) (Or.inr ⟨rfl, rfl⟩) ⟨h03, h32, h11⟩ (by omega)
