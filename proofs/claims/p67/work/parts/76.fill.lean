theorem SH13 : ∀ i : Nat, i < 136 → (match (SH [])[i]? with | some (.inl (ci, _)) => decide (ci < 12) | _ => true) = true := by decide +kernel
theorem isO.ge {T : Shp} {k : Int} {ci : Nat} {rs : List Int} (h : isO (SH T) k ci rs) (hc : 12 ≤ ci) : 136 ≤ k := by
  by_cases q : 136 ≤ k
  · exact q
  · exfalso
    have h0 := h.1
    have h1 := SH13 k.toNat (by omega)
    have e : SH T = SH [] ++ T := by rw [SH_app]; rfl
    have h2 := h.2
    rw [e, List.getElem?_append_left (by rw [SH_len]; show k.toNat < 136 + 0; omega)] at h2
    rw [h2] at h1
    simp at h1
    omega
theorem St.fr {T g : Shp} {F F' : Hp} {c a : Int} {l : List Int} (h : St T F c l) (ha : 136 + (T.length : Int) ≤ a) (hq : ∀ q : Int, 136 ≤ q → q ≠ a → F' q = F q) : St (T ++ g) F' c l := by
  obtain ⟨hc0, hcd, w, hw, hb, hlen, hl⟩ := h
  have h1 := hc0.ge (by omega)
  have h2 := hc0.ltT
  have h3 := hb.ltT
  have e1 := hq c h1 (by omega)
  have e2 := hq w hlen.2 (by omega)
  exact ⟨hc0.up, by rw [e1]; exact hcd, w, by rw [e1]; exact hw, hb.up, hlen, fun i q0 q1 => by rw [e2]; exact hl i q0 q1⟩
def APa (F : Hp) (a : Int) (G : Hp) (c : Int → Int) (n : Int) : Prop := AP (row F a (G a)) G c n
theorem APa.rw {F G H : Hp} {a n : Int} {c : Int → Int} (h : APa F a G c n) (ha : 136 ≤ a) (hq : ∀ q : Int, q ≠ a → H q = G q) : APa F a H c n := by
  unfold APa AP at h ⊢
  rw [row_r (show 1 ≠ a by omega), row_r (show 2 ≠ a by omega)] at h ⊢
  rw [hq 1 (by omega), hq 2 (by omega)]
  refine ⟨h.1, h.2.1, h.2.2.1, h.2.2.2.1, fun q h1 h2 => ?_⟩
  by_cases e : q = a
  · subst e
    rw [row_s]
  · rw [row_r e, hq q e, h.2.2.2.2 q h1 h2, row_r e]
theorem APa.fd {l : List Int} {F G : Hp} {a k : Int} (hA : Asc l) (h : APa F a G (tch l) k) (ha : 136 ≤ a) (hk : 0 ≤ k) (hw : WK l (G a) k 20) : APa F a (apS (G a 4) 4 (apS (G a 3) 4 (apS (G a 2) 4 (apS (G a 1) 4 (apS (G a 0) 4 G))))) (tch l) (k + 20) := by
  have g := feed5 hA h hk hw
  unfold APa
  have e : (apS (G a 4) 4 (apS (G a 3) 4 (apS (G a 2) 4 (apS (G a 1) 4 (apS (G a 0) 4 G))))) a = G a := by
    rw [g.2.2.2.2 a (by omega) (by omega), row_s]
  rw [e]
  exact g
theorem APa.len {F G : Hp} {a n : Int} {c : Int → Int} (h : APa F a G c n) (ha : 136 ≤ a) (h0 : F 1 1 = 0) : G 1 1 = n ∧ (∀ i : Int, 0 ≤ i → i < n → G 2 i = c i) ∧ (∀ j : Int, j ≠ 1 → G 1 j = F 1 j) ∧ ∀ q : Int, q ≠ 1 → q ≠ 2 → q ≠ a → G q = F q := by
  unfold APa AP at h
  rw [row_r (show 1 ≠ a by omega), row_r (show 2 ≠ a by omega), h0] at h
  refine ⟨by have := h.1; omega, fun i h1 h2 => ?_, h.2.2.2.1, fun q h1 h2 h3 => by rw [h.2.2.2.2 q h1 h2, row_r h3]⟩
  have := h.2.1 i h1 h2
  rw [Int.zero_add] at this
  exact this
theorem APa.z {F : Hp} {a : Int} {c f : Int → Int} : APa F a (row F a f) c 0 := by
  unfold APa
  rw [row_s]
  exact AP.z
theorem tch_in {l : List Int} (hA : Asc l) {i : Int} (h : 0 ≤ i ∧ i < l.length) : iand (l.getD i.toNat 0) 255 = tch l i := by
  have := hA i.toNat (by omega)
  rw [iand_255]
  unfold tch
  rw [if_pos h]
  omega
theorem tch_out {l : List Int} {i : Int} (h : ¬ (i < l.length)) : tch l i = 0 := if_neg (by omega)
set_option maxRecDepth 100000 in
set_option maxHeartbeats 4000000 in
theorem e_fill {V : VX} {T : Shp} {F : Hp} {c : Int} {l : List Int} (hs : St T F c l) (hA : Asc l) (h0 : F 1 1 = 0) (hl : l.length ≤ 860) : CtE V yL_fill cL_fill 5 (some .boolean) 4 85 1 5 (SH T) [vr V 0, vr V c] F 1 (fun r s F' => ∃ g, s = SH (T ++ g) ∧ (r = 1 ∧ F' 1 1 = l.length ∧ (∀ i : Int, 0 ≤ i → i < l.length → F' 2 i = tch l i) ∧ (∀ j : Int, j ≠ 1 → F' 1 j = F 1 j) ∧ ∀ q : Int, q ≠ 1 → q ≠ 2 → q < 136 + T.length → F' q = F q)) := by
  refine CtE.of [some (vr V 0), some (vr V c), none, none, none] (by decide) (by simp [lg_sl, vi_cat, vl_cat, vr_cat, rf_cat]) rfl (by simp [asc, lv_args, vi_cat, vl_cat, vr_cat, rf_cat]) (fun X hV hX => ?_)
  subst hV
  refine R_iconst hX dL_fill_0 ?_
  refine R_newaT (ty := .int) hX rfl (Or.inl rfl) ac_int ⟨by omega, by omega⟩ (m := 5) rfl ⟨by omega, by omega⟩ dL_fill_1 (fun n_1 hn_1 => ?_)
  obtain ⟨a, han⟩ : ∃ a, a = n_1 := ⟨_, rfl⟩
  rw [← han] at hn_1 ⊢
  have haw : isA (SH (T ++ [.inr (.int, 5)])) a .int 5 := isA.newT (by decide) hn_1
  have h136 : 136 ≤ a := by omega
  refine R_astore_2 hX c1_r dL_fill_3 ?_
  refine R_iconst hX dL_fill_4 ?_
  refine R_istore_3 hX c1_r dL_fill_5 ?_
  have lp_6 : ∀ (n : Nat) (G : Hp) (k : Int), (0 ≤ k ∧ k < l.length + 20) → (APa F a G (tch l) k) → (900 - k).toNat < n → R X (SH (T ++ [.inr (.int, 5)])) 1 5 6 [some (vr (xV X) 0), some (vr (xV X) c), some (vr (xV X) a), some (vi k), none] [] G (ZE X 1 (fun r s F' => ∃ g, s = SH (T ++ g) ∧ (r = 1 ∧ F' 1 1 = l.length ∧ (∀ i : Int, 0 ≤ i → i < l.length → F' 2 i = tch l i) ∧ (∀ j : Int, j ≠ 1 → F' 1 j = F 1 j) ∧ ∀ q : Int, q ≠ 1 → q ≠ 2 → q < 136 + T.length → F' q = F q)) 1 5) := by
    intro n
    induction n with
    | zero => intro G k iv6_0 iv6_1 hm; exact absurd hm (Nat.not_lt_zero _)
    | succ n ih_6 =>
      intro G k iv6_0 iv6_1 hm_6
      have hP := iv6_1
      have hap := hP.len h136 h0
      have hsx : St (T ++ [.inr (.int, 5)]) G c l := hs.fr (a := a) (by omega) (fun q h1 h2 => hap.2.2.2 q (by omega) (by omega) h2)
      refine R_iload_3 hX dL_fill_6 ?_
      refine R_aload_1 hX dL_fill_7 ?_
      refine R_v0i hX dL_fill_8 li_L_14 mk_J0_length_8abf5 mi_J0_length_8abf5 rfl (hs.1.up) (c_lenD hsx) ⟨⟨by decide, by decide⟩, by omega, by omega, rfl, Nat.le_of_ble_eq_true rfl, rfl⟩ (fun x_8 F_8 h_8 => ?_)
      obtain ⟨h_8, e_8⟩ := h_8; replace e_8 := e_8.symm; subst e_8
      subst h_8
      refine R_icmpge (tgt := 99) hX dL_fill_11 (by decide) ⟨by omega, by omega⟩ ⟨by omega, by omega⟩ (fun c_11 => ?_) (fun c_11 => ?_)
      · skip
        refine R_aload_0 hX dL_fill_99 ?_
        refine R_aload_1 hX dL_fill_100 ?_
        refine R_v0i hX dL_fill_101 li_L_14 mk_J0_length_8abf5 mi_J0_length_8abf5 rfl (hs.1.up) (c_lenD hsx) ⟨⟨by decide, by decide⟩, by omega, by omega, rfl, Nat.le_of_ble_eq_true rfl, rfl⟩ (fun x_101 F_101 h_101 => ?_)
        obtain ⟨h_101, e_101⟩ := h_101; replace e_101 := e_101.symm; subst e_101
        subst h_101
        refine R_v1i hX dL_fill_104 li_L_30 mk_X11_truncate mi_X11_truncate rfl o_0 (c_truncate ⟨by rw [hap.1]; omega, by rw [hap.1]; omega⟩ ⟨by omega, by omega⟩) ⟨⟨by decide, by decide⟩, by omega, by omega, rfl, Nat.le_of_ble_eq_true rfl, rfl⟩ (fun x_104 F_104 h_104 => ?_)
        rw [hap.1] at h_104
        rcases h_104 with ⟨h_104, _⟩ | ⟨_, e_104, h_104⟩
        · exact absurd h_104 (by omega)
        subst h_104
        subst e_104
        have hsz : St (T ++ [.inr (.int, 5)]) (up G 1 1 l.length) c l := hs.fr (a := a) (by omega) (fun q h1 h2 => by rw [up_r (by omega)]; exact hap.2.2.2 q (by omega) (by omega) h2)
        refine R_aload_1 hX dL_fill_107 ?_
        refine R_v0i hX dL_fill_108 li_L_14 mk_J0_length_8abf5 mi_J0_length_8abf5 rfl (hs.1.up) (c_lenD hsz) ⟨⟨by decide, by decide⟩, by omega, by omega, rfl, Nat.le_of_ble_eq_true rfl, rfl⟩ (fun x_108 F_108 h_108 => ?_)
        obtain ⟨h_108, e_108⟩ := h_108; replace e_108 := e_108.symm; subst e_108
        subst h_108
        refine R_icmpne (tgt := 118) hX dL_fill_111 (by decide) ⟨by omega, by omega⟩ ⟨by omega, by omega⟩ (fun c_111 => ?_) (fun c_111 => ?_)
        · exact absurd rfl c_111
        · skip
          refine R_iconst hX dL_fill_114 ?_
          refine R_goto (tgt := 119) hX dL_fill_115 (by decide) ?_
          exact R_zretE hX (by omega) dL_fill_119 ⟨by omega, by omega⟩ ⟨_, rfl, rfl, up_s, (fun i q0 q1 => by rw [up_k (by omega)]; exact hap.2.1 i q0 (by omega)), (fun j hj => by rw [up_i hj]; exact hap.2.2.1 j hj), (fun q q1 q2 q3 => by rw [up_r q1]; exact hap.2.2.2 q q1 q2 (by omega))⟩
      · skip
        refine R_iconst hX dL_fill_14 ?_
        refine R_istore_4 hX c1_i dL_fill_15 ?_
        have lp_17 : ∀ (n : Nat) (G2 : Hp) (j : Int), (0 ≤ j ∧ j ≤ 20) → (∀ q : Int, q ≠ a → G2 q = G q) → (WK l (G2 a) k j) → (21 - j).toNat < n → R X (SH (T ++ [.inr (.int, 5)])) 1 5 17 [some (vr (xV X) 0), some (vr (xV X) c), some (vr (xV X) a), some (vi k), some (vi j)] [] G2 (ZE X 1 (fun r s F' => ∃ g, s = SH (T ++ g) ∧ (r = 1 ∧ F' 1 1 = l.length ∧ (∀ i : Int, 0 ≤ i → i < l.length → F' 2 i = tch l i) ∧ (∀ j : Int, j ≠ 1 → F' 1 j = F 1 j) ∧ ∀ q : Int, q ≠ 1 → q ≠ 2 → q < 136 + T.length → F' q = F q)) 1 5) := by
          intro n
          induction n with
          | zero => intro G2 j iv17_0 iv17_1 iv17_2 hm; exact absurd hm (Nat.not_lt_zero _)
          | succ n ih_17 =>
            intro G2 j iv17_0 iv17_1 iv17_2 hm_17
            have hk11 : G2 1 1 = k := by rw [iv17_1 1 (by omega)]; exact hap.1
            have hsy : St (T ++ [.inr (.int, 5)]) G2 c l := hs.fr (a := a) (by omega) (fun q h1 h2 => by rw [iv17_1 q h2]; exact hap.2.2.2 q (by omega) (by omega) h2)
            refine R_iload_4 hX dL_fill_17 ?_
            refine R_bipush hX dL_fill_19 (by decide) ?_
            refine R_icmpge (tgt := 73) hX dL_fill_21 (by decide) ⟨by omega, by omega⟩ ⟨by omega, by omega⟩ (fun c_21 => ?_) (fun c_21 => ?_)
            · skip
              have hj20 : j = 20 := by omega
              subst hj20
              have hP2 : APa F a G2 (tch l) k := hP.rw h136 iv17_1
              have hwk := iv17_2
              refine R_aload_0 hX dL_fill_73 ?_
              refine R_aload_2 hX dL_fill_74 ?_
              refine R_iconst hX dL_fill_75 ?_
              refine R_iald hX dL_fill_76 haw ⟨by omega, by omega⟩ ?_
              refine R_aload_2 hX dL_fill_77 ?_
              refine R_iconst hX dL_fill_78 ?_
              refine R_iald hX dL_fill_79 haw ⟨by omega, by omega⟩ ?_
              refine R_aload_2 hX dL_fill_80 ?_
              refine R_iconst hX dL_fill_81 ?_
              refine R_iald hX dL_fill_82 haw ⟨by omega, by omega⟩ ?_
              refine R_aload_2 hX dL_fill_83 ?_
              refine R_iconst hX dL_fill_84 ?_
              refine R_iald hX dL_fill_85 haw ⟨by omega, by omega⟩ ?_
              refine R_aload_2 hX dL_fill_86 ?_
              refine R_iconst hX dL_fill_87 ?_
              refine R_iald hX dL_fill_88 haw ⟨by omega, by omega⟩ ?_
              refine R_v5i hX dL_fill_89 li_L_24 mk_X11_feed mi_X11_feed rfl o_0 (c_feed ⟨by rw [hk11]; omega, by rw [hk11]; omega⟩) ⟨⟨by decide, by decide⟩, by omega, by omega, rfl, Nat.le_of_ble_eq_true rfl, rfl⟩ (fun x_89 F_89 h_89 => ?_)
              rw [hk11] at h_89
              rcases h_89 with ⟨h_89, _⟩ | ⟨_, _, h_89⟩
              · exact absurd h_89 (by omega)
              subst h_89
              refine R_pop hX c1_i dL_fill_92 ?_
              refine R_iinc_3 hX c1_r dL_fill_93 ?_
              refine R_goto (tgt := 6) hX dL_fill_96 (by decide) ?_
              refine R_drop_4 ?_
              exact ih_6 _ _ (by omega) (APa.fd hA hP2 h136 (by omega) hwk) (by omega)
            · skip
              refine R_aload_2 hX dL_fill_24 ?_
              refine R_iload_4 hX dL_fill_25 ?_
              refine R_iconst hX dL_fill_27 ?_
              refine R_idiv hX ⟨by omega, by omega⟩ ⟨by omega, by omega⟩ (by omega) dL_fill_28 ?_
              rw [Int.tdiv_eq_ediv_of_nonneg (show (0 : Int) ≤ j by omega)]
              refine R_aload_2 hX dL_fill_29 ?_
              refine R_iload_4 hX dL_fill_30 ?_
              refine R_iconst hX dL_fill_32 ?_
              refine R_idiv hX ⟨by omega, by omega⟩ ⟨by omega, by omega⟩ (by omega) dL_fill_33 ?_
              rw [Int.tdiv_eq_ediv_of_nonneg (show (0 : Int) ≤ j by omega)]
              refine R_iald hX dL_fill_34 haw ⟨by omega, by omega⟩ ?_
              refine R_bipush hX dL_fill_35 (by decide) ?_
              refine R_ishl hX dL_fill_37 ?_
              refine R_iload_3 hX dL_fill_38 ?_
              refine R_iload_4 hX dL_fill_39 ?_
              refine R_iadd hX dL_fill_41 ?_
              refine R_aload_1 hX dL_fill_42 ?_
              refine R_v0i hX dL_fill_43 li_L_14 mk_J0_length_8abf5 mi_J0_length_8abf5 rfl (hs.1.up) (c_lenD hsy) ⟨⟨by decide, by decide⟩, by omega, by omega, rfl, Nat.le_of_ble_eq_true rfl, rfl⟩ (fun x_43 F_43 h_43 => ?_)
              obtain ⟨h_43, e_43⟩ := h_43; replace e_43 := e_43.symm; subst e_43
              subst h_43
              refine R_icmpge (tgt := 64) hX dL_fill_46 (by decide) ⟨by omega, by omega⟩ ⟨by omega, by omega⟩ (fun c_46 => ?_) (fun c_46 => ?_)
              · skip
                refine R_iconst hX dL_fill_64 ?_
                refine R_ior hX dL_fill_65 ?_
                refine R_iast hX dL_fill_66 haw ⟨by omega, by omega⟩ ?_
                refine R_iinc_4 hX c1_i dL_fill_67 ?_
                refine R_goto (tgt := 17) hX dL_fill_70 (by decide) ?_
                exact ih_17 _ _ (by omega) (fun q h => by rw [up_r h]; exact iv17_1 q h) (by have hws := WK.s iv17_2 ⟨by omega, by omega⟩; rw [tch_out (by omega)] at hws; exact hws) (by omega)
              · skip
                refine R_aload_1 hX dL_fill_49 ?_
                refine R_iload_3 hX dL_fill_50 ?_
                refine R_iload_4 hX dL_fill_51 ?_
                refine R_iadd hX dL_fill_53 ?_
                refine R_v1i hX dL_fill_54 li_L_20 mk_J0_charAt_5068e mi_J0_charAt_5068e rfl (hs.1.up) (c_charD hsy ⟨by omega, by omega⟩ hA) ⟨⟨by decide, by decide⟩, by omega, by omega, rfl, Nat.le_of_ble_eq_true rfl, rfl⟩ (fun x_54 F_54 h_54 => ?_)
                obtain ⟨h_54, e_54⟩ := h_54; replace e_54 := e_54.symm; subst e_54
                subst h_54
                refine R_sipush hX dL_fill_57 (by decide) ?_
                refine R_iand hX dL_fill_60 ?_
                rw [tch_in hA ⟨by omega, by omega⟩]
                refine R_goto (tgt := 65) hX dL_fill_61 (by decide) ?_
                refine R_ior hX dL_fill_65 ?_
                refine R_iast hX dL_fill_66 haw ⟨by omega, by omega⟩ ?_
                refine R_iinc_4 hX c1_i dL_fill_67 ?_
                refine R_goto (tgt := 17) hX dL_fill_70 (by decide) ?_
                exact ih_17 _ _ (by omega) (fun q h => by rw [up_r h]; exact iv17_1 q h) (WK.s iv17_2 ⟨by omega, by omega⟩) (by omega)
        exact lp_17 22 _ _ (by omega) (fun _ _ => rfl) WK.z (by omega)
  exact lp_6 901 _ _ (by omega) APa.z (by omega)
