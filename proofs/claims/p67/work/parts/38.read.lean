theorem tak_k {v a i : Int} {F : Hp} (hv : isSu v) (h : (a ≠ 3 ∧ (a < v ∨ v + 16 < a)) ∨ (a = 3 ∧ i ≤ 2)) : (takS v F).2 a i = F a i := by
  have ha : a < v ∨ v + 11 < a := by omega
  have hw := rwN_rng (F 3 8)
  unfold takS
  split
  · unfold tkStm; repeat' split
    all_goals (dsimp only; try rw [up_n (by omega)])
  · split
    · unfold tkNam rdAd; repeat' split
      all_goals (dsimp only; try simp (disch := omega) only [up_n, adn_r])
    · split
      · unfold tkInn; dsimp only; rw [up_n (by omega)]
      · split
        · unfold tkPar rdAd; repeat' split
          all_goals (dsimp only; try simp (disch := omega) only [up_n, adn_r])
        · split
          · unfold tkSet finS; repeat' split
            all_goals (dsimp only; try simp (disch := omega) only [up_n])
          · split
            · unfold tkVal; dsimp only; split <;> simp (disch := omega) only [up_n]
            · split
              · unfold tkLim; dsimp only; simp (disch := omega) only [up_n]
              · split
                · unfold tkAge; dsimp only; simp (disch := omega) only [up_n]
                · split
                  · unfold tkTim; dsimp only; simp (disch := omega) only [up_n]
                  · split
                    · unfold tkChN; split <;> dsimp only; simp (disch := omega) only [up_n]
                    · split
                      · unfold tkChS; dsimp only; simp (disch := omega) only [up_n]
                      · split
                        · unfold tkChV chaS; dsimp only; split <;> simp (disch := omega) only [up_n]
                        · unfold tkEnd; dsimp only; rw [up_n (by omega)]
def rdS (v : Int) : Nat → Hp → Hp
  | 0, F => F
  | k + 1, F => if tokK F = 0 ∧ F 3 4 = 0 then scnS F else if (takS v (scnS F)).1 = 0 then rdS v k (up (takS v (scnS F)).2 3 0 0) else up (up (takS v (scnS F)).2 3 0 (takS v (scnS F)).1) 3 1 (skpE F)
def bgS (v : Int) (F : Hp) : Hp := up (up (up (up (up (up (up (up (up F 3 0 0) 3 1 (-2)) v 0 0) (v + 12) 0 0) v 13 10) v 14 (-1)) 21 0 0) 3 4 0) 3 5 0
theorem rdS_go {v : Int} {F : Hp} {k : Nat} (hk : 0 < k) (h : ¬ (tokK F = 0 ∧ F 3 4 = 0)) (hc : (takS v (scnS F)).1 = 0) : rdS v k F = rdS v (k - 1) (up (takS v (scnS F)).2 3 0 0) := by
  cases k with
  | zero => omega
  | succ k => rw [rdS, if_neg h, if_pos hc]; rfl
theorem rdS_end {v : Int} {F : Hp} {k : Nat} (hk : 0 < k) (h : tokK F = 0 ∧ F 3 4 = 0) : rdS v k F = scnS F := by
  cases k with
  | zero => omega
  | succ k => rw [rdS, if_pos h]
theorem rdS_bad {v : Int} {F : Hp} {k : Nat} (hk : 0 < k) (h : ¬ (tokK F = 0 ∧ F 3 4 = 0)) (hc : ¬ (takS v (scnS F)).1 = 0) : rdS v k F = up (up (takS v (scnS F)).2 3 0 (takS v (scnS F)).1) 3 1 (skpE F) := by
  cases k with
  | zero => omega
  | succ k => rw [rdS, if_neg h, if_neg hc]
theorem rdS_k {v a i : Int} (hv : isSu v) (h : (a ≠ 3 ∧ a ≠ 21 ∧ (a < v ∨ v + 16 < a)) ∨ (a = 3 ∧ i = 2)) : ∀ (k : Nat) (F : Hp), rdS v k F a i = F a i
  | 0, F => rfl
  | k + 1, F => by
    have e : scnS F a i = F a i := by rw [scn_r (by omega)]
    unfold rdS
    split
    · exact e
    · split
      · rw [rdS_k hv h k, up_n (by omega), tak_k hv (by omega), e]
      · rw [up_n (by omega), up_n (by omega), tak_k hv (by omega), e]
theorem PrI.fr {v : Int} {F G : Hp} (h3 : ∀ i : Int, 2 ≤ i → G 3 i = F 3 i) (hv : ∀ a : Int, v ≤ a → a < v + 17 → G a = F a) (h : PrI v F) : PrI v G := by
  obtain ⟨h1, h2, h4, h5⟩ := h
  refine ⟨?_, h2.fr hv, h4.fr hv, ?_⟩
  · unfold RdI at h1 ⊢
    rw [h3 2 (by omega), h3 4 (by omega), h3 5 (by omega), h3 6 (by omega), h3 7 (by omega), h3 8 (by omega), hv v (by omega) (by omega), hv (v + 1) (by omega) (by omega), hv (v + 12) (by omega) (by omega)]
    exact h1
  · unfold RdJ at h5 ⊢
    rw [h3 4 (by omega), h3 9 (by omega), h3 10 (by omega), hv v (by omega) (by omega)]
    exact h5
theorem PrI.scn {v : Int} {F : Hp} (hv : isSu v) (h : PrI v F) : PrI v (scnS F) := h.fr (fun i _ => by rw [scn_r (by decide)]) (fun a z1 z2 => scn_r (by omega))
theorem PrI.bg {v : Int} {F : Hp} (hv : isSu v) (hd : F 3 2 = v) : PrI v (bgS v F) := by
  unfold bgS
  refine ⟨?_, ?_, ?_, ?_⟩
  · unfold RdI
    simp (disch := omega) only [up_k, up_i, up_s]
    exact ⟨hd, by omega, by omega, fun n h0 h1 => by omega, by omega, by omega, by omega, by omega, by omega, by omega, by omega, by omega, by omega⟩
  · unfold SuI Tr
    simp (disch := omega) only [up_k, up_i, up_s]
    exact ⟨by omega, fun n h0 h1 => by omega, fun n h0 h1 => by omega, fun n h0 h1 => by omega, fun n h0 h1 => by omega, fun n h0 h1 => by omega, fun n h0 h1 => by omega, fun n h0 h1 => by omega, by omega, by omega, by omega, fun n h0 h1 => by omega⟩
  · unfold SuX
    simp (disch := omega) only [up_k, up_i, up_s]
    exact fun n h0 h1 => by omega
  · unfold RdJ
    simp (disch := omega) only [up_k, up_i, up_s]
    omega
theorem TxI.tak {v : Int} {F : Hp} (hv : isSu v) (h : TxI F) : TxI (takS v F).2 := by
  have e1 : (takS v F).2 1 = F 1 := by funext i; exact tak_k hv (by omega)
  have e2 : (takS v F).2 2 = F 2 := by funext i; exact tak_k hv (by omega)
  have e3 : (takS v F).2 21 = F 21 := by funext i; exact tak_k hv (by omega)
  unfold TxI at h ⊢
  rw [e1, e2, e3]
  exact h
theorem TxI.u3 {F : Hp} {i x : Int} (h : TxI F) : TxI (up F 3 i x) := by
  unfold TxI at h ⊢
  rw [up_r (a := 1) (by decide), up_r (a := 2) (by decide), up_r (a := 21) (by decide)]
  exact h
/-- what the reader leaves, when there is no fault -/
theorem rdS_ok {v : Int} (hv : isSu v) : ∀ (k : Nat) (F : Hp), PrI v F → TxI F → PrI v (rdS v k F) ∨ rdS v k F 3 0 ≠ 0
  | 0, F, h, _ => Or.inl h
  | k + 1, F, h, ht => by
    unfold rdS
    split
    · exact Or.inl (h.scn hv)
    · split
      · rename_i q
        have h2 := (h.scn hv).tak hv (TkI.scn ht) q
        exact rdS_ok hv k _ (h2.fr (fun i _ => up_i (by omega)) (fun a z1 z2 => up_r (by omega))) (ht.scn.tak hv).u3
      · rename_i q
        exact Or.inr (by rw [up_i (by decide), up_s]; exact q)
theorem nmf_r {lo hi : Int} {F : Hp} : I32 (nmf lo hi F) := by
  unfold nmf
  split
  · constructor <;> omega
  · split <;> constructor <;> omega
/-- a fault's code is small -/
theorem takC (v : Int) (F : Hp) (h : TkI F) : I32 (takS v F).1 := by
  unfold takS
  split
  · unfold tkStm; repeat' split
    all_goals (dsimp only; constructor <;> omega)
  · split
    · unfold tkNam; repeat' split
      all_goals (dsimp only; constructor <;> omega)
    · split
      · unfold tkInn; dsimp only; split <;> constructor <;> omega
      · split
        · unfold tkPar; repeat' split
          all_goals (dsimp only; constructor <;> omega)
        · split
          · unfold tkSet; repeat' split
            all_goals (dsimp only; constructor <;> omega)
          · split
            · exact nmf_r
            · split
              · exact nmf_r
              · split
                · exact nmf_r
                · split
                  · exact nmf_r
                  · split
                    · unfold tkChN; repeat' split
                      all_goals (dsimp only; constructor <;> omega)
                    · split
                      · unfold tkChS; dsimp only; split <;> constructor <;> omega
                      · split
                        · exact nmf_r
                        · unfold tkEnd; dsimp only; split <;> constructor <;> omega
set_option maxRecDepth 100000 in
set_option maxHeartbeats 4000000 in
theorem c_rdBegin {V : VX} {T : Shp} {F : Hp} {v : Int} (hv : isSu v) (hd : F 3 2 = v) : Ct V yX5_begin cX5_begin 1 none 1 20 0 0 (SH T) [vr V 3] F (SH T) 0 (fun r F' => F' = bgS v F) := by
  refine Ct.of [some (vr V 3)] (by decide) (by simp [lg_sl, vi_cat, vl_cat, vr_cat]) rfl (by simp [asc, lv_args, vi_cat, vl_cat, vr_cat]) (fun X hV hX => ?_)
  subst hV
  refine R_aload_0 hX dX5_begin_0 ?_
  refine R_iconst hX dX5_begin_1 ?_
  refine R_puti hX dX5_begin_2 fl_X5_46 o_3 rfl ?_
  refine R_aload_0 hX dX5_begin_5 ?_
  refine R_bipush hX dX5_begin_6 (by decide) ?_
  refine R_puti hX dX5_begin_8 fl_X5_9 o_3 rfl ?_
  refine R_aload_0 hX dX5_begin_11 ?_
  refine R_getoE (v := v) hX dX5_begin_12 fl_X5_18 o_3 rfl (by simp (disch := omega) only [up_k, up_i]; exact hd) ?_
  refine R_v0v hX dX5_begin_15 li_X5_52 mk_X7_clear mi_X7_clear rfl (to_0 hv) (c_clear hv) ⟨⟨by decide, by decide⟩, by decide, by decide, rfl, Nat.le_of_ble_eq_true rfl, rfl⟩ (fun x_15 F_15 h_15 => ?_)
  subst h_15
  refine R_aload_0 hX dX5_begin_18 ?_
  refine R_getq (v := 21) hX dX5_begin_19 fl_X5_25 o_3 rfl (by omega) ?_
  refine R_v0v hX dX5_begin_22 li_X5_55 mk_X6_begin mi_X6_begin rfl o_21 (c_scBegin) ⟨⟨by decide, by decide⟩, by decide, by decide, rfl, Nat.le_of_ble_eq_true rfl, rfl⟩ (fun x_22 F_22 h_22 => ?_)
  subst h_22
  refine R_aload_0 hX dX5_begin_25 ?_
  refine R_iconst hX dX5_begin_26 ?_
  refine R_puti hX dX5_begin_27 fl_X5_39 o_3 rfl ?_
  refine R_aload_0 hX dX5_begin_30 ?_
  refine R_iconst hX dX5_begin_31 ?_
  refine R_putz hX dX5_begin_32 fl_X5_56 o_3 rfl (by omega) ?_
  exact R_vret hX dX5_begin_35 rfl
set_option maxRecDepth 100000 in
set_option maxHeartbeats 4000000 in
theorem c_read {V : VX} {T : Shp} {F : Hp} {v : Int} (hv : isSu v) (hd : F 3 2 = v) (hL : 0 ≤ F 1 1 ∧ F 1 1 ≤ 900) (hB : ∀ i : Int, 0 ≤ i → i < F 1 1 → -128 ≤ F 2 i ∧ F 2 i ≤ 127) : Ct V yX5_read cX5_read 3 none 7 154 0 0 (SH T) [vr V 3, vr V 1] F (SH T) 0 (fun r F' => F' = rdS v 901 (bgS v F)) := by
  refine Ct.of [some (vr V 3), some (vr V 1), none] (by decide) (by simp [lg_sl, vi_cat, vl_cat, vr_cat]) rfl (by simp [asc, lv_args, vi_cat, vl_cat, vr_cat]) (fun X hV hX => ?_)
  subst hV
  have hp0 := PrI.bg hv hd
  have ht0 : TxI (bgS v F) := by
    unfold TxI bgS
    simp (disch := omega) only [up_k, up_i, up_s]
    exact ⟨hL, hB, by omega⟩
  refine R_aload_0 hX dX5_read_0 ?_
  refine R_v0v hX dX5_read_1 li_X5_29 mk_X5_begin mi_X5_begin rfl o_3 (c_rdBegin hv hd) ⟨⟨by decide, by decide⟩, by decide, by decide, rfl, Nat.le_of_ble_eq_true rfl, rfl⟩ (fun x_1 F_1 h_1 => ?_)
  subst h_1
  refine R_iconst hX dX5_read_4 ?_
  refine R_istore_2 hX c1_r dX5_read_5 ?_
  have lp_6 : ∀ (n : Nat) (t : Int) (G : Hp), (0 ≤ t ∧ t ≤ 901) → (PrI v G ∧ TxI G) → (rdS v (901 - t).toNat G = rdS v 901 (bgS v F)) → (902 - t).toNat < n → R X (SH T) 0 0 6 [some (vr (xV X) 3), some (vr (xV X) 1), some (vi t)] [] G (Zq X (SH T) 0 (fun r F' => F' = rdS v 901 (bgS v F)) 0 0) := by
    intro n
    induction n with
    | zero => intro t G iv6_0 iv6_1 iv6_2 hm; exact absurd hm (Nat.not_lt_zero _)
    | succ n ih_6 =>
      intro t G iv6_0 iv6_1 iv6_2 hm_6
      refine R_iload_2 hX dX5_read_6 ?_
      refine R_sipush hX dX5_read_7 (by decide) ?_
      refine R_icmpgt (tgt := 72) hX dX5_read_10 (by decide) ⟨by omega, by omega⟩ ⟨by omega, by omega⟩ (fun c_10 => ?_) (fun c_10 => ?_)
      · skip
        exact R_vret hX dX5_read_72 (by rw [← iv6_2, show (901 - t).toNat = 0 by omega]; rfl)
      · skip
        refine R_aload_0 hX dX5_read_13 ?_
        refine R_getq (v := 21) hX dX5_read_14 fl_X5_25 o_3 rfl (by omega) ?_
        refine R_aload_1 hX dX5_read_17 ?_
        refine R_v1v hX dX5_read_18 li_X5_32 mk_X6_scan mi_X6_scan rfl o_21 (c_scan iv6_1.2.1 iv6_1.2.2.1 iv6_1.2.2.2) ⟨⟨by decide, by decide⟩, by decide, by decide, rfl, Nat.le_of_ble_eq_true rfl, rfl⟩ (fun x_18 F_18 h_18 => ?_)
        subst h_18
        have hk := (scn_f G).2.1
        have hkr := (tok_rng iv6_1.2).2.2.2.1
        have h34 : scnS G 3 4 = G 3 4 := by rw [scn_r (by decide)]
        have her := iv6_1.1.1.2.2.2.2.1
        refine R_aload_0 hX dX5_read_21 ?_
        refine R_getq (v := 21) hX dX5_read_22 fl_X5_25 o_3 rfl (by omega) ?_
        refine R_geti hX dX5_read_25 fl_X5_36 o_21 rfl ?_
        refine R_ifne (tgt := 39) hX dX5_read_28 (by decide) (by rw [hk]; constructor <;> omega) (fun c_28 => ?_) (fun c_28 => ?_)
        · skip
          have hne : ¬ (tokK G = 0 ∧ G 3 4 = 0) := by
            first | (rw [hk] at c_28; omega) | (rw [h34] at c_35; omega)
          have hcr := takC v (scnS G) (TkI.scn iv6_1.2)
          refine R_aload_0 hX dX5_read_39 ?_
          refine R_aload_0 hX dX5_read_40 ?_
          refine R_v0i hX dX5_read_41 li_X5_42 mk_X5_take mi_X5_take rfl o_3 (c_take hv (iv6_1.1.scn hv).1 (TkI.scn iv6_1.2)) ⟨⟨by decide, by decide⟩, by decide, by decide, rfl, Nat.le_of_ble_eq_true rfl, rfl⟩ (fun x_41 F_41 h_41 => ?_)
          obtain ⟨hx, hF⟩ := h_41
          subst hx
          subst hF
          refine R_puti hX dX5_read_44 fl_X5_46 o_3 rfl ?_
          refine R_aload_0 hX dX5_read_47 ?_
          refine R_geti hX dX5_read_48 fl_X5_46 o_3 rfl ?_
          refine R_ifeq (tgt := 66) hX dX5_read_51 (by decide) (by rw [up_s]; exact hcr) (fun c_51 => ?_) (fun c_51 => ?_)
          · skip
            rw [up_s] at c_51
            rw [c_51]
            refine R_iinc_2 hX c1_r dX5_read_66 ?_
            refine R_goto (tgt := 6) hX dX5_read_69 (by decide) ?_
            exact ih_6 _ _ (by omega) ⟨(((iv6_1.1.scn hv).tak hv (TkI.scn iv6_1.2) c_51)).fr (fun i _ => up_i (by omega)) (fun a z1 z2 => up_r (by omega)), (iv6_1.2.scn.tak hv).u3⟩ (by rw [← iv6_2, rdS_go (k := (901 - t).toNat) (F := G) (by omega) hne c_51, show (901 - t).toNat - 1 = (901 - (t + 1)).toNat by omega]) (by omega)
          · skip
            rw [up_s] at c_51
            refine R_aload_0 hX dX5_read_54 ?_
            refine R_aload_0 hX dX5_read_55 ?_
            refine R_getq (v := 21) hX dX5_read_56 fl_X5_25 o_3 rfl (by omega) ?_
            refine R_geti hX dX5_read_59 fl_X5_49 o_21 rfl ?_
            refine R_puti hX dX5_read_62 fl_X5_9 o_3 rfl ?_
            exact R_vret hX dX5_read_65 (by rw [← iv6_2, rdS_bad (by omega) hne c_51]; congr 1; rw [up_k (by decide), tak_k hv (by omega), (scn_f G).2.2.1])
        · skip
          rw [hk] at c_28
          refine R_aload_0 hX dX5_read_31 ?_
          refine R_geti hX dX5_read_32 fl_X5_39 o_3 rfl ?_
          refine R_ifne (tgt := 39) hX dX5_read_35 (by decide) (by rw [h34]; constructor <;> omega) (fun c_35 => ?_) (fun c_35 => ?_)
          · skip
            have hne : ¬ (tokK G = 0 ∧ G 3 4 = 0) := by
              first | (rw [hk] at c_28; omega) | (rw [h34] at c_35; omega)
            have hcr := takC v (scnS G) (TkI.scn iv6_1.2)
            refine R_aload_0 hX dX5_read_39 ?_
            refine R_aload_0 hX dX5_read_40 ?_
            refine R_v0i hX dX5_read_41 li_X5_42 mk_X5_take mi_X5_take rfl o_3 (c_take hv (iv6_1.1.scn hv).1 (TkI.scn iv6_1.2)) ⟨⟨by decide, by decide⟩, by decide, by decide, rfl, Nat.le_of_ble_eq_true rfl, rfl⟩ (fun x_41 F_41 h_41 => ?_)
            obtain ⟨hx, hF⟩ := h_41
            subst hx
            subst hF
            refine R_puti hX dX5_read_44 fl_X5_46 o_3 rfl ?_
            refine R_aload_0 hX dX5_read_47 ?_
            refine R_geti hX dX5_read_48 fl_X5_46 o_3 rfl ?_
            refine R_ifeq (tgt := 66) hX dX5_read_51 (by decide) (by rw [up_s]; exact hcr) (fun c_51 => ?_) (fun c_51 => ?_)
            · skip
              rw [up_s] at c_51
              rw [c_51]
              refine R_iinc_2 hX c1_r dX5_read_66 ?_
              refine R_goto (tgt := 6) hX dX5_read_69 (by decide) ?_
              exact ih_6 _ _ (by omega) ⟨(((iv6_1.1.scn hv).tak hv (TkI.scn iv6_1.2) c_51)).fr (fun i _ => up_i (by omega)) (fun a z1 z2 => up_r (by omega)), (iv6_1.2.scn.tak hv).u3⟩ (by rw [← iv6_2, rdS_go (k := (901 - t).toNat) (F := G) (by omega) hne c_51, show (901 - t).toNat - 1 = (901 - (t + 1)).toNat by omega]) (by omega)
            · skip
              rw [up_s] at c_51
              refine R_aload_0 hX dX5_read_54 ?_
              refine R_aload_0 hX dX5_read_55 ?_
              refine R_getq (v := 21) hX dX5_read_56 fl_X5_25 o_3 rfl (by omega) ?_
              refine R_geti hX dX5_read_59 fl_X5_49 o_21 rfl ?_
              refine R_puti hX dX5_read_62 fl_X5_9 o_3 rfl ?_
              exact R_vret hX dX5_read_65 (by rw [← iv6_2, rdS_bad (by omega) hne c_51]; congr 1; rw [up_k (by decide), tak_k hv (by omega), (scn_f G).2.2.1])
          · skip
            rw [h34] at c_35
            exact R_vret hX dX5_read_38 (by rw [← iv6_2, rdS_end (by omega) ⟨c_28, c_35⟩])
  exact lp_6 903 _ _ (by omega) ⟨hp0, ht0⟩ rfl (by omega)
