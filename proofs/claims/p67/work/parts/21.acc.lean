set_option maxRecDepth 100000 in
set_option maxHeartbeats 4000000 in
theorem c_findBlocking {V : VX} {T : Shp} {F : Hp} {u b : Int} (hu : isSu u) (hN : 0 ≤ F u 0 ∧ F u 0 ≤ 12) (hb : isSt b) (hT : Tr (F u 0) (F (u + 2))) (hH : ∀ n : Int, 0 ≤ n → n < F u 0 → I32 (F (b + 7) n)) {leaf cost : Int} (hl : 0 ≤ leaf ∧ leaf < F u 0) (hc : I32 cost) : Ct V yX0_findBlocking cX0_findBlocking 6 (some .int) 1 21 0 0 (SH T) [vr V (b + 4), vr V u, vi leaf, vi cost] F (SH T) 1 (fun r F' => r = blkS (F (b + 7)) (F (u + 2)) cost 13 leaf ∧ F' = F) := by
  refine Ct.of [some (vr V (b + 4)), some (vr V u), some (vi leaf), some (vi cost), none, none] (by decide) (by simp [lg_sl, vi_cat, vl_cat, vr_cat]) rfl (by simp [asc, lv_args, vi_cat, vl_cat, vr_cat]) (fun X hV hX => ?_)
  subst hV
  refine R_iload_2 hX dX0_findBlocking_0 ?_
  refine R_istore_4 hX c1_i dX0_findBlocking_1 ?_
  refine R_iconst hX dX0_findBlocking_3 ?_
  refine R_istore_5 hX c1_i dX0_findBlocking_4 ?_
  have lp_6 : ∀ (n : Nat) (k : Nat) (node : Int) (step : Int), (-2 ≤ node ∧ node < F u 0 ∧ node < k ∧ 0 ≤ step ∧ step + node < 12 ∧ step ≤ 13) → (blkS (F (b + 7)) (F (u + 2)) cost k node = blkS (F (b + 7)) (F (u + 2)) cost 13 leaf) → (13 - step).toNat < n → R X (SH T) 0 0 6 [some (vr (xV X) (b + 4)), some (vr (xV X) u), some (vi leaf), some (vi cost), some (vi node), some (vi step)] [] F (Zq X (SH T) 1 (fun r F' => r = blkS (F (b + 7)) (F (u + 2)) cost 13 leaf ∧ F' = F) 0 0) := by
    intro n
    induction n with
    | zero => intro k node step iv6_0 iv6_1 hm; exact absurd hm (Nat.not_lt_zero _)
    | succ n ih_6 =>
      intro k node step iv6_0 iv6_1 hm_6
      refine R_iload_5 hX dX0_findBlocking_6 ?_
      refine R_bipush hX dX0_findBlocking_8 (by decide) ?_
      refine R_icmpge (tgt := 51) hX dX0_findBlocking_10 (by decide) ⟨by omega, by omega⟩ ⟨by omega, by omega⟩ (fun c_10 => ?_) (fun c_10 => ?_)
      · skip
        refine R_bipush hX dX0_findBlocking_51 (by decide) ?_
        exact R_iret hX dX0_findBlocking_53 ⟨by rw [← iv6_1, blkS_neg (by omega)], rfl⟩
      · skip
        refine R_aload_1 hX dX0_findBlocking_13 ?_
        refine R_iload_4 hX dX0_findBlocking_14 ?_
        refine R_v1i hX dX0_findBlocking_16 li_X0_46 mk_X7_hasNode mi_X7_hasNode rfl (to_0 hu) (c_hasNode hu hN ⟨by omega, by omega⟩) ⟨⟨by decide, by decide⟩, by decide, by decide, rfl, Nat.le_of_ble_eq_true rfl, rfl⟩ (fun x_16 F_16 h_16 => ?_)
        obtain ⟨h_16, e_16⟩ := h_16; replace e_16 := e_16.symm; subst e_16
        refine R_ifeq (tgt := 51) hX dX0_findBlocking_19 (by decide) ⟨by omega, by omega⟩ (fun c_19 => ?_) (fun c_19 => ?_)
        · skip
          refine R_bipush hX dX0_findBlocking_51 (by decide) ?_
          exact R_iret hX dX0_findBlocking_53 ⟨by rw [← iv6_1, blkS_neg (by omega)], rfl⟩
        · skip
          refine R_aload_0 hX dX0_findBlocking_22 ?_
          refine R_getq (v := b + 7) hX dX0_findBlocking_23 fl_X0_18 (so_4 hb) rfl (by omega) ?_
          refine R_iload_4 hX dX0_findBlocking_26 ?_
          refine R_iald hX dX0_findBlocking_28 (sa_7 hb) ⟨by omega, by omega⟩ ?_
          refine R_iload_3 hX dX0_findBlocking_29 ?_
          refine R_icmpge (tgt := 36) hX dX0_findBlocking_30 (by decide) (hH _ (by omega) (by omega)) hc (fun c_30 => ?_) (fun c_30 => ?_)
          · skip
            refine R_aload_1 hX dX0_findBlocking_36 ?_
            refine R_getq (v := u + 2) hX dX0_findBlocking_37 fl_X0_50 (to_0 hu) rfl (by omega) ?_
            refine R_iload_4 hX dX0_findBlocking_40 ?_
            refine R_iald hX dX0_findBlocking_42 (ta_2 hu) ⟨by omega, by omega⟩ ?_
            refine R_istore_4 hX c1_i dX0_findBlocking_43 ?_
            refine R_iinc_5 hX c1_i dX0_findBlocking_45 ?_
            refine R_goto (tgt := 6) hX dX0_findBlocking_48 (by decide) ?_
            exact ih_6 (k - 1) _ _ (by have := hT node (by omega) (by omega); omega) (by rw [← iv6_1, blkS_up (k := k) (by omega) (by omega) (by omega)]) (by omega)
          · skip
            refine R_iload_4 hX dX0_findBlocking_33 ?_
            exact R_iret hX dX0_findBlocking_35 ⟨by rw [← iv6_1, blkS_hit (by omega) (by omega) (by omega)], rfl⟩
  exact lp_6 14 13 _ _ (by omega) rfl (by omega)
