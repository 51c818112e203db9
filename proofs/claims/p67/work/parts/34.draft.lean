/-! the draft -/
def rwN (s : Int) : Int := if s = 0 then 5 else if s = 1 then 6 else if s = 2 then 7 else if s = 3 then 8 else if s = 4 then 9 else 10
theorem ta_row {T : Shp} {u s : Int} (hu : isSu u) : isA (SH T) (u + rwN s) .int 12 := by
  unfold rwN
  split
  · exact ta_5 hu
  · split
    · exact ta_6 hu
    · split
      · exact ta_7 hu
      · split
        · exact ta_8 hu
        · split
          · exact ta_9 hu
          · exact ta_10 hu
/-- the settings' defaults, the first k of them -/
def dfS (u n : Int) : Nat → Hp → Hp
  | 0, F => F
  | k + 1, F => up (dfS u n k F) (u + rwN k) n (tabD k)
theorem dfS_s {u n i : Int} {F : Hp} (h : 0 ≤ i) : dfS u n (i + 1).toNat F = up (dfS u n i.toNat F) (u + rwN i) n (tabD i.toNat) := by
  obtain ⟨k, rfl⟩ : ∃ k : Nat, i = k := ⟨i.toNat, by omega⟩
  rfl
theorem rwN_rng (s : Int) : 5 ≤ rwN s ∧ rwN s ≤ 10 := by
  unfold rwN
  split
  · omega
  · split
    · omega
    · split
      · omega
      · split
        · omega
        · split <;> omega
theorem dfS_r {u n a : Int} (h : a < u + 5 ∨ u + 10 < a) : ∀ (k : Nat) (F : Hp), dfS u n k F a = F a
  | 0, F => rfl
  | k + 1, F => by
    have := rwN_rng k
    unfold dfS
    rw [up_r (by omega), dfS_r h k F]
def ad0S (v w p : Int) (F : Hp) : Hp := dfS v (F v 0) 6 (up (up (up (up (up (up F v 0 (F v 0 + 1)) (v + 1) (F v 0) w) (v + 2) (F v 0) p) (v + 3) (F v 0) 0) (v + 4) (F v 0) 0) (v + 11) (F v 0) 0)
def adnS (v w p : Int) (F : Hp) : Hp := if 0 ≤ p then up (up (ad0S v w p F) (v + 3) (F v 0) (F (v + 3) p + 1)) (v + 4) p (F (v + 4) p + 1) else ad0S v w p F
def chaS (v t n s x : Int) (F : Hp) : Hp := up (up (up (up (up F (v + 13) (F (v + 12) 0) t) (v + 14) (F (v + 12) 0) n) (v + 15) (F (v + 12) 0) s) (v + 16) (F (v + 12) 0) x) (v + 12) 0 (F (v + 12) 0 + 1)
def inR (s x : Int) : Prop := (0 ≤ s ∧ s < 6) ∧ tabL s.toNat ≤ x ∧ x ≤ tabG s.toNat
theorem tab_rng : ∀ j, (-1 ≤ tabL j ∧ tabL j ≤ 10) ∧ (-1 ≤ tabG j ∧ tabG j ≤ 999) := by
  intro j
  by_cases h : j < 6
  · have key : ∀ j, j < 6 → (-1 ≤ tabL j ∧ tabL j ≤ 10) ∧ (-1 ≤ tabG j ∧ tabG j ≤ 999) := by decide
    exact key j h
  · unfold tabL tabG
    rw [List.getD_eq_getElem?_getD, List.getD_eq_getElem?_getD, List.getElem?_eq_none (by simp; omega), List.getElem?_eq_none (by simp; omega)]
    simp
set_option maxRecDepth 100000 in
set_option maxHeartbeats 4000000 in
theorem c_isInRange {V : VX} {T : Shp} {F : Hp} {s x : Int} (hs : I32 s) (hx : I32 x) : Ct V yX11_isInRange cX11_isInRange 2 (some .boolean) 0 0 0 0 (SH T) [vi s, vi x] F (SH T) 1 (fun r F' => ((r = 1 ∧ inR s x) ∨ (r = 0 ∧ ¬ inR s x)) ∧ F' = F) := by
  refine Ct.of [some (vi s), some (vi x)] (by decide) (by simp [lg_sl, vi_cat, vl_cat, vr_cat]) rfl (by simp [asc, lv_args, vi_cat, vl_cat, vr_cat]) (fun X hV hX => ?_)
  subst hV
  have hr := tab_rng s.toNat
  refine R_iload_0 hX dX11_isInRange_0 ?_
  refine R_iflt (tgt := 32) hX dX11_isInRange_1 (by decide) ⟨by omega, by omega⟩ (fun c_1 => ?_) (fun c_1 => ?_)
  · skip
    refine R_iconst hX dX11_isInRange_32 ?_
    exact R_zret hX (by omega) dX11_isInRange_33 (by first | exact ⟨Or.inl ⟨rfl, ⟨by omega, by omega⟩, by omega, by omega⟩, rfl⟩ | exact ⟨Or.inr ⟨rfl, fun z => by have z1 := z.1; have z2 := z.2.1; have z3 := z.2.2; omega⟩, rfl⟩)
  · skip
    refine R_iload_0 hX dX11_isInRange_4 ?_
    refine R_bipush hX dX11_isInRange_5 (by decide) ?_
    refine R_icmpge (tgt := 32) hX dX11_isInRange_7 (by decide) ⟨by omega, by omega⟩ ⟨by omega, by omega⟩ (fun c_7 => ?_) (fun c_7 => ?_)
    · skip
      refine R_iconst hX dX11_isInRange_32 ?_
      exact R_zret hX (by omega) dX11_isInRange_33 (by first | exact ⟨Or.inl ⟨rfl, ⟨by omega, by omega⟩, by omega, by omega⟩, rfl⟩ | exact ⟨Or.inr ⟨rfl, fun z => by have z1 := z.1; have z2 := z.2.1; have z3 := z.2.2; omega⟩, rfl⟩)
    · skip
      refine R_iload_1 hX dX11_isInRange_10 ?_
      refine R_gets hX hX.2.2.2.2.2.2.1.2.1 gs_LEAST dX11_isInRange_11 ?_
      refine R_iload_0 hX dX11_isInRange_14 ?_
      refine R_tald hX hX.2.2.2.2.2.2.1.2.2.1 dX11_isInRange_15 ⟨by omega, by omega⟩ ?_
      refine R_icmplt (tgt := 32) hX dX11_isInRange_16 (by decide) ⟨by omega, by omega⟩ ⟨by omega, by omega⟩ (fun c_16 => ?_) (fun c_16 => ?_)
      · skip
        refine R_iconst hX dX11_isInRange_32 ?_
        exact R_zret hX (by omega) dX11_isInRange_33 (by first | exact ⟨Or.inl ⟨rfl, ⟨by omega, by omega⟩, by omega, by omega⟩, rfl⟩ | exact ⟨Or.inr ⟨rfl, fun z => by have z1 := z.1; have z2 := z.2.1; have z3 := z.2.2; omega⟩, rfl⟩)
      · skip
        refine R_iload_1 hX dX11_isInRange_19 ?_
        refine R_gets hX hX.2.2.2.2.2.2.1.2.2.2.1 gs_GREATEST dX11_isInRange_20 ?_
        refine R_iload_0 hX dX11_isInRange_23 ?_
        refine R_tald hX hX.2.2.2.2.2.2.1.2.2.2.2.1 dX11_isInRange_24 ⟨by omega, by omega⟩ ?_
        refine R_icmpgt (tgt := 32) hX dX11_isInRange_25 (by decide) ⟨by omega, by omega⟩ ⟨by omega, by omega⟩ (fun c_25 => ?_) (fun c_25 => ?_)
        · skip
          refine R_iconst hX dX11_isInRange_32 ?_
          exact R_zret hX (by omega) dX11_isInRange_33 (by first | exact ⟨Or.inl ⟨rfl, ⟨by omega, by omega⟩, by omega, by omega⟩, rfl⟩ | exact ⟨Or.inr ⟨rfl, fun z => by have z1 := z.1; have z2 := z.2.1; have z3 := z.2.2; omega⟩, rfl⟩)
        · skip
          refine R_iconst hX dX11_isInRange_28 ?_
          refine R_goto (tgt := 33) hX dX11_isInRange_29 (by decide) ?_
          exact R_zret hX (by omega) dX11_isInRange_33 (by first | exact ⟨Or.inl ⟨rfl, ⟨by omega, by omega⟩, by omega, by omega⟩, rfl⟩ | exact ⟨Or.inr ⟨rfl, fun z => by have z1 := z.1; have z2 := z.2.1; have z3 := z.2.2; omega⟩, rfl⟩)
set_option maxRecDepth 100000 in
set_option maxHeartbeats 4000000 in
theorem c_suRow {V : VX} {T : Shp} {F : Hp} {v : Int} (hv : isSu v) {s : Int} (hs : I32 s) : Ct V yX7_row cX7_row 2 (some (.array .int)) 0 0 0 0 (SH T) [vr V v, vi s] F (SH T) 3 (fun r F' => r = v + rwN s ∧ F' = F) := by
  refine Ct.of [some (vr V v), some (vi s)] (by decide) (by simp [lg_sl, vi_cat, vl_cat, vr_cat]) rfl (by simp [asc, lv_args, vi_cat, vl_cat, vr_cat]) (fun X hV hX => ?_)
  subst hV
  refine R_iload_1 hX dX7_row_0 ?_
  refine R_tab (offs := [35, 40, 45, 50, 55]) hX dX7_row_1 hs (by decide) (by decide) (fun c_1 => ?_) ⟨fun c_1 => ?_, fun c_1 => ?_, fun c_1 => ?_, fun c_1 => ?_, fun c_1 => ?_, trivial⟩
  · refine R_pcn (pc := 61) (by decide) ?_
    refine R_aload_0 hX dX7_row_61 ?_
    refine R_getq (v := v + 10) hX dX7_row_62 fl_X7_40 (to_0 hv) rfl (by omega) ?_
    exact R_aret hX (Or.inr ⟨_, rfl⟩) dX7_row_65 ⟨by unfold rwN; first | rw [if_pos (by omega)] | rw [if_neg (by omega), if_pos (by omega)] | rw [if_neg (by omega), if_neg (by omega), if_pos (by omega)] | rw [if_neg (by omega), if_neg (by omega), if_neg (by omega), if_pos (by omega)] | rw [if_neg (by omega), if_neg (by omega), if_neg (by omega), if_neg (by omega), if_pos (by omega)] | rw [if_neg (by omega), if_neg (by omega), if_neg (by omega), if_neg (by omega), if_neg (by omega)], rfl⟩
  · refine R_pcn (pc := 36) (by decide) ?_
    refine R_aload_0 hX dX7_row_36 ?_
    refine R_getq (v := v + 5) hX dX7_row_37 fl_X7_25 (to_0 hv) rfl (by omega) ?_
    exact R_aret hX (Or.inr ⟨_, rfl⟩) dX7_row_40 ⟨by unfold rwN; first | rw [if_pos (by omega)] | rw [if_neg (by omega), if_pos (by omega)] | rw [if_neg (by omega), if_neg (by omega), if_pos (by omega)] | rw [if_neg (by omega), if_neg (by omega), if_neg (by omega), if_pos (by omega)] | rw [if_neg (by omega), if_neg (by omega), if_neg (by omega), if_neg (by omega), if_pos (by omega)] | rw [if_neg (by omega), if_neg (by omega), if_neg (by omega), if_neg (by omega), if_neg (by omega)], rfl⟩
  · refine R_pcn (pc := 41) (by decide) ?_
    refine R_aload_0 hX dX7_row_41 ?_
    refine R_getq (v := v + 6) hX dX7_row_42 fl_X7_28 (to_0 hv) rfl (by omega) ?_
    exact R_aret hX (Or.inr ⟨_, rfl⟩) dX7_row_45 ⟨by unfold rwN; first | rw [if_pos (by omega)] | rw [if_neg (by omega), if_pos (by omega)] | rw [if_neg (by omega), if_neg (by omega), if_pos (by omega)] | rw [if_neg (by omega), if_neg (by omega), if_neg (by omega), if_pos (by omega)] | rw [if_neg (by omega), if_neg (by omega), if_neg (by omega), if_neg (by omega), if_pos (by omega)] | rw [if_neg (by omega), if_neg (by omega), if_neg (by omega), if_neg (by omega), if_neg (by omega)], rfl⟩
  · refine R_pcn (pc := 46) (by decide) ?_
    refine R_aload_0 hX dX7_row_46 ?_
    refine R_getq (v := v + 7) hX dX7_row_47 fl_X7_31 (to_0 hv) rfl (by omega) ?_
    exact R_aret hX (Or.inr ⟨_, rfl⟩) dX7_row_50 ⟨by unfold rwN; first | rw [if_pos (by omega)] | rw [if_neg (by omega), if_pos (by omega)] | rw [if_neg (by omega), if_neg (by omega), if_pos (by omega)] | rw [if_neg (by omega), if_neg (by omega), if_neg (by omega), if_pos (by omega)] | rw [if_neg (by omega), if_neg (by omega), if_neg (by omega), if_neg (by omega), if_pos (by omega)] | rw [if_neg (by omega), if_neg (by omega), if_neg (by omega), if_neg (by omega), if_neg (by omega)], rfl⟩
  · refine R_pcn (pc := 51) (by decide) ?_
    refine R_aload_0 hX dX7_row_51 ?_
    refine R_getq (v := v + 8) hX dX7_row_52 fl_X7_34 (to_0 hv) rfl (by omega) ?_
    exact R_aret hX (Or.inr ⟨_, rfl⟩) dX7_row_55 ⟨by unfold rwN; first | rw [if_pos (by omega)] | rw [if_neg (by omega), if_pos (by omega)] | rw [if_neg (by omega), if_neg (by omega), if_pos (by omega)] | rw [if_neg (by omega), if_neg (by omega), if_neg (by omega), if_pos (by omega)] | rw [if_neg (by omega), if_neg (by omega), if_neg (by omega), if_neg (by omega), if_pos (by omega)] | rw [if_neg (by omega), if_neg (by omega), if_neg (by omega), if_neg (by omega), if_neg (by omega)], rfl⟩
  · refine R_pcn (pc := 56) (by decide) ?_
    refine R_aload_0 hX dX7_row_56 ?_
    refine R_getq (v := v + 9) hX dX7_row_57 fl_X7_37 (to_0 hv) rfl (by omega) ?_
    exact R_aret hX (Or.inr ⟨_, rfl⟩) dX7_row_60 ⟨by unfold rwN; first | rw [if_pos (by omega)] | rw [if_neg (by omega), if_pos (by omega)] | rw [if_neg (by omega), if_neg (by omega), if_pos (by omega)] | rw [if_neg (by omega), if_neg (by omega), if_neg (by omega), if_pos (by omega)] | rw [if_neg (by omega), if_neg (by omega), if_neg (by omega), if_neg (by omega), if_pos (by omega)] | rw [if_neg (by omega), if_neg (by omega), if_neg (by omega), if_neg (by omega), if_neg (by omega)], rfl⟩
set_option maxRecDepth 100000 in
set_option maxHeartbeats 4000000 in
theorem c_addNode {V : VX} {T : Shp} {F : Hp} {v : Int} (hv : isSu v) {w p : Int} (hn : 0 ≤ F v 0 ∧ F v 0 < 12) (hp : (p < 0 ∨ p < F v 0) ∧ I32 p) : Ct V yX7_addNode cX7_addNode 6 none 1 21 0 0 (SH T) [vr V v, vl w, vi p] F (SH T) 0 (fun r F' => F' = adnS v w p F) := by
  refine Ct.of [some (vr V v), some (vl w), none, some (vi p), none, none] (by decide) (by simp [lg_sl, vi_cat, vl_cat, vr_cat]) rfl (by simp [asc, lv_args, vi_cat, vl_cat, vr_cat]) (fun X hV hX => ?_)
  subst hV
  refine R_aload_0 hX dX7_addNode_0 ?_
  refine R_geti hX dX7_addNode_1 fl_X7_61 (to_0 hv) rfl ?_
  refine R_bipush hX dX7_addNode_4 (by decide) ?_
  refine R_icmplt (tgt := 10) hX dX7_addNode_6 (by decide) ⟨by omega, by omega⟩ ⟨by omega, by omega⟩ (fun c_6 => ?_) (fun c_6 => ?_)
  · skip
    refine R_aload_0 hX dX7_addNode_10 ?_
    refine R_geti hX dX7_addNode_11 fl_X7_61 (to_0 hv) rfl ?_
    refine R_istore_4 hX c1_i dX7_addNode_14 ?_
    refine R_aload_0 hX dX7_addNode_16 ?_
    refine R_dup hX c1_r dX7_addNode_17 ?_
    refine R_geti hX dX7_addNode_18 fl_X7_61 (to_0 hv) rfl ?_
    refine R_iconst hX dX7_addNode_21 ?_
    refine R_iadd hX dX7_addNode_22 ?_
    refine R_puti hX dX7_addNode_23 fl_X7_61 (to_0 hv) rfl ?_
    refine R_aload_0 hX dX7_addNode_26 ?_
    refine R_getq (v := v + 1) hX dX7_addNode_27 fl_X7_9 (to_0 hv) rfl (by omega) ?_
    refine R_iload_4 hX dX7_addNode_30 ?_
    refine R_lload_1 hX dX7_addNode_32 ?_
    refine R_last hX dX7_addNode_33 (ta_1 hv) ⟨by omega, by omega⟩ ?_
    refine R_aload_0 hX dX7_addNode_34 ?_
    refine R_getq (v := v + 2) hX dX7_addNode_35 fl_X7_15 (to_0 hv) rfl (by omega) ?_
    refine R_iload_4 hX dX7_addNode_38 ?_
    refine R_iload_3 hX dX7_addNode_40 ?_
    refine R_iast hX dX7_addNode_41 (ta_2 hv) ⟨by omega, by omega⟩ ?_
    refine R_aload_0 hX dX7_addNode_42 ?_
    refine R_getq (v := v + 3) hX dX7_addNode_43 fl_X7_19 (to_0 hv) rfl (by omega) ?_
    refine R_iload_4 hX dX7_addNode_46 ?_
    refine R_iconst hX dX7_addNode_48 ?_
    refine R_iast hX dX7_addNode_49 (ta_3 hv) ⟨by omega, by omega⟩ ?_
    refine R_aload_0 hX dX7_addNode_50 ?_
    refine R_getq (v := v + 4) hX dX7_addNode_51 fl_X7_22 (to_0 hv) rfl (by omega) ?_
    refine R_iload_4 hX dX7_addNode_54 ?_
    refine R_iconst hX dX7_addNode_56 ?_
    refine R_iast hX dX7_addNode_57 (ta_4 hv) ⟨by omega, by omega⟩ ?_
    refine R_aload_0 hX dX7_addNode_58 ?_
    refine R_getq (v := v + 11) hX dX7_addNode_59 fl_X7_43 (to_0 hv) rfl (by omega) ?_
    refine R_iload_4 hX dX7_addNode_62 ?_
    refine R_iconst hX dX7_addNode_64 ?_
    refine R_zast hX dX7_addNode_65 (ta_11 hv) ⟨by omega, by omega⟩ (by omega) ?_
    refine R_iconst hX dX7_addNode_66 ?_
    refine R_istore_5 hX c1_i dX7_addNode_67 ?_
    have lp_69 : ∀ (n : Nat) (i : Int), (0 ≤ i ∧ i ≤ 6) → (7 - i).toNat < n → R X (SH T) 0 0 69 [some (vr (xV X) v), some (vl w), none, some (vi p), some (vi (F v 0)), some (vi i)] [] (dfS v (F v 0) i.toNat (up (up (up (up (up (up F v 0 (F v 0 + 1)) (v + 1) (F v 0) w) (v + 2) (F v 0) p) (v + 3) (F v 0) 0) (v + 4) (F v 0) 0) (v + 11) (F v 0) 0)) (Zq X (SH T) 0 (fun r F' => F' = adnS v w p F) 0 0) := by
      intro n
      induction n with
      | zero => intro i iv69_0 hm; exact absurd hm (Nat.not_lt_zero _)
      | succ n ih_69 =>
        intro i iv69_0 hm_69
        refine R_iload_5 hX dX7_addNode_69 ?_
        refine R_bipush hX dX7_addNode_71 (by decide) ?_
        refine R_icmpge (tgt := 97) hX dX7_addNode_73 (by decide) ⟨by omega, by omega⟩ ⟨by omega, by omega⟩ (fun c_73 => ?_) (fun c_73 => ?_)
        · skip
          have hi : i = 6 := by omega
          subst hi
          refine R.eq rfl rfl (show _ = ad0S v w p F from rfl) ?_
          refine R_iload_3 hX dX7_addNode_97 ?_
          refine R_iflt (tgt := 132) hX dX7_addNode_98 (by decide) ⟨by omega, by omega⟩ (fun c_98 => ?_) (fun c_98 => ?_)
          · skip
            exact R_vret hX dX7_addNode_132 (by unfold adnS; first | (rw [if_neg (by omega)]; done) | (rw [if_pos (by omega)]; congr 1; (congr 1; (unfold ad0S; rw [dfS_r (by omega)]; simp (disch := omega) only [up_k, up_i])); (rw [up_k (by omega)]; unfold ad0S; rw [dfS_r (by omega)]; simp (disch := omega) only [up_k, up_i])))
          · skip
            refine R_iload_3 hX dX7_addNode_101 ?_
            refine R_iload_4 hX dX7_addNode_102 ?_
            refine R_icmpge (tgt := 132) hX dX7_addNode_104 (by decide) ⟨by omega, by omega⟩ ⟨by omega, by omega⟩ (fun c_104 => ?_) (fun c_104 => ?_)
            · exact absurd c_104 (by omega)
            · skip
              refine R_aload_0 hX dX7_addNode_107 ?_
              refine R_getq (v := v + 3) hX dX7_addNode_108 fl_X7_19 (to_0 hv) rfl (by omega) ?_
              refine R_iload_4 hX dX7_addNode_111 ?_
              refine R_aload_0 hX dX7_addNode_113 ?_
              refine R_getq (v := v + 3) hX dX7_addNode_114 fl_X7_19 (to_0 hv) rfl (by omega) ?_
              refine R_iload_3 hX dX7_addNode_117 ?_
              refine R_iald hX dX7_addNode_118 (ta_3 hv) ⟨by omega, by omega⟩ ?_
              refine R_iconst hX dX7_addNode_119 ?_
              refine R_iadd hX dX7_addNode_120 ?_
              refine R_iast hX dX7_addNode_121 (ta_3 hv) ⟨by omega, by omega⟩ ?_
              refine R_aload_0 hX dX7_addNode_122 ?_
              refine R_getq (v := v + 4) hX dX7_addNode_123 fl_X7_22 (to_0 hv) rfl (by omega) ?_
              refine R_iload_3 hX dX7_addNode_126 ?_
              refine R_dup2 hX c1_i c1_r dX7_addNode_127 ?_
              refine R_iald hX dX7_addNode_128 (ta_4 hv) ⟨by omega, by omega⟩ ?_
              refine R_iconst hX dX7_addNode_129 ?_
              refine R_iadd hX dX7_addNode_130 ?_
              refine R_iast hX dX7_addNode_131 (ta_4 hv) ⟨by omega, by omega⟩ ?_
              exact R_vret hX dX7_addNode_132 (by unfold adnS; first | (rw [if_neg (by omega)]; done) | (rw [if_pos (by omega)]; congr 1; (congr 1; (unfold ad0S; rw [dfS_r (by omega)]; simp (disch := omega) only [up_k, up_i])); (rw [up_k (by omega)]; unfold ad0S; rw [dfS_r (by omega)]; simp (disch := omega) only [up_k, up_i])))
        · skip
          refine R_aload_0 hX dX7_addNode_76 ?_
          refine R_iload_5 hX dX7_addNode_77 ?_
          refine R_v1r hX dX7_addNode_79 li_X7_71 mk_X7_row mi_X7_row rfl (to_0 hv) (c_suRow hv (by constructor <;> omega)) ⟨⟨by decide, by decide⟩, by decide, by decide, rfl, Nat.le_of_ble_eq_true rfl, rfl⟩ (fun x_79 F_79 h_79 => ?_)
          obtain ⟨h_79, e_79⟩ := h_79; replace e_79 := e_79.symm; subst e_79
          have hrow : isA (SH T) x_79 .int 12 := by rw [h_79]; exact ta_row hv
          subst h_79
          refine R_iload_4 hX dX7_addNode_82 ?_
          refine R_getsN hX hX.2.2.2.2.2.2.1.2.2.2.2.2.1 gs_DEFAULTS dX7_addNode_84 ?_
          refine R_iload_5 hX dX7_addNode_87 ?_
          refine R_tald hX hX.2.2.2.2.2.2.1.2.2.2.2.2.2.1 dX7_addNode_89 ⟨by omega, by omega⟩ ?_
          refine R_iast hX dX7_addNode_90 hrow ⟨by omega, by omega⟩ ?_
          refine R.eq rfl rfl (dfS_s iv69_0.1).symm ?_
          refine R_iinc_5 hX c1_i dX7_addNode_91 ?_
          refine R_goto (tgt := 69) hX dX7_addNode_94 (by decide) ?_
          exact ih_69 _ (by omega) (by omega)
    exact lp_69 8 0 (by omega) (by omega)
  · exact absurd c_6 (by omega)
set_option maxRecDepth 100000 in
set_option maxHeartbeats 4000000 in
theorem c_chgAdd {V : VX} {T : Shp} {F : Hp} {v : Int} (hv : isSu v) {t n s x : Int} (hn : 0 ≤ F (v + 12) 0 ∧ F (v + 12) 0 < 12) : Ct V yX1_add cX1_add 5 none 0 0 0 0 (SH T) [vr V (v + 12), vi t, vi n, vi s, vi x] F (SH T) 0 (fun r F' => F' = chaS v t n s x F) := by
  refine Ct.of [some (vr V (v + 12)), some (vi t), some (vi n), some (vi s), some (vi x)] (by decide) (by simp [lg_sl, vi_cat, vl_cat, vr_cat]) rfl (by simp [asc, lv_args, vi_cat, vl_cat, vr_cat]) (fun X hV hX => ?_)
  subst hV
  refine R_aload_0 hX dX1_add_0 ?_
  refine R_geti hX dX1_add_1 fl_X1_24 (to_12 hv) rfl ?_
  refine R_bipush hX dX1_add_4 (by decide) ?_
  refine R_icmplt (tgt := 10) hX dX1_add_6 (by decide) (by constructor <;> first | omega | (simp (disch := omega) only [up_k, up_i, up_s]; omega)) (by constructor <;> first | omega | (simp (disch := omega) only [up_k, up_i, up_s]; omega)) (fun c_6 => ?_) (fun c_6 => ?_)
  · skip
    refine R_aload_0 hX dX1_add_10 ?_
    refine R_getq (v := v + 13) hX dX1_add_11 fl_X1_9 (to_12 hv) rfl (by omega) ?_
    refine R_aload_0 hX dX1_add_14 ?_
    refine R_geti hX dX1_add_15 fl_X1_24 (to_12 hv) rfl ?_
    refine R_iload_1 hX dX1_add_18 ?_
    refine R_iast hX dX1_add_19 (ta_13 hv) ⟨by omega, by omega⟩ ?_
    refine R_aload_0 hX dX1_add_20 ?_
    refine R_getq (v := v + 14) hX dX1_add_21 fl_X1_15 (to_12 hv) rfl (by omega) ?_
    refine R_aload_0 hX dX1_add_24 ?_
    refine R_geti hX dX1_add_25 fl_X1_24 (to_12 hv) rfl ?_
    refine R_iload_2 hX dX1_add_28 ?_
    refine R_iast hX dX1_add_29 (ta_14 hv) (by simp (disch := omega) only [up_k]; constructor <;> omega) ?_
    refine R_aload_0 hX dX1_add_30 ?_
    refine R_getq (v := v + 15) hX dX1_add_31 fl_X1_18 (to_12 hv) rfl (by omega) ?_
    refine R_aload_0 hX dX1_add_34 ?_
    refine R_geti hX dX1_add_35 fl_X1_24 (to_12 hv) rfl ?_
    refine R_iload_3 hX dX1_add_38 ?_
    refine R_iast hX dX1_add_39 (ta_15 hv) (by simp (disch := omega) only [up_k]; constructor <;> omega) ?_
    refine R_aload_0 hX dX1_add_40 ?_
    refine R_getq (v := v + 16) hX dX1_add_41 fl_X1_21 (to_12 hv) rfl (by omega) ?_
    refine R_aload_0 hX dX1_add_44 ?_
    refine R_geti hX dX1_add_45 fl_X1_24 (to_12 hv) rfl ?_
    refine R_iload_4 hX dX1_add_48 ?_
    refine R_iast hX dX1_add_50 (ta_16 hv) (by simp (disch := omega) only [up_k]; constructor <;> omega) ?_
    refine R_aload_0 hX dX1_add_51 ?_
    refine R_dup hX c1_r dX1_add_52 ?_
    refine R_geti hX dX1_add_53 fl_X1_24 (to_12 hv) rfl ?_
    refine R_iconst hX dX1_add_56 ?_
    refine R_iadd hX dX1_add_57 ?_
    refine R_puti hX dX1_add_58 fl_X1_24 (to_12 hv) rfl ?_
    exact R_vret hX dX1_add_61 (by unfold chaS; simp (disch := omega) only [up_k])
  · exact absurd c_6 (by omega)
