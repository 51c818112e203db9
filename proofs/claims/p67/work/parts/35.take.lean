/-! the reader's steps: the fault's code, and the cells -/
def fnF (nm : Int → Int) (w N : Int) : Nat → Int → Int
  | 0, _ => -2
  | k + 1, i => if N ≤ i then -2 else if nm i = w then i else fnF nm w N k (i + 1)
theorem fnF_none {nm : Int → Int} {w N : Int} : ∀ (k : Nat) (i : Int), (∀ n, i ≤ n → n < N → nm n ≠ w) → fnF nm w N k i = -2
  | 0, i, _ => rfl
  | k + 1, i, h => by
    unfold fnF
    by_cases q : N ≤ i
    · rw [if_pos q]
    · rw [if_neg q, if_neg (h i (Int.le_refl _) (by omega)), fnF_none k (i + 1) (fun n h1 h2 => h n (by omega) h2)]
theorem fnF_hit {nm : Int → Int} {w N r : Int} : ∀ (k : Nat) (i : Int), N - i ≤ k → i ≤ r → r < N → nm r = w → (∀ n, i ≤ n → n < r → nm n ≠ w) → fnF nm w N k i = r
  | 0, i, h, h1, h2, _, _ => by omega
  | k + 1, i, h, h1, h2, h3, h4 => by
    unfold fnF
    rw [if_neg (by omega)]
    by_cases q : i = r
    · rw [if_pos (by rw [q]; exact h3), q]
    · rw [if_neg (h4 i (Int.le_refl _) (by omega)), fnF_hit k (i + 1) (by omega) (by omega) h2 h3 (fun n z1 z2 => h4 n (by omega) z2)]
theorem fnF_rng {nm : Int → Int} {w N : Int} : ∀ (k : Nat) (i : Int), fnF nm w N k i = -2 ∨ (i ≤ fnF nm w N k i ∧ fnF nm w N k i < N ∧ nm (fnF nm w N k i) = w)
  | 0, i => Or.inl rfl
  | k + 1, i => by
    unfold fnF
    split
    · exact Or.inl rfl
    · split
      · rename_i h1 h2
        exact Or.inr ⟨Int.le_refl _, by omega, h2⟩
      · rcases fnF_rng (nm := nm) (w := w) (N := N) k (i + 1) with h | h
        · exact Or.inl h
        · exact Or.inr ⟨by omega, h.2.1, h.2.2⟩
def fndS (v w : Int) (F : Hp) : Int := fnF (F (v + 1)) w (F v 0) 12 0
theorem fndS_of {v w r : Int} {F : Hp} (hN : F v 0 ≤ 12) (h : (r = -2 ∧ ∀ n : Int, 0 ≤ n → n < F v 0 → F (v + 1) n ≠ w) ∨ (0 ≤ r ∧ r < F v 0 ∧ F (v + 1) r = w ∧ ∀ n : Int, 0 ≤ n → n < r → F (v + 1) n ≠ w)) : r = fndS v w F := by
  unfold fndS
  rcases h with ⟨h1, h2⟩ | ⟨h1, h2, h3, h4⟩
  · rw [h1, fnF_none _ _ h2]
  · rw [fnF_hit 12 0 (by omega) h1 h2 h3 h4]
theorem fndS_rng (v w : Int) (F : Hp) : fndS v w F = -2 ∨ (0 ≤ fndS v w F ∧ fndS v w F < F v 0 ∧ F (v + 1) (fndS v w F) = w) := fnF_rng 12 0
def nmf (lo hi : Int) (F : Hp) : Int := if F 21 1 ≠ 2 then 1 else if lo ≤ F 21 5 ∧ F 21 5 ≤ hi then 0 else 2
def nmg (s : Int) (F : Hp) : Int := nmf (tabL s.toNat) (tabG s.toNat) F
def tkStm (v : Int) (F : Hp) : Int × Hp := if F 21 4 = 7 then (if F v 0 = 12 then 5 else 0, up F 3 4 1) else if F 21 4 = 9 then (if F 3 5 = 0 then 0 else 4, up F 3 4 6) else if F 21 4 = 10 then (if F v 14 = -1 then 0 else 4, up F 3 4 7) else if F 21 4 = 11 then (if F (v + 12) 0 = 12 then 5 else 0, up F 3 4 8) else (1, F)
def rdAd (v p : Int) (F : Hp) : Hp := up (up (adnS v (F 3 6) p F) 3 7 0) 3 4 4
def tkNam (v : Int) (F : Hp) : Int × Hp := if ¬ (F 21 1 = 1 ∧ F 21 4 = -1) then (1, F) else if fndS v (F 21 3) F ≠ -2 then (3, F) else if F v 0 = 0 then (0, rdAd v (-2) (up F 3 6 (F 21 3))) else (0, up (up F 3 6 (F 21 3)) 3 4 2)
def tkInn (F : Hp) : Int × Hp := (if F 21 4 = 8 then 0 else 1, up F 3 4 3)
def tkPar (v : Int) (F : Hp) : Int × Hp := if ¬ (F 21 1 = 1 ∧ F 21 4 = -1) then (1, F) else if fndS v (F 21 3) F = -2 then (3, F) else (0, rdAd v (fndS v (F 21 3) F) F)
def finS (v : Int) (F : Hp) : Hp := if gvn (F 3 7) 1 = 0 then up (up F (v + 6) (F v 0 - 1) (F (v + 5) (F v 0 - 1))) 3 4 0 else up F 3 4 0
def tkSet (v : Int) (F : Hp) : Int × Hp := if F 21 1 = 3 then (0, finS v F) else if F 21 4 < 0 ∨ 6 < F 21 4 then (1, up F 3 8 (F 21 4)) else if gvn (F 3 7) (F 21 4) = 1 then (4, up F 3 8 (F 21 4)) else if F 21 4 = 6 then (0, up (up (up F 3 8 (F 21 4)) 3 7 (ior (F 3 7) (ishl 1 (F 21 4)))) (v + 11) (F v 0 - 1) 1) else (0, up (up (up F 3 8 (F 21 4)) 3 7 (ior (F 3 7) (ishl 1 (F 21 4)))) 3 4 5)
def tkVal (v : Int) (F : Hp) : Int × Hp := (nmg (F 3 8) F, up (if nmg (F 3 8) F = 0 then up F (v + rwN (F 3 8)) (F v 0 - 1) (F 21 5) else F) 3 4 4)
def tkLim (v : Int) (F : Hp) : Int × Hp := (nmf 0 99 F, up (up (up F v 13 (F 21 5)) 3 5 1) 3 4 12)
def tkAge (v : Int) (F : Hp) : Int × Hp := (nmf 0 999 F, up (up F v 14 (F 21 5)) 3 4 12)
def tkTim (F : Hp) : Int × Hp := (nmf 1 5000 F, up (up F 3 9 (F 21 5)) 3 4 9)
def tkChN (v : Int) (F : Hp) : Int × Hp := if ¬ (F 21 1 = 1 ∧ F 21 4 = -1) then (1, F) else (if fndS v (F 21 3) F = -2 then 3 else 0, up (up F 3 10 (fndS v (F 21 3) F)) 3 4 10)
def tkChS (F : Hp) : Int × Hp := (if F 21 4 = 0 ∨ F 21 4 = 1 ∨ F 21 4 = 4 then 0 else 1, up (up F 3 8 (F 21 4)) 3 4 11)
def tkChV (v : Int) (F : Hp) : Int × Hp := (nmg (F 3 8) F, up (if nmg (F 3 8) F = 0 then chaS v (F 3 9) (F 3 10) (F 3 8) (F 21 5) F else F) 3 4 12)
def tkEnd (F : Hp) : Int × Hp := (if F 21 1 = 3 then 0 else 1, up F 3 4 0)
def takS (v : Int) (F : Hp) : Int × Hp := if F 3 4 = 0 then tkStm v F else if F 3 4 = 1 then tkNam v F else if F 3 4 = 2 then tkInn F else if F 3 4 = 3 then tkPar v F else if F 3 4 = 4 then tkSet v F else if F 3 4 = 5 then tkVal v F else if F 3 4 = 6 then tkLim v F else if F 3 4 = 7 then tkAge v F else if F 3 4 = 8 then tkTim F else if F 3 4 = 9 then tkChN v F else if F 3 4 = 10 then tkChS F else if F 3 4 = 11 then tkChV v F else tkEnd F
abbrev W40 (x : Int) : Prop := 0 ≤ x ∧ x < 1099511627776
def RdI (v : Int) (F : Hp) : Prop := F 3 2 = v ∧ (0 ≤ F v 0 ∧ F v 0 ≤ 12) ∧ (0 ≤ F (v + 12) 0 ∧ F (v + 12) 0 ≤ 12) ∧ (∀ n : Int, 0 ≤ n → n < F v 0 → W40 (F (v + 1) n)) ∧ (0 ≤ F 3 4 ∧ F 3 4 ≤ 12) ∧ (0 ≤ F 3 5 ∧ F 3 5 ≤ 1) ∧ (-1 ≤ F v 14 ∧ F v 14 ≤ 999) ∧
  ((F 3 4 = 4 ∨ F 3 4 = 5) → 1 ≤ F v 0 ∧ 0 ≤ F 3 7 ∧ F 3 7 < 128) ∧ (F 3 4 = 5 → 0 ≤ F 3 8 ∧ F 3 8 < 6) ∧ (F 3 4 = 11 → F 3 8 = 0 ∨ F 3 8 = 1 ∨ F 3 8 = 4) ∧ (1 ≤ F 3 4 ∧ F 3 4 ≤ 3 → F v 0 < 12) ∧ ((F 3 4 = 2 ∨ F 3 4 = 3) → 1 ≤ F v 0 ∧ W40 (F 3 6)) ∧ (8 ≤ F 3 4 ∧ F 3 4 ≤ 11 → F (v + 12) 0 < 12)
def TkI (F : Hp) : Prop := (0 ≤ F 21 1 ∧ F 21 1 ≤ 4) ∧ (-1 ≤ F 21 4 ∧ F 21 4 ≤ 11) ∧ (F 21 1 = 1 → W40 (F 21 3)) ∧ (F 21 1 = 2 → 0 ≤ F 21 5 ∧ F 21 5 ≤ 9999)
theorem W40.i {x : Int} (h : W40 x) : I64 x := ⟨by have := h.1; omega, by have := h.2; omega⟩
set_option maxRecDepth 100000 in
set_option maxHeartbeats 4000000 in
theorem c_isName {V : VX} {T : Shp} {F : Hp} (hT : TkI F) : Ct V yX5_isName cX5_isName 1 (some .boolean) 0 0 0 0 (SH T) [vr V 3] F (SH T) 1 (fun r F' => ((r = 1 ∧ (F 21 1 = 1 ∧ F 21 4 = -1)) ∨ (r = 0 ∧ ¬ (F 21 1 = 1 ∧ F 21 4 = -1))) ∧ F' = F) := by
  refine Ct.of [some (vr V 3)] (by decide) (by simp [lg_sl, vi_cat, vl_cat, vr_cat]) rfl (by simp [asc, lv_args, vi_cat, vl_cat, vr_cat]) (fun X hV hX => ?_)
  subst hV
  obtain ⟨t1, t2, -, -⟩ := id hT
  refine R_aload_0 hX dX5_isName_0 ?_
  refine R_getq (v := 21) hX dX5_isName_1 fl_X5_25 o_3 rfl (by omega) ?_
  refine R_geti hX dX5_isName_4 fl_X5_36 o_21 rfl ?_
  refine R_iconst hX dX5_isName_7 ?_
  refine R_icmpne (tgt := 26) hX dX5_isName_8 (by decide) ⟨by omega, by omega⟩ ⟨by omega, by omega⟩ (fun c_8 => ?_) (fun c_8 => ?_)
  · skip
    refine R_iconst hX dX5_isName_26 ?_
    exact R_zret hX (by omega) dX5_isName_27 ⟨by omega, rfl⟩
  · skip
    refine R_aload_0 hX dX5_isName_11 ?_
    refine R_getq (v := 21) hX dX5_isName_12 fl_X5_25 o_3 rfl (by omega) ?_
    refine R_geti hX dX5_isName_15 fl_X5_99 o_21 rfl ?_
    refine R_iconst hX dX5_isName_18 ?_
    refine R_icmpne (tgt := 26) hX dX5_isName_19 (by decide) ⟨by omega, by omega⟩ ⟨by omega, by omega⟩ (fun c_19 => ?_) (fun c_19 => ?_)
    · skip
      refine R_iconst hX dX5_isName_26 ?_
      exact R_zret hX (by omega) dX5_isName_27 ⟨by omega, rfl⟩
    · skip
      refine R_iconst hX dX5_isName_22 ?_
      refine R_goto (tgt := 27) hX dX5_isName_23 (by decide) ?_
      exact R_zret hX (by omega) dX5_isName_27 ⟨by omega, rfl⟩
set_option maxRecDepth 100000 in
set_option maxHeartbeats 4000000 in
theorem c_rdAdd {V : VX} {T : Shp} {F : Hp} {v : Int} (hv : isSu v) (hd : F 3 2 = v) (hn : 0 ≤ F v 0 ∧ F v 0 < 12) {p : Int} (hp : (p < 0 ∨ p < F v 0) ∧ I32 p) : Ct V yX5_addNode cX5_addNode 2 none 2 46 0 0 (SH T) [vr V 3, vi p] F (SH T) 0 (fun r F' => F' = rdAd v p F) := by
  refine Ct.of [some (vr V 3), some (vi p)] (by decide) (by simp [lg_sl, vi_cat, vl_cat, vr_cat]) rfl (by simp [asc, lv_args, vi_cat, vl_cat, vr_cat]) (fun X hV hX => ?_)
  subst hV
  refine R_aload_0 hX dX5_addNode_0 ?_
  refine R_getoE (v := v) hX dX5_addNode_1 fl_X5_18 o_3 rfl hd ?_
  refine R_aload_0 hX dX5_addNode_4 ?_
  refine R_getl hX dX5_addNode_5 fl_X5_129 o_3 rfl ?_
  refine R_iload_1 hX dX5_addNode_8 ?_
  refine R_v2v hX dX5_addNode_9 li_X5_136 mk_X7_addNode mi_X7_addNode rfl (to_0 hv) (c_addNode hv hn hp) ⟨⟨by decide, by decide⟩, by decide, by decide, rfl, Nat.le_of_ble_eq_true rfl, rfl⟩ (fun x_9 F_9 h_9 => ?_)
  subst h_9
  refine R_aload_0 hX dX5_addNode_12 ?_
  refine R_iconst hX dX5_addNode_13 ?_
  refine R_puti hX dX5_addNode_14 fl_X5_139 o_3 rfl ?_
  refine R_aload_0 hX dX5_addNode_17 ?_
  refine R_iconst hX dX5_addNode_18 ?_
  refine R_puti hX dX5_addNode_19 fl_X5_39 o_3 rfl ?_
  exact R_vret hX dX5_addNode_22 rfl
set_option maxRecDepth 100000 in
set_option maxHeartbeats 4000000 in
theorem c_numFault {V : VX} {T : Shp} {F : Hp} (hT : TkI F) {s : Int} (hs : 0 ≤ s ∧ s < 6) : Ct V yX5_numberFault cX5_numberFault 2 (some .int) 1 21 0 0 (SH T) [vr V 3, vi s] F (SH T) 1 (fun r F' => r = nmg s F ∧ F' = F) := by
  refine Ct.of [some (vr V 3), some (vi s)] (by decide) (by simp [lg_sl, vi_cat, vl_cat, vr_cat]) rfl (by simp [asc, lv_args, vi_cat, vl_cat, vr_cat]) (fun X hV hX => ?_)
  subst hV
  obtain ⟨t1, t2, t3, t4⟩ := id hT
  refine R_aload_0 hX dX5_numberFault_0 ?_
  refine R_getq (v := 21) hX dX5_numberFault_1 fl_X5_25 o_3 rfl (by omega) ?_
  refine R_geti hX dX5_numberFault_4 fl_X5_36 o_21 rfl ?_
  refine R_iconst hX dX5_numberFault_7 ?_
  refine R_icmpeq (tgt := 13) hX dX5_numberFault_8 (by decide) ⟨by omega, by omega⟩ ⟨by omega, by omega⟩ (fun c_8 => ?_) (fun c_8 => ?_)
  · skip
    refine R_iload_1 hX dX5_numberFault_13 ?_
    refine R_aload_0 hX dX5_numberFault_14 ?_
    refine R_getq (v := 21) hX dX5_numberFault_15 fl_X5_25 o_3 rfl (by omega) ?_
    refine R_geti hX dX5_numberFault_18 fl_X5_171 o_21 rfl ?_
    refine R_sN2i hX dX5_numberFault_21 li_X5_174 mk_X11_isInRange ms_X11_isInRange (c_isInRange (by constructor <;> omega) (by constructor <;> omega)) ⟨⟨by decide, by decide⟩, by decide, by decide, rfl, Nat.le_of_ble_eq_true rfl, rfl⟩ (fun x_21 F_21 h_21 => ?_)
    obtain ⟨h_21, e_21⟩ := h_21; replace e_21 := e_21.symm; subst e_21
    refine R_ifeq (tgt := 31) hX dX5_numberFault_24 (by decide) ⟨by omega, by omega⟩ (fun c_24 => ?_) (fun c_24 => ?_)
    · skip
      refine R_iconst hX dX5_numberFault_31 ?_
      exact R_iret hX dX5_numberFault_32 ⟨by unfold nmg nmf; first | (rw [if_pos (by omega)]; done) | (rw [if_neg (by omega)]; unfold inR at h_21; first | (rw [if_pos (by omega)]; done) | (rw [if_neg (by omega)]; done)), rfl⟩
    · skip
      refine R_iconst hX dX5_numberFault_27 ?_
      refine R_goto (tgt := 32) hX dX5_numberFault_28 (by decide) ?_
      exact R_iret hX dX5_numberFault_32 ⟨by unfold nmg nmf; first | (rw [if_pos (by omega)]; done) | (rw [if_neg (by omega)]; unfold inR at h_21; first | (rw [if_pos (by omega)]; done) | (rw [if_neg (by omega)]; done)), rfl⟩
  · skip
    refine R_iconst hX dX5_numberFault_11 ?_
    exact R_iret hX dX5_numberFault_12 ⟨by unfold nmg nmf; first | (rw [if_pos (by omega)]; done) | (rw [if_neg (by omega)]; unfold inR at h_21; first | (rw [if_pos (by omega)]; done) | (rw [if_neg (by omega)]; done)), rfl⟩
set_option maxRecDepth 100000 in
set_option maxHeartbeats 4000000 in
theorem c_numFault2 {V : VX} {T : Shp} {F : Hp} (hT : TkI F) {lo hi : Int} (hl : I32 lo) (hh : I32 hi) : Ct V yX5_numberFault_ cX5_numberFault_ 3 (some .int) 0 0 0 0 (SH T) [vr V 3, vi lo, vi hi] F (SH T) 1 (fun r F' => r = nmf lo hi F ∧ F' = F) := by
  refine Ct.of [some (vr V 3), some (vi lo), some (vi hi)] (by decide) (by simp [lg_sl, vi_cat, vl_cat, vr_cat]) rfl (by simp [asc, lv_args, vi_cat, vl_cat, vr_cat]) (fun X hV hX => ?_)
  subst hV
  obtain ⟨t1, t2, t3, t4⟩ := id hT
  refine R_aload_0 hX dX5_numberFault__0 ?_
  refine R_getq (v := 21) hX dX5_numberFault__1 fl_X5_25 o_3 rfl (by omega) ?_
  refine R_geti hX dX5_numberFault__4 fl_X5_36 o_21 rfl ?_
  refine R_iconst hX dX5_numberFault__7 ?_
  refine R_icmpeq (tgt := 13) hX dX5_numberFault__8 (by decide) ⟨by omega, by omega⟩ ⟨by omega, by omega⟩ (fun c_8 => ?_) (fun c_8 => ?_)
  · skip
    refine R_aload_0 hX dX5_numberFault__13 ?_
    refine R_getq (v := 21) hX dX5_numberFault__14 fl_X5_25 o_3 rfl (by omega) ?_
    refine R_geti hX dX5_numberFault__17 fl_X5_171 o_21 rfl ?_
    refine R_iload_1 hX dX5_numberFault__20 ?_
    refine R_icmplt (tgt := 39) hX dX5_numberFault__21 (by decide) ⟨by omega, by omega⟩ ⟨by omega, by omega⟩ (fun c_21 => ?_) (fun c_21 => ?_)
    · skip
      refine R_iconst hX dX5_numberFault__39 ?_
      exact R_iret hX dX5_numberFault__40 ⟨by unfold nmf; first | (rw [if_pos (by omega)]; done) | (rw [if_neg (by omega)]; first | (rw [if_pos (by omega)]; done) | (rw [if_neg (by omega)]; done)), rfl⟩
    · skip
      refine R_aload_0 hX dX5_numberFault__24 ?_
      refine R_getq (v := 21) hX dX5_numberFault__25 fl_X5_25 o_3 rfl (by omega) ?_
      refine R_geti hX dX5_numberFault__28 fl_X5_171 o_21 rfl ?_
      refine R_iload_2 hX dX5_numberFault__31 ?_
      refine R_icmpgt (tgt := 39) hX dX5_numberFault__32 (by decide) ⟨by omega, by omega⟩ ⟨by omega, by omega⟩ (fun c_32 => ?_) (fun c_32 => ?_)
      · skip
        refine R_iconst hX dX5_numberFault__39 ?_
        exact R_iret hX dX5_numberFault__40 ⟨by unfold nmf; first | (rw [if_pos (by omega)]; done) | (rw [if_neg (by omega)]; first | (rw [if_pos (by omega)]; done) | (rw [if_neg (by omega)]; done)), rfl⟩
      · skip
        refine R_iconst hX dX5_numberFault__35 ?_
        refine R_goto (tgt := 40) hX dX5_numberFault__36 (by decide) ?_
        exact R_iret hX dX5_numberFault__40 ⟨by unfold nmf; first | (rw [if_pos (by omega)]; done) | (rw [if_neg (by omega)]; first | (rw [if_pos (by omega)]; done) | (rw [if_neg (by omega)]; done)), rfl⟩
  · skip
    refine R_iconst hX dX5_numberFault__11 ?_
    exact R_iret hX dX5_numberFault__12 ⟨by unfold nmf; first | (rw [if_pos (by omega)]; done) | (rw [if_neg (by omega)]; first | (rw [if_pos (by omega)]; done) | (rw [if_neg (by omega)]; done)), rfl⟩
set_option maxRecDepth 100000 in
set_option maxHeartbeats 4000000 in
theorem c_tkStm {V : VX} {T : Shp} {F : Hp} {v : Int} (hv : isSu v) (hR : RdI v F) (hT : TkI F) (hE : F 3 4 = 0)  : Ct V yX5_takeStatement cX5_takeStatement 1 (some .int) 0 0 0 0 (SH T) [vr V 3] F (SH T) 1 (fun r F' => r = (tkStm v F).1 ∧ F' = (tkStm v F).2) := by
  refine Ct.of [some (vr V 3)] (by decide) (by simp [lg_sl, vi_cat, vl_cat, vr_cat]) rfl (by simp [asc, lv_args, vi_cat, vl_cat, vr_cat]) (fun X hV hX => ?_)
  subst hV
  obtain ⟨r1, r2, r3, r4, r5, r6, r7, r8, r9, r10, r11, r12, r13⟩ := id hR
  obtain ⟨t1, t2, t3, t4⟩ := id hT
  refine R_aload_0 hX dX5_takeStatement_0 ?_
  refine R_getq (v := 21) hX dX5_takeStatement_1 fl_X5_25 o_3 rfl (by omega) ?_
  refine R_geti hX dX5_takeStatement_4 fl_X5_99 o_21 rfl ?_
  try simp (disch := omega) only [up_k, up_i, up_s]
  refine R_tab (offs := [33, 125, 56, 75, 98]) hX dX5_takeStatement_7 (by constructor <;> first | omega | (simp (disch := omega) only [up_k, up_i, up_s]; omega)) (by decide) (by decide) (fun c_7 => ?_) ⟨fun c_7 => ?_, fun c_7 => ?_, fun c_7 => ?_, fun c_7 => ?_, fun c_7 => ?_, trivial⟩
  · refine R_pcn (pc := 132) (by decide) ?_
    refine R_iconst hX dX5_takeStatement_132 ?_
    exact R_iret hX dX5_takeStatement_133 (by unfold tkStm; (repeat (first | rw [if_pos (by omega)] | rw [if_neg (by omega)])); exact ⟨rfl, rfl⟩)
  · refine R_pcn (pc := 40) (by decide) ?_
    refine R_aload_0 hX dX5_takeStatement_40 ?_
    refine R_iconst hX dX5_takeStatement_41 ?_
    refine R_puti hX dX5_takeStatement_42 fl_X5_39 o_3 rfl ?_
    refine R_aload_0 hX dX5_takeStatement_45 ?_
    refine R_getoE (v := v) hX dX5_takeStatement_46 fl_X5_18 o_3 rfl (by first | exact hR.1 | (simp (disch := omega) only [up_k, up_i]; exact hR.1)) ?_
    refine R_geti hX dX5_takeStatement_49 fl_X5_102 (to_0 hv) rfl ?_
    try simp (disch := omega) only [up_k, up_i, up_s]
    refine R_bipush hX dX5_takeStatement_52 (by decide) ?_
    refine R_icmpne (tgt := 61) hX dX5_takeStatement_54 (by decide) (by constructor <;> first | omega | (simp (disch := omega) only [up_k, up_i, up_s]; omega)) (by constructor <;> first | omega | (simp (disch := omega) only [up_k, up_i, up_s]; omega)) (fun c_54 => ?_) (fun c_54 => ?_)
    · skip
      refine R_iconst hX dX5_takeStatement_61 ?_
      exact R_iret hX dX5_takeStatement_62 (by unfold tkStm; (repeat (first | rw [if_pos (by omega)] | rw [if_neg (by omega)])); exact ⟨rfl, rfl⟩)
    · skip
      refine R_iconst hX dX5_takeStatement_57 ?_
      refine R_goto (tgt := 62) hX dX5_takeStatement_58 (by decide) ?_
      exact R_iret hX dX5_takeStatement_62 (by unfold tkStm; (repeat (first | rw [if_pos (by omega)] | rw [if_neg (by omega)])); exact ⟨rfl, rfl⟩)
  · refine R_pcn (pc := 132) (by decide) ?_
    refine R_iconst hX dX5_takeStatement_132 ?_
    exact R_iret hX dX5_takeStatement_133 (by unfold tkStm; (repeat (first | rw [if_pos (by omega)] | rw [if_neg (by omega)])); exact ⟨rfl, rfl⟩)
  · refine R_pcn (pc := 63) (by decide) ?_
    refine R_aload_0 hX dX5_takeStatement_63 ?_
    refine R_bipush hX dX5_takeStatement_64 (by decide) ?_
    refine R_puti hX dX5_takeStatement_66 fl_X5_39 o_3 rfl ?_
    refine R_aload_0 hX dX5_takeStatement_69 ?_
    refine R_getz hX dX5_takeStatement_70 fl_X5_56 o_3 rfl ?_
    try simp (disch := omega) only [up_k, up_i, up_s]
    refine R_ifeq (tgt := 80) hX dX5_takeStatement_73 (by decide) (by constructor <;> first | omega | (simp (disch := omega) only [up_k, up_i, up_s]; omega)) (fun c_73 => ?_) (fun c_73 => ?_)
    · skip
      refine R_iconst hX dX5_takeStatement_80 ?_
      exact R_iret hX dX5_takeStatement_81 (by unfold tkStm; (repeat (first | rw [if_pos (by omega)] | rw [if_neg (by omega)])); exact ⟨rfl, rfl⟩)
    · skip
      refine R_iconst hX dX5_takeStatement_76 ?_
      refine R_goto (tgt := 81) hX dX5_takeStatement_77 (by decide) ?_
      exact R_iret hX dX5_takeStatement_81 (by unfold tkStm; (repeat (first | rw [if_pos (by omega)] | rw [if_neg (by omega)])); exact ⟨rfl, rfl⟩)
  · refine R_pcn (pc := 82) (by decide) ?_
    refine R_aload_0 hX dX5_takeStatement_82 ?_
    refine R_bipush hX dX5_takeStatement_83 (by decide) ?_
    refine R_puti hX dX5_takeStatement_85 fl_X5_39 o_3 rfl ?_
    refine R_aload_0 hX dX5_takeStatement_88 ?_
    refine R_getoE (v := v) hX dX5_takeStatement_89 fl_X5_18 o_3 rfl (by first | exact hR.1 | (simp (disch := omega) only [up_k, up_i]; exact hR.1)) ?_
    refine R_geti hX dX5_takeStatement_92 fl_X5_105 (to_0 hv) rfl ?_
    try simp (disch := omega) only [up_k, up_i, up_s]
    refine R_iconst hX dX5_takeStatement_95 ?_
    refine R_icmpeq (tgt := 103) hX dX5_takeStatement_96 (by decide) (by constructor <;> first | omega | (simp (disch := omega) only [up_k, up_i, up_s]; omega)) (by constructor <;> first | omega | (simp (disch := omega) only [up_k, up_i, up_s]; omega)) (fun c_96 => ?_) (fun c_96 => ?_)
    · skip
      refine R_iconst hX dX5_takeStatement_103 ?_
      exact R_iret hX dX5_takeStatement_104 (by unfold tkStm; (repeat (first | rw [if_pos (by omega)] | rw [if_neg (by omega)])); exact ⟨rfl, rfl⟩)
    · skip
      refine R_iconst hX dX5_takeStatement_99 ?_
      refine R_goto (tgt := 104) hX dX5_takeStatement_100 (by decide) ?_
      exact R_iret hX dX5_takeStatement_104 (by unfold tkStm; (repeat (first | rw [if_pos (by omega)] | rw [if_neg (by omega)])); exact ⟨rfl, rfl⟩)
  · refine R_pcn (pc := 105) (by decide) ?_
    refine R_aload_0 hX dX5_takeStatement_105 ?_
    refine R_bipush hX dX5_takeStatement_106 (by decide) ?_
    refine R_puti hX dX5_takeStatement_108 fl_X5_39 o_3 rfl ?_
    refine R_aload_0 hX dX5_takeStatement_111 ?_
    refine R_getoE (v := v) hX dX5_takeStatement_112 fl_X5_18 o_3 rfl (by first | exact hR.1 | (simp (disch := omega) only [up_k, up_i]; exact hR.1)) ?_
    refine R_getq (v := v + 12) hX dX5_takeStatement_115 fl_X5_108 (to_0 hv) rfl (by omega) ?_
    refine R_geti hX dX5_takeStatement_118 fl_X5_112 (to_12 hv) rfl ?_
    try simp (disch := omega) only [up_k, up_i, up_s]
    refine R_bipush hX dX5_takeStatement_121 (by decide) ?_
    refine R_icmpne (tgt := 130) hX dX5_takeStatement_123 (by decide) (by constructor <;> first | omega | (simp (disch := omega) only [up_k, up_i, up_s]; omega)) (by constructor <;> first | omega | (simp (disch := omega) only [up_k, up_i, up_s]; omega)) (fun c_123 => ?_) (fun c_123 => ?_)
    · skip
      refine R_iconst hX dX5_takeStatement_130 ?_
      exact R_iret hX dX5_takeStatement_131 (by unfold tkStm; (repeat (first | rw [if_pos (by omega)] | rw [if_neg (by omega)])); exact ⟨rfl, rfl⟩)
    · skip
      refine R_iconst hX dX5_takeStatement_126 ?_
      refine R_goto (tgt := 131) hX dX5_takeStatement_127 (by decide) ?_
      exact R_iret hX dX5_takeStatement_131 (by unfold tkStm; (repeat (first | rw [if_pos (by omega)] | rw [if_neg (by omega)])); exact ⟨rfl, rfl⟩)
set_option maxRecDepth 100000 in
set_option maxHeartbeats 4000000 in
theorem c_tkNam {V : VX} {T : Shp} {F : Hp} {v : Int} (hv : isSu v) (hR : RdI v F) (hT : TkI F) (hE : F 3 4 = 1)  : Ct V yX5_takeNodeName cX5_takeNodeName 1 (some .int) 3 67 0 0 (SH T) [vr V 3] F (SH T) 1 (fun r F' => r = (tkNam v F).1 ∧ F' = (tkNam v F).2) := by
  refine Ct.of [some (vr V 3)] (by decide) (by simp [lg_sl, vi_cat, vl_cat, vr_cat]) rfl (by simp [asc, lv_args, vi_cat, vl_cat, vr_cat]) (fun X hV hX => ?_)
  subst hV
  obtain ⟨r1, r2, r3, r4, r5, r6, r7, r8, r9, r10, r11, r12, r13⟩ := id hR
  obtain ⟨t1, t2, t3, t4⟩ := id hT
  refine R_aload_0 hX dX5_takeNodeName_0 ?_
  refine R_v0i hX dX5_takeNodeName_1 li_X5_117 mk_X5_isName mi_X5_isName rfl o_3 (c_isName hT) ⟨⟨by decide, by decide⟩, by decide, by decide, rfl, Nat.le_of_ble_eq_true rfl, rfl⟩ (fun x_1 F_1 h_1 => ?_)
  obtain ⟨h_1, e_1⟩ := h_1; replace e_1 := e_1.symm; subst e_1
  refine R_ifne (tgt := 9) hX dX5_takeNodeName_4 (by decide) (by constructor <;> first | omega | (simp (disch := omega) only [up_k, up_i, up_s]; omega)) (fun c_4 => ?_) (fun c_4 => ?_)
  · skip
    refine R_aload_0 hX dX5_takeNodeName_9 ?_
    refine R_getoE (v := v) hX dX5_takeNodeName_10 fl_X5_18 o_3 rfl (by first | exact hR.1 | (simp (disch := omega) only [up_k, up_i]; exact hR.1)) ?_
    refine R_aload_0 hX dX5_takeNodeName_13 ?_
    refine R_getq (v := 21) hX dX5_takeNodeName_14 fl_X5_25 o_3 rfl (by omega) ?_
    refine R_getl hX dX5_takeNodeName_17 fl_X5_121 o_21 rfl ?_
    try simp (disch := omega) only [up_k, up_i, up_s]
    refine R_v1i hX dX5_takeNodeName_20 li_X5_125 mk_X7_findNode mi_X7_findNode rfl (to_0 hv) (c_findNode hv r2 (fun n q0 q1 => (r4 n q0 q1).i) (t3 (by omega)).i) ⟨⟨by decide, by decide⟩, by decide, by decide, rfl, Nat.le_of_ble_eq_true rfl, rfl⟩ (fun x_20 F_20 h_20 => ?_)
    obtain ⟨h_20, e_20⟩ := h_20; replace e_20 := e_20.symm; subst e_20
    replace h_20 := fndS_of r2.2 h_20
    subst h_20
    have hf := fndS_rng v (F 21 3) F
    refine R_bipush hX dX5_takeNodeName_23 (by decide) ?_
    refine R_icmpeq (tgt := 30) hX dX5_takeNodeName_25 (by decide) (by constructor <;> first | omega | (simp (disch := omega) only [up_k, up_i, up_s]; omega)) (by constructor <;> first | omega | (simp (disch := omega) only [up_k, up_i, up_s]; omega)) (fun c_25 => ?_) (fun c_25 => ?_)
    · skip
      refine R_aload_0 hX dX5_takeNodeName_30 ?_
      refine R_aload_0 hX dX5_takeNodeName_31 ?_
      refine R_getq (v := 21) hX dX5_takeNodeName_32 fl_X5_25 o_3 rfl (by omega) ?_
      refine R_getl hX dX5_takeNodeName_35 fl_X5_121 o_21 rfl ?_
      try simp (disch := omega) only [up_k, up_i, up_s]
      refine R_putl hX dX5_takeNodeName_38 fl_X5_129 o_3 rfl ?_
      refine R_aload_0 hX dX5_takeNodeName_41 ?_
      refine R_getoE (v := v) hX dX5_takeNodeName_42 fl_X5_18 o_3 rfl (by first | exact hR.1 | (simp (disch := omega) only [up_k, up_i]; exact hR.1)) ?_
      refine R_geti hX dX5_takeNodeName_45 fl_X5_102 (to_0 hv) rfl ?_
      try simp (disch := omega) only [up_k, up_i, up_s]
      refine R_ifne (tgt := 60) hX dX5_takeNodeName_48 (by decide) (by constructor <;> first | omega | (simp (disch := omega) only [up_k, up_i, up_s]; omega)) (fun c_48 => ?_) (fun c_48 => ?_)
      · skip
        refine R_aload_0 hX dX5_takeNodeName_60 ?_
        refine R_iconst hX dX5_takeNodeName_61 ?_
        refine R_puti hX dX5_takeNodeName_62 fl_X5_39 o_3 rfl ?_
        refine R_iconst hX dX5_takeNodeName_65 ?_
        exact R_iret hX dX5_takeNodeName_66 (by unfold tkNam; (repeat (first | rw [if_pos (by omega)] | rw [if_neg (by omega)])); exact ⟨rfl, rfl⟩)
      · skip
        refine R_aload_0 hX dX5_takeNodeName_51 ?_
        refine R_bipush hX dX5_takeNodeName_52 (by decide) ?_
        refine R_v1v hX dX5_takeNodeName_54 li_X5_132 mk_X5_addNode mi_X5_addNode rfl o_3 (c_rdAdd hv (by simp (disch := omega) only [up_i]; exact r1) (by simp (disch := omega) only [up_k]; omega) (by constructor; omega; constructor <;> omega)) ⟨⟨by decide, by decide⟩, by decide, by decide, rfl, Nat.le_of_ble_eq_true rfl, rfl⟩ (fun x_54 F_54 h_54 => ?_)
        subst h_54
        refine R_goto (tgt := 65) hX dX5_takeNodeName_57 (by decide) ?_
        refine R_iconst hX dX5_takeNodeName_65 ?_
        exact R_iret hX dX5_takeNodeName_66 (by unfold tkNam; (repeat (first | rw [if_pos (by omega)] | rw [if_neg (by omega)])); exact ⟨rfl, rfl⟩)
    · skip
      refine R_iconst hX dX5_takeNodeName_28 ?_
      exact R_iret hX dX5_takeNodeName_29 (by unfold tkNam; (repeat (first | rw [if_pos (by omega)] | rw [if_neg (by omega)])); exact ⟨rfl, rfl⟩)
  · skip
    refine R_iconst hX dX5_takeNodeName_7 ?_
    exact R_iret hX dX5_takeNodeName_8 (by unfold tkNam; (repeat (first | rw [if_pos (by omega)] | rw [if_neg (by omega)])); exact ⟨rfl, rfl⟩)
set_option maxRecDepth 100000 in
set_option maxHeartbeats 4000000 in
theorem c_tkInn {V : VX} {T : Shp} {F : Hp} {v : Int} (hv : isSu v) (hR : RdI v F) (hT : TkI F) (hE : F 3 4 = 2)  : Ct V yX5_takeIn cX5_takeIn 1 (some .int) 0 0 0 0 (SH T) [vr V 3] F (SH T) 1 (fun r F' => r = (tkInn F).1 ∧ F' = (tkInn F).2) := by
  refine Ct.of [some (vr V 3)] (by decide) (by simp [lg_sl, vi_cat, vl_cat, vr_cat]) rfl (by simp [asc, lv_args, vi_cat, vl_cat, vr_cat]) (fun X hV hX => ?_)
  subst hV
  obtain ⟨r1, r2, r3, r4, r5, r6, r7, r8, r9, r10, r11, r12, r13⟩ := id hR
  obtain ⟨t1, t2, t3, t4⟩ := id hT
  refine R_aload_0 hX dX5_takeIn_0 ?_
  refine R_iconst hX dX5_takeIn_1 ?_
  refine R_puti hX dX5_takeIn_2 fl_X5_39 o_3 rfl ?_
  refine R_aload_0 hX dX5_takeIn_5 ?_
  refine R_getq (v := 21) hX dX5_takeIn_6 fl_X5_25 o_3 rfl (by omega) ?_
  refine R_geti hX dX5_takeIn_9 fl_X5_99 o_21 rfl ?_
  try simp (disch := omega) only [up_k, up_i, up_s]
  refine R_bipush hX dX5_takeIn_12 (by decide) ?_
  refine R_icmpne (tgt := 21) hX dX5_takeIn_14 (by decide) (by constructor <;> first | omega | (simp (disch := omega) only [up_k, up_i, up_s]; omega)) (by constructor <;> first | omega | (simp (disch := omega) only [up_k, up_i, up_s]; omega)) (fun c_14 => ?_) (fun c_14 => ?_)
  · skip
    refine R_iconst hX dX5_takeIn_21 ?_
    exact R_iret hX dX5_takeIn_22 (by unfold tkInn; (repeat (first | rw [if_pos (by omega)] | rw [if_neg (by omega)])); exact ⟨rfl, rfl⟩)
  · skip
    refine R_iconst hX dX5_takeIn_17 ?_
    refine R_goto (tgt := 22) hX dX5_takeIn_18 (by decide) ?_
    exact R_iret hX dX5_takeIn_22 (by unfold tkInn; (repeat (first | rw [if_pos (by omega)] | rw [if_neg (by omega)])); exact ⟨rfl, rfl⟩)
set_option maxRecDepth 100000 in
set_option maxHeartbeats 4000000 in
theorem c_tkPar {V : VX} {T : Shp} {F : Hp} {v : Int} (hv : isSu v) (hR : RdI v F) (hT : TkI F) (hE : F 3 4 = 3)  : Ct V yX5_takeParentName cX5_takeParentName 2 (some .int) 3 67 0 0 (SH T) [vr V 3] F (SH T) 1 (fun r F' => r = (tkPar v F).1 ∧ F' = (tkPar v F).2) := by
  refine Ct.of [some (vr V 3), none] (by decide) (by simp [lg_sl, vi_cat, vl_cat, vr_cat]) rfl (by simp [asc, lv_args, vi_cat, vl_cat, vr_cat]) (fun X hV hX => ?_)
  subst hV
  obtain ⟨r1, r2, r3, r4, r5, r6, r7, r8, r9, r10, r11, r12, r13⟩ := id hR
  obtain ⟨t1, t2, t3, t4⟩ := id hT
  refine R_aload_0 hX dX5_takeParentName_0 ?_
  refine R_v0i hX dX5_takeParentName_1 li_X5_117 mk_X5_isName mi_X5_isName rfl o_3 (c_isName hT) ⟨⟨by decide, by decide⟩, by decide, by decide, rfl, Nat.le_of_ble_eq_true rfl, rfl⟩ (fun x_1 F_1 h_1 => ?_)
  obtain ⟨h_1, e_1⟩ := h_1; replace e_1 := e_1.symm; subst e_1
  refine R_ifne (tgt := 9) hX dX5_takeParentName_4 (by decide) (by constructor <;> first | omega | (simp (disch := omega) only [up_k, up_i, up_s]; omega)) (fun c_4 => ?_) (fun c_4 => ?_)
  · skip
    refine R_aload_0 hX dX5_takeParentName_9 ?_
    refine R_getoE (v := v) hX dX5_takeParentName_10 fl_X5_18 o_3 rfl (by first | exact hR.1 | (simp (disch := omega) only [up_k, up_i]; exact hR.1)) ?_
    refine R_aload_0 hX dX5_takeParentName_13 ?_
    refine R_getq (v := 21) hX dX5_takeParentName_14 fl_X5_25 o_3 rfl (by omega) ?_
    refine R_getl hX dX5_takeParentName_17 fl_X5_121 o_21 rfl ?_
    try simp (disch := omega) only [up_k, up_i, up_s]
    refine R_v1i hX dX5_takeParentName_20 li_X5_125 mk_X7_findNode mi_X7_findNode rfl (to_0 hv) (c_findNode hv r2 (fun n q0 q1 => (r4 n q0 q1).i) (t3 (by omega)).i) ⟨⟨by decide, by decide⟩, by decide, by decide, rfl, Nat.le_of_ble_eq_true rfl, rfl⟩ (fun x_20 F_20 h_20 => ?_)
    obtain ⟨h_20, e_20⟩ := h_20; replace e_20 := e_20.symm; subst e_20
    replace h_20 := fndS_of r2.2 h_20
    subst h_20
    have hf := fndS_rng v (F 21 3) F
    refine R_istore_1 hX c1_r dX5_takeParentName_23 ?_
    refine R_iload_1 hX dX5_takeParentName_24 ?_
    refine R_bipush hX dX5_takeParentName_25 (by decide) ?_
    refine R_icmpne (tgt := 32) hX dX5_takeParentName_27 (by decide) (by constructor <;> first | omega | (simp (disch := omega) only [up_k, up_i, up_s]; omega)) (by constructor <;> first | omega | (simp (disch := omega) only [up_k, up_i, up_s]; omega)) (fun c_27 => ?_) (fun c_27 => ?_)
    · skip
      refine R_aload_0 hX dX5_takeParentName_32 ?_
      refine R_iload_1 hX dX5_takeParentName_33 ?_
      refine R_v1v hX dX5_takeParentName_34 li_X5_132 mk_X5_addNode mi_X5_addNode rfl o_3 (c_rdAdd hv r1 (by omega) (by constructor; omega; constructor <;> omega)) ⟨⟨by decide, by decide⟩, by decide, by decide, rfl, Nat.le_of_ble_eq_true rfl, rfl⟩ (fun x_34 F_34 h_34 => ?_)
      subst h_34
      refine R_iconst hX dX5_takeParentName_37 ?_
      exact R_iret hX dX5_takeParentName_38 (by unfold tkPar; (repeat (first | rw [if_pos (by omega)] | rw [if_neg (by omega)])); exact ⟨rfl, rfl⟩)
    · skip
      refine R_iconst hX dX5_takeParentName_30 ?_
      exact R_iret hX dX5_takeParentName_31 (by unfold tkPar; (repeat (first | rw [if_pos (by omega)] | rw [if_neg (by omega)])); exact ⟨rfl, rfl⟩)
  · skip
    refine R_iconst hX dX5_takeParentName_7 ?_
    exact R_iret hX dX5_takeParentName_8 (by unfold tkPar; (repeat (first | rw [if_pos (by omega)] | rw [if_neg (by omega)])); exact ⟨rfl, rfl⟩)
set_option maxRecDepth 100000 in
set_option maxHeartbeats 4000000 in
theorem c_finNode {V : VX} {T : Shp} {F : Hp} {v : Int} (hv : isSu v) (hd : F 3 2 = v) (hn : 1 ≤ F v 0 ∧ F v 0 ≤ 12)  (hg : 0 ≤ F 3 7 ∧ F 3 7 < 128) : Ct V yX5_finishNode cX5_finishNode 2 none 1 21 0 0 (SH T) [vr V 3] F (SH T) 0 (fun r F' => F' = finS v F) := by
  refine Ct.of [some (vr V 3), none] (by decide) (by simp [lg_sl, vi_cat, vl_cat, vr_cat]) rfl (by simp [asc, lv_args, vi_cat, vl_cat, vr_cat]) (fun X hV hX => ?_)
  subst hV
  have hgv := (gvn_all (F 3 7).toNat (by omega) 1 (by omega)).2.1
  rw [show (((F 3 7).toNat : Nat) : Int) = F 3 7 by omega] at hgv
  replace hgv : gvn (F 3 7) 1 = 0 ∨ gvn (F 3 7) 1 = 1 := hgv
  refine R_aload_0 hX dX5_finishNode_0 ?_
  refine R_getoE (v := v) hX dX5_finishNode_1 fl_X5_18 o_3 rfl hd ?_
  refine R_geti hX dX5_finishNode_4 fl_X5_102 (to_0 hv) rfl ?_
  refine R_iconst hX dX5_finishNode_7 ?_
  refine R_isub hX dX5_finishNode_8 ?_
  refine R_istore_1 hX c1_r dX5_finishNode_9 ?_
  refine R_aload_0 hX dX5_finishNode_10 ?_
  refine R_getoE (v := v) hX dX5_finishNode_11 fl_X5_18 o_3 rfl hd ?_
  refine R_iload_1 hX dX5_finishNode_14 ?_
  refine R_v1i hX dX5_finishNode_15 li_X5_148 mk_X7_hasNode mi_X7_hasNode rfl (to_0 hv) (c_hasNode hv (by omega) (by constructor <;> omega)) ⟨⟨by decide, by decide⟩, by decide, by decide, rfl, Nat.le_of_ble_eq_true rfl, rfl⟩ (fun x_15 F_15 h_15 => ?_)
  obtain ⟨h_15, e_15⟩ := h_15; replace e_15 := e_15.symm; subst e_15
  refine R_ifeq (tgt := 50) hX dX5_finishNode_18 (by decide) ⟨by omega, by omega⟩ (fun c_18 => ?_) (fun c_18 => ?_)
  · exact absurd c_18 (by omega)
  · skip
    refine R_aload_0 hX dX5_finishNode_21 ?_
    refine R_geti hX dX5_finishNode_22 fl_X5_139 o_3 rfl ?_
    refine R_iconst hX dX5_finishNode_25 ?_
    refine R_ishr hX dX5_finishNode_26 ?_
    refine R_iconst hX dX5_finishNode_27 ?_
    refine R_iand hX dX5_finishNode_28 ?_
    rw [show iand (ishr (F 3 7) 1) 1 = gvn (F 3 7) 1 from rfl]
    refine R_ifne (tgt := 50) hX dX5_finishNode_29 (by decide) ⟨by omega, by omega⟩ (fun c_29 => ?_) (fun c_29 => ?_)
    · skip
      refine R_aload_0 hX dX5_finishNode_50 ?_
      refine R_iconst hX dX5_finishNode_51 ?_
      refine R_puti hX dX5_finishNode_52 fl_X5_39 o_3 rfl ?_
      exact R_vret hX dX5_finishNode_55 (by unfold finS; first | rw [if_pos (by omega)] | rw [if_neg (by omega)])
    · skip
      refine R_aload_0 hX dX5_finishNode_32 ?_
      refine R_getoE (v := v) hX dX5_finishNode_33 fl_X5_18 o_3 rfl hd ?_
      refine R_getq (v := v + 6) hX dX5_finishNode_36 fl_X5_156 (to_0 hv) rfl (by omega) ?_
      refine R_iload_1 hX dX5_finishNode_39 ?_
      refine R_aload_0 hX dX5_finishNode_40 ?_
      refine R_getoE (v := v) hX dX5_finishNode_41 fl_X5_18 o_3 rfl hd ?_
      refine R_getq (v := v + 5) hX dX5_finishNode_44 fl_X5_160 (to_0 hv) rfl (by omega) ?_
      refine R_iload_1 hX dX5_finishNode_47 ?_
      refine R_iald hX dX5_finishNode_48 (ta_5 hv) ⟨by omega, by omega⟩ ?_
      refine R_iast hX dX5_finishNode_49 (ta_6 hv) ⟨by omega, by omega⟩ ?_
      refine R_aload_0 hX dX5_finishNode_50 ?_
      refine R_iconst hX dX5_finishNode_51 ?_
      refine R_puti hX dX5_finishNode_52 fl_X5_39 o_3 rfl ?_
      exact R_vret hX dX5_finishNode_55 (by unfold finS; first | rw [if_pos (by omega)] | rw [if_neg (by omega)])
set_option maxRecDepth 100000 in
set_option maxHeartbeats 4000000 in
theorem c_tkSet {V : VX} {T : Shp} {F : Hp} {v : Int} (hv : isSu v) (hR : RdI v F) (hT : TkI F) (hE : F 3 4 = 4)  : Ct V yX5_takeSetting cX5_takeSetting 2 (some .int) 2 42 0 0 (SH T) [vr V 3] F (SH T) 1 (fun r F' => r = (tkSet v F).1 ∧ F' = (tkSet v F).2) := by
  refine Ct.of [some (vr V 3), none] (by decide) (by simp [lg_sl, vi_cat, vl_cat, vr_cat]) rfl (by simp [asc, lv_args, vi_cat, vl_cat, vr_cat]) (fun X hV hX => ?_)
  subst hV
  obtain ⟨r1, r2, r3, r4, r5, r6, r7, r8, r9, r10, r11, r12, r13⟩ := id hR
  obtain ⟨t1, t2, t3, t4⟩ := id hT
  refine R_aload_0 hX dX5_takeSetting_0 ?_
  refine R_getq (v := 21) hX dX5_takeSetting_1 fl_X5_25 o_3 rfl (by omega) ?_
  refine R_geti hX dX5_takeSetting_4 fl_X5_36 o_21 rfl ?_
  try simp (disch := omega) only [up_k, up_i, up_s]
  refine R_iconst hX dX5_takeSetting_7 ?_
  refine R_icmpne (tgt := 17) hX dX5_takeSetting_8 (by decide) (by constructor <;> first | omega | (simp (disch := omega) only [up_k, up_i, up_s]; omega)) (by constructor <;> first | omega | (simp (disch := omega) only [up_k, up_i, up_s]; omega)) (fun c_8 => ?_) (fun c_8 => ?_)
  · skip
    refine R_aload_0 hX dX5_takeSetting_17 ?_
    refine R_aload_0 hX dX5_takeSetting_18 ?_
    refine R_getq (v := 21) hX dX5_takeSetting_19 fl_X5_25 o_3 rfl (by omega) ?_
    refine R_geti hX dX5_takeSetting_22 fl_X5_99 o_21 rfl ?_
    try simp (disch := omega) only [up_k, up_i, up_s]
    refine R_puti hX dX5_takeSetting_25 fl_X5_145 o_3 rfl ?_
    refine R_aload_0 hX dX5_takeSetting_28 ?_
    refine R_geti hX dX5_takeSetting_29 fl_X5_145 o_3 rfl ?_
    try simp (disch := omega) only [up_k, up_i, up_s]
    refine R_iflt (tgt := 44) hX dX5_takeSetting_32 (by decide) (by constructor <;> first | omega | (simp (disch := omega) only [up_k, up_i, up_s]; omega)) (fun c_32 => ?_) (fun c_32 => ?_)
    · skip
      refine R_iconst hX dX5_takeSetting_44 ?_
      exact R_iret hX dX5_takeSetting_45 (by unfold tkSet; (repeat (first | rw [if_pos (by omega)] | rw [if_neg (by omega)])); exact ⟨rfl, rfl⟩)
    · skip
      refine R_aload_0 hX dX5_takeSetting_35 ?_
      refine R_geti hX dX5_takeSetting_36 fl_X5_145 o_3 rfl ?_
      try simp (disch := omega) only [up_k, up_i, up_s]
      refine R_bipush hX dX5_takeSetting_39 (by decide) ?_
      refine R_icmple (tgt := 46) hX dX5_takeSetting_41 (by decide) (by constructor <;> first | omega | (simp (disch := omega) only [up_k, up_i, up_s]; omega)) (by constructor <;> first | omega | (simp (disch := omega) only [up_k, up_i, up_s]; omega)) (fun c_41 => ?_) (fun c_41 => ?_)
      · skip
        have hgv := (gvn_all (F 3 7).toNat (by omega) (F 21 4).toNat (by omega)).2.1
        rw [show (((F 3 7).toNat : Nat) : Int) = F 3 7 by omega, show (((F 21 4).toNat : Nat) : Int) = F 21 4 by omega] at hgv
        refine R_aload_0 hX dX5_takeSetting_46 ?_
        refine R_geti hX dX5_takeSetting_47 fl_X5_139 o_3 rfl ?_
        try simp (disch := omega) only [up_k, up_i, up_s]
        refine R_aload_0 hX dX5_takeSetting_50 ?_
        refine R_geti hX dX5_takeSetting_51 fl_X5_145 o_3 rfl ?_
        try simp (disch := omega) only [up_k, up_i, up_s]
        refine R_ishr hX dX5_takeSetting_54 ?_
        refine R_iconst hX dX5_takeSetting_55 ?_
        refine R_iand hX dX5_takeSetting_56 ?_
        refine R_iconst hX dX5_takeSetting_57 ?_
        rw [show iand (ishr (F 3 7) (F 21 4)) 1 = gvn (F 3 7) (F 21 4) from rfl]
        refine R_icmpne (tgt := 63) hX dX5_takeSetting_58 (by decide) (by constructor <;> first | omega | (simp (disch := omega) only [up_k, up_i, up_s]; omega)) (by constructor <;> first | omega | (simp (disch := omega) only [up_k, up_i, up_s]; omega)) (fun c_58 => ?_) (fun c_58 => ?_)
        · skip
          refine R_aload_0 hX dX5_takeSetting_63 ?_
          refine R_dup hX c1_r dX5_takeSetting_64 ?_
          refine R_geti hX dX5_takeSetting_65 fl_X5_139 o_3 rfl ?_
          try simp (disch := omega) only [up_k, up_i, up_s]
          refine R_iconst hX dX5_takeSetting_68 ?_
          refine R_aload_0 hX dX5_takeSetting_69 ?_
          refine R_geti hX dX5_takeSetting_70 fl_X5_145 o_3 rfl ?_
          try simp (disch := omega) only [up_k, up_i, up_s]
          refine R_ishl hX dX5_takeSetting_73 ?_
          refine R_ior hX dX5_takeSetting_74 ?_
          refine R_puti hX dX5_takeSetting_75 fl_X5_139 o_3 rfl ?_
          refine R_aload_0 hX dX5_takeSetting_78 ?_
          refine R_getoE (v := v) hX dX5_takeSetting_79 fl_X5_18 o_3 rfl (by first | exact hR.1 | (simp (disch := omega) only [up_k, up_i]; exact hR.1)) ?_
          refine R_geti hX dX5_takeSetting_82 fl_X5_102 (to_0 hv) rfl ?_
          try simp (disch := omega) only [up_k, up_i, up_s]
          refine R_iconst hX dX5_takeSetting_85 ?_
          refine R_isub hX dX5_takeSetting_86 ?_
          refine R_istore_1 hX c1_r dX5_takeSetting_87 ?_
          refine R_aload_0 hX dX5_takeSetting_88 ?_
          refine R_geti hX dX5_takeSetting_89 fl_X5_145 o_3 rfl ?_
          try simp (disch := omega) only [up_k, up_i, up_s]
          refine R_bipush hX dX5_takeSetting_92 (by decide) ?_
          refine R_icmpeq (tgt := 105) hX dX5_takeSetting_94 (by decide) (by constructor <;> first | omega | (simp (disch := omega) only [up_k, up_i, up_s]; omega)) (by constructor <;> first | omega | (simp (disch := omega) only [up_k, up_i, up_s]; omega)) (fun c_94 => ?_) (fun c_94 => ?_)
          · skip
            refine R_aload_0 hX dX5_takeSetting_105 ?_
            refine R_getoE (v := v) hX dX5_takeSetting_106 fl_X5_18 o_3 rfl (by first | exact hR.1 | (simp (disch := omega) only [up_k, up_i]; exact hR.1)) ?_
            refine R_iload_1 hX dX5_takeSetting_109 ?_
            refine R_v1i hX dX5_takeSetting_110 li_X5_148 mk_X7_hasNode mi_X7_hasNode rfl (to_0 hv) (c_hasNode hv (by simp (disch := omega) only [up_k]; exact r2) (by constructor <;> omega)) ⟨⟨by decide, by decide⟩, by decide, by decide, rfl, Nat.le_of_ble_eq_true rfl, rfl⟩ (fun x_110 F_110 h_110 => ?_)
            obtain ⟨h_110, e_110⟩ := h_110; replace e_110 := e_110.symm; subst e_110
            refine R_ifeq (tgt := 126) hX dX5_takeSetting_113 (by decide) (by constructor <;> first | omega | (simp (disch := omega) only [up_k, up_i, up_s]; omega)) (fun c_113 => ?_) (fun c_113 => ?_)
            · (simp (disch := omega) only [up_k] at h_110; exact absurd c_113 (by omega))
            · skip
              refine R_aload_0 hX dX5_takeSetting_116 ?_
              refine R_getoE (v := v) hX dX5_takeSetting_117 fl_X5_18 o_3 rfl (by first | exact hR.1 | (simp (disch := omega) only [up_k, up_i]; exact hR.1)) ?_
              refine R_getq (v := v + 11) hX dX5_takeSetting_120 fl_X5_152 (to_0 hv) rfl (by omega) ?_
              refine R_iload_1 hX dX5_takeSetting_123 ?_
              refine R_iconst hX dX5_takeSetting_124 ?_
              refine R_zast hX dX5_takeSetting_125 (ta_11 hv) ⟨by omega, by omega⟩ (by omega) ?_
              refine R_iconst hX dX5_takeSetting_126 ?_
              exact R_iret hX dX5_takeSetting_127 (by unfold tkSet; (repeat (first | rw [if_pos (by omega)] | rw [if_neg (by omega)])); exact ⟨rfl, rfl⟩)
          · skip
            refine R_aload_0 hX dX5_takeSetting_97 ?_
            refine R_iconst hX dX5_takeSetting_98 ?_
            refine R_puti hX dX5_takeSetting_99 fl_X5_39 o_3 rfl ?_
            refine R_goto (tgt := 126) hX dX5_takeSetting_102 (by decide) ?_
            refine R_iconst hX dX5_takeSetting_126 ?_
            exact R_iret hX dX5_takeSetting_127 (by unfold tkSet; (repeat (first | rw [if_pos (by omega)] | rw [if_neg (by omega)])); exact ⟨rfl, rfl⟩)
        · skip
          refine R_iconst hX dX5_takeSetting_61 ?_
          exact R_iret hX dX5_takeSetting_62 (by unfold tkSet; (repeat (first | rw [if_pos (by omega)] | rw [if_neg (by omega)])); exact ⟨rfl, rfl⟩)
      · skip
        refine R_iconst hX dX5_takeSetting_44 ?_
        exact R_iret hX dX5_takeSetting_45 (by unfold tkSet; (repeat (first | rw [if_pos (by omega)] | rw [if_neg (by omega)])); exact ⟨rfl, rfl⟩)
  · skip
    refine R_aload_0 hX dX5_takeSetting_11 ?_
    refine R_v0v hX dX5_takeSetting_12 li_X5_142 mk_X5_finishNode mi_X5_finishNode rfl o_3 (c_finNode hv r1 (by omega) (by omega)) ⟨⟨by decide, by decide⟩, by decide, by decide, rfl, Nat.le_of_ble_eq_true rfl, rfl⟩ (fun x_12 F_12 h_12 => ?_)
    subst h_12
    refine R_iconst hX dX5_takeSetting_15 ?_
    exact R_iret hX dX5_takeSetting_16 (by unfold tkSet; (repeat (first | rw [if_pos (by omega)] | rw [if_neg (by omega)])); exact ⟨rfl, rfl⟩)
set_option maxRecDepth 100000 in
set_option maxHeartbeats 4000000 in
theorem c_tkVal {V : VX} {T : Shp} {F : Hp} {v : Int} (hv : isSu v) (hR : RdI v F) (hT : TkI F) (hE : F 3 4 = 5)  : Ct V yX5_takeSettingValue cX5_takeSettingValue 3 (some .int) 2 42 0 0 (SH T) [vr V 3] F (SH T) 1 (fun r F' => r = (tkVal v F).1 ∧ F' = (tkVal v F).2) := by
  refine Ct.of [some (vr V 3), none, none] (by decide) (by simp [lg_sl, vi_cat, vl_cat, vr_cat]) rfl (by simp [asc, lv_args, vi_cat, vl_cat, vr_cat]) (fun X hV hX => ?_)
  subst hV
  obtain ⟨r1, r2, r3, r4, r5, r6, r7, r8, r9, r10, r11, r12, r13⟩ := id hR
  obtain ⟨t1, t2, t3, t4⟩ := id hT
  refine R_aload_0 hX dX5_takeSettingValue_0 ?_
  refine R_aload_0 hX dX5_takeSettingValue_1 ?_
  refine R_geti hX dX5_takeSettingValue_2 fl_X5_145 o_3 rfl ?_
  try simp (disch := omega) only [up_k, up_i, up_s]
  refine R_v1i hX dX5_takeSettingValue_5 li_X5_163 mk_X5_numberFault mi_X5_numberFault rfl o_3 (c_numFault hT (r9 hE)) ⟨⟨by decide, by decide⟩, by decide, by decide, rfl, Nat.le_of_ble_eq_true rfl, rfl⟩ (fun x_5 F_5 h_5 => ?_)
  obtain ⟨h_5, e_5⟩ := h_5; replace e_5 := e_5.symm; subst e_5
  subst h_5
  have hng : 0 ≤ nmg (F 3 8) F ∧ nmg (F 3 8) F ≤ 2 := by unfold nmg nmf; split <;> (try split) <;> omega
  refine R_istore_1 hX c1_r dX5_takeSettingValue_8 ?_
  refine R_aload_0 hX dX5_takeSettingValue_9 ?_
  refine R_getoE (v := v) hX dX5_takeSettingValue_10 fl_X5_18 o_3 rfl (by first | exact hR.1 | (simp (disch := omega) only [up_k, up_i]; exact hR.1)) ?_
  refine R_geti hX dX5_takeSettingValue_13 fl_X5_102 (to_0 hv) rfl ?_
  try simp (disch := omega) only [up_k, up_i, up_s]
  refine R_iconst hX dX5_takeSettingValue_16 ?_
  refine R_isub hX dX5_takeSettingValue_17 ?_
  refine R_istore_2 hX c1_i dX5_takeSettingValue_18 ?_
  refine R_iload_1 hX dX5_takeSettingValue_19 ?_
  refine R_ifne (tgt := 54) hX dX5_takeSettingValue_20 (by decide) (by constructor <;> first | omega | (simp (disch := omega) only [up_k, up_i, up_s]; omega)) (fun c_20 => ?_) (fun c_20 => ?_)
  · skip
    refine R_aload_0 hX dX5_takeSettingValue_54 ?_
    refine R_iconst hX dX5_takeSettingValue_55 ?_
    refine R_puti hX dX5_takeSettingValue_56 fl_X5_39 o_3 rfl ?_
    refine R_iload_1 hX dX5_takeSettingValue_59 ?_
    exact R_iret hX dX5_takeSettingValue_60 (by unfold tkVal; (repeat (first | rw [if_pos (by omega)] | rw [if_neg (by omega)])); exact ⟨rfl, rfl⟩)
  · skip
    refine R_aload_0 hX dX5_takeSettingValue_23 ?_
    refine R_getoE (v := v) hX dX5_takeSettingValue_24 fl_X5_18 o_3 rfl (by first | exact hR.1 | (simp (disch := omega) only [up_k, up_i]; exact hR.1)) ?_
    refine R_iload_2 hX dX5_takeSettingValue_27 ?_
    refine R_v1i hX dX5_takeSettingValue_28 li_X5_148 mk_X7_hasNode mi_X7_hasNode rfl (to_0 hv) (c_hasNode hv (by omega) (by constructor <;> omega)) ⟨⟨by decide, by decide⟩, by decide, by decide, rfl, Nat.le_of_ble_eq_true rfl, rfl⟩ (fun x_28 F_28 h_28 => ?_)
    obtain ⟨h_28, e_28⟩ := h_28; replace e_28 := e_28.symm; subst e_28
    refine R_ifeq (tgt := 54) hX dX5_takeSettingValue_31 (by decide) (by constructor <;> first | omega | (simp (disch := omega) only [up_k, up_i, up_s]; omega)) (fun c_31 => ?_) (fun c_31 => ?_)
    · exact absurd c_31 (by omega)
    · skip
      refine R_aload_0 hX dX5_takeSettingValue_34 ?_
      refine R_getoE (v := v) hX dX5_takeSettingValue_35 fl_X5_18 o_3 rfl (by first | exact hR.1 | (simp (disch := omega) only [up_k, up_i]; exact hR.1)) ?_
      refine R_aload_0 hX dX5_takeSettingValue_38 ?_
      refine R_geti hX dX5_takeSettingValue_39 fl_X5_145 o_3 rfl ?_
      try simp (disch := omega) only [up_k, up_i, up_s]
      refine R_v1r hX dX5_takeSettingValue_42 li_X5_167 mk_X7_row mi_X7_row rfl (to_0 hv) (c_suRow hv (by constructor <;> omega)) ⟨⟨by decide, by decide⟩, by decide, by decide, rfl, Nat.le_of_ble_eq_true rfl, rfl⟩ (fun x_42 F_42 h_42 => ?_)
      obtain ⟨h_42, e_42⟩ := h_42; replace e_42 := e_42.symm; subst e_42
      have hrow : isA (SH T) x_42 .int 12 := by rw [h_42]; exact ta_row hv
      subst h_42
      refine R_iload_2 hX dX5_takeSettingValue_45 ?_
      refine R_aload_0 hX dX5_takeSettingValue_46 ?_
      refine R_getq (v := 21) hX dX5_takeSettingValue_47 fl_X5_25 o_3 rfl (by omega) ?_
      refine R_geti hX dX5_takeSettingValue_50 fl_X5_171 o_21 rfl ?_
      try simp (disch := omega) only [up_k, up_i, up_s]
      refine R_iast hX dX5_takeSettingValue_53 hrow ⟨by omega, by omega⟩ ?_
      refine R_aload_0 hX dX5_takeSettingValue_54 ?_
      refine R_iconst hX dX5_takeSettingValue_55 ?_
      refine R_puti hX dX5_takeSettingValue_56 fl_X5_39 o_3 rfl ?_
      refine R_iload_1 hX dX5_takeSettingValue_59 ?_
      exact R_iret hX dX5_takeSettingValue_60 (by unfold tkVal; (repeat (first | rw [if_pos (by omega)] | rw [if_neg (by omega)])); exact ⟨rfl, rfl⟩)
set_option maxRecDepth 100000 in
set_option maxHeartbeats 4000000 in
theorem c_tkLim {V : VX} {T : Shp} {F : Hp} {v : Int} (hv : isSu v) (hR : RdI v F) (hT : TkI F) (hE : F 3 4 = 6)  : Ct V yX5_takeLimit cX5_takeLimit 1 (some .int) 1 22 0 0 (SH T) [vr V 3] F (SH T) 1 (fun r F' => r = (tkLim v F).1 ∧ F' = (tkLim v F).2) := by
  refine Ct.of [some (vr V 3)] (by decide) (by simp [lg_sl, vi_cat, vl_cat, vr_cat]) rfl (by simp [asc, lv_args, vi_cat, vl_cat, vr_cat]) (fun X hV hX => ?_)
  subst hV
  obtain ⟨r1, r2, r3, r4, r5, r6, r7, r8, r9, r10, r11, r12, r13⟩ := id hR
  obtain ⟨t1, t2, t3, t4⟩ := id hT
  refine R_aload_0 hX dX5_takeLimit_0 ?_
  refine R_getoE (v := v) hX dX5_takeLimit_1 fl_X5_18 o_3 rfl (by first | exact hR.1 | (simp (disch := omega) only [up_k, up_i]; exact hR.1)) ?_
  refine R_aload_0 hX dX5_takeLimit_4 ?_
  refine R_getq (v := 21) hX dX5_takeLimit_5 fl_X5_25 o_3 rfl (by omega) ?_
  refine R_geti hX dX5_takeLimit_8 fl_X5_171 o_21 rfl ?_
  try simp (disch := omega) only [up_k, up_i, up_s]
  refine R_puti hX dX5_takeLimit_11 fl_X5_178 (to_0 hv) rfl ?_
  refine R_aload_0 hX dX5_takeLimit_14 ?_
  refine R_iconst hX dX5_takeLimit_15 ?_
  refine R_putz hX dX5_takeLimit_16 fl_X5_56 o_3 rfl (by omega) ?_
  refine R_aload_0 hX dX5_takeLimit_19 ?_
  refine R_bipush hX dX5_takeLimit_20 (by decide) ?_
  refine R_puti hX dX5_takeLimit_22 fl_X5_39 o_3 rfl ?_
  refine R_aload_0 hX dX5_takeLimit_25 ?_
  refine R_iconst hX dX5_takeLimit_26 ?_
  refine R_bipush hX dX5_takeLimit_27 (by decide) ?_
  refine R_v2i hX dX5_takeLimit_29 li_X5_181 mk_X5_numberFault_ mi_X5_numberFault_ rfl o_3 (c_numFault2 (by unfold TkI; simp (disch := omega) only [up_k]; exact hT) (by constructor <;> omega) (by constructor <;> omega)) ⟨⟨by decide, by decide⟩, by decide, by decide, rfl, Nat.le_of_ble_eq_true rfl, rfl⟩ (fun x_29 F_29 h_29 => ?_)
  obtain ⟨h_29, e_29⟩ := h_29; replace e_29 := e_29.symm; subst e_29
  subst h_29
  exact R_iret hX dX5_takeLimit_32 ⟨by unfold tkLim nmf; simp (disch := omega) only [up_k], rfl⟩
set_option maxRecDepth 100000 in
set_option maxHeartbeats 4000000 in
theorem c_tkAge {V : VX} {T : Shp} {F : Hp} {v : Int} (hv : isSu v) (hR : RdI v F) (hT : TkI F) (hE : F 3 4 = 7)  : Ct V yX5_takeAge cX5_takeAge 1 (some .int) 1 22 0 0 (SH T) [vr V 3] F (SH T) 1 (fun r F' => r = (tkAge v F).1 ∧ F' = (tkAge v F).2) := by
  refine Ct.of [some (vr V 3)] (by decide) (by simp [lg_sl, vi_cat, vl_cat, vr_cat]) rfl (by simp [asc, lv_args, vi_cat, vl_cat, vr_cat]) (fun X hV hX => ?_)
  subst hV
  obtain ⟨r1, r2, r3, r4, r5, r6, r7, r8, r9, r10, r11, r12, r13⟩ := id hR
  obtain ⟨t1, t2, t3, t4⟩ := id hT
  refine R_aload_0 hX dX5_takeAge_0 ?_
  refine R_getoE (v := v) hX dX5_takeAge_1 fl_X5_18 o_3 rfl (by first | exact hR.1 | (simp (disch := omega) only [up_k, up_i]; exact hR.1)) ?_
  refine R_aload_0 hX dX5_takeAge_4 ?_
  refine R_getq (v := 21) hX dX5_takeAge_5 fl_X5_25 o_3 rfl (by omega) ?_
  refine R_geti hX dX5_takeAge_8 fl_X5_171 o_21 rfl ?_
  try simp (disch := omega) only [up_k, up_i, up_s]
  refine R_puti hX dX5_takeAge_11 fl_X5_105 (to_0 hv) rfl ?_
  refine R_aload_0 hX dX5_takeAge_14 ?_
  refine R_bipush hX dX5_takeAge_15 (by decide) ?_
  refine R_puti hX dX5_takeAge_17 fl_X5_39 o_3 rfl ?_
  refine R_aload_0 hX dX5_takeAge_20 ?_
  refine R_iconst hX dX5_takeAge_21 ?_
  refine R_sipush hX dX5_takeAge_22 (by decide) ?_
  refine R_v2i hX dX5_takeAge_25 li_X5_181 mk_X5_numberFault_ mi_X5_numberFault_ rfl o_3 (c_numFault2 (by unfold TkI; simp (disch := omega) only [up_k]; exact hT) (by constructor <;> omega) (by constructor <;> omega)) ⟨⟨by decide, by decide⟩, by decide, by decide, rfl, Nat.le_of_ble_eq_true rfl, rfl⟩ (fun x_25 F_25 h_25 => ?_)
  obtain ⟨h_25, e_25⟩ := h_25; replace e_25 := e_25.symm; subst e_25
  subst h_25
  exact R_iret hX dX5_takeAge_28 ⟨by unfold tkAge nmf; simp (disch := omega) only [up_k], rfl⟩
set_option maxRecDepth 100000 in
set_option maxHeartbeats 4000000 in
theorem c_tkTim {V : VX} {T : Shp} {F : Hp} {v : Int} (hv : isSu v) (hR : RdI v F) (hT : TkI F) (hE : F 3 4 = 8)  : Ct V yX5_takeChangeTime cX5_takeChangeTime 1 (some .int) 1 22 0 0 (SH T) [vr V 3] F (SH T) 1 (fun r F' => r = (tkTim F).1 ∧ F' = (tkTim F).2) := by
  refine Ct.of [some (vr V 3)] (by decide) (by simp [lg_sl, vi_cat, vl_cat, vr_cat]) rfl (by simp [asc, lv_args, vi_cat, vl_cat, vr_cat]) (fun X hV hX => ?_)
  subst hV
  obtain ⟨r1, r2, r3, r4, r5, r6, r7, r8, r9, r10, r11, r12, r13⟩ := id hR
  obtain ⟨t1, t2, t3, t4⟩ := id hT
  refine R_aload_0 hX dX5_takeChangeTime_0 ?_
  refine R_aload_0 hX dX5_takeChangeTime_1 ?_
  refine R_getq (v := 21) hX dX5_takeChangeTime_2 fl_X5_25 o_3 rfl (by omega) ?_
  refine R_geti hX dX5_takeChangeTime_5 fl_X5_171 o_21 rfl ?_
  try simp (disch := omega) only [up_k, up_i, up_s]
  refine R_puti hX dX5_takeChangeTime_8 fl_X5_184 o_3 rfl ?_
  refine R_aload_0 hX dX5_takeChangeTime_11 ?_
  refine R_bipush hX dX5_takeChangeTime_12 (by decide) ?_
  refine R_puti hX dX5_takeChangeTime_14 fl_X5_39 o_3 rfl ?_
  refine R_aload_0 hX dX5_takeChangeTime_17 ?_
  refine R_iconst hX dX5_takeChangeTime_18 ?_
  refine R_sipush hX dX5_takeChangeTime_19 (by decide) ?_
  refine R_v2i hX dX5_takeChangeTime_22 li_X5_181 mk_X5_numberFault_ mi_X5_numberFault_ rfl o_3 (c_numFault2 (by unfold TkI; simp (disch := omega) only [up_k]; exact hT) (by constructor <;> omega) (by constructor <;> omega)) ⟨⟨by decide, by decide⟩, by decide, by decide, rfl, Nat.le_of_ble_eq_true rfl, rfl⟩ (fun x_22 F_22 h_22 => ?_)
  obtain ⟨h_22, e_22⟩ := h_22; replace e_22 := e_22.symm; subst e_22
  subst h_22
  exact R_iret hX dX5_takeChangeTime_25 ⟨by unfold tkTim nmf; simp (disch := omega) only [up_k], rfl⟩
set_option maxRecDepth 100000 in
set_option maxHeartbeats 4000000 in
theorem c_tkChN {V : VX} {T : Shp} {F : Hp} {v : Int} (hv : isSu v) (hR : RdI v F) (hT : TkI F) (hE : F 3 4 = 9)  : Ct V yX5_takeChangeName cX5_takeChangeName 1 (some .int) 1 23 0 0 (SH T) [vr V 3] F (SH T) 1 (fun r F' => r = (tkChN v F).1 ∧ F' = (tkChN v F).2) := by
  refine Ct.of [some (vr V 3)] (by decide) (by simp [lg_sl, vi_cat, vl_cat, vr_cat]) rfl (by simp [asc, lv_args, vi_cat, vl_cat, vr_cat]) (fun X hV hX => ?_)
  subst hV
  obtain ⟨r1, r2, r3, r4, r5, r6, r7, r8, r9, r10, r11, r12, r13⟩ := id hR
  obtain ⟨t1, t2, t3, t4⟩ := id hT
  refine R_aload_0 hX dX5_takeChangeName_0 ?_
  refine R_v0i hX dX5_takeChangeName_1 li_X5_117 mk_X5_isName mi_X5_isName rfl o_3 (c_isName hT) ⟨⟨by decide, by decide⟩, by decide, by decide, rfl, Nat.le_of_ble_eq_true rfl, rfl⟩ (fun x_1 F_1 h_1 => ?_)
  obtain ⟨h_1, e_1⟩ := h_1; replace e_1 := e_1.symm; subst e_1
  refine R_ifne (tgt := 9) hX dX5_takeChangeName_4 (by decide) (by constructor <;> first | omega | (simp (disch := omega) only [up_k, up_i, up_s]; omega)) (fun c_4 => ?_) (fun c_4 => ?_)
  · skip
    refine R_aload_0 hX dX5_takeChangeName_9 ?_
    refine R_aload_0 hX dX5_takeChangeName_10 ?_
    refine R_getoE (v := v) hX dX5_takeChangeName_11 fl_X5_18 o_3 rfl (by first | exact hR.1 | (simp (disch := omega) only [up_k, up_i]; exact hR.1)) ?_
    refine R_aload_0 hX dX5_takeChangeName_14 ?_
    refine R_getq (v := 21) hX dX5_takeChangeName_15 fl_X5_25 o_3 rfl (by omega) ?_
    refine R_getl hX dX5_takeChangeName_18 fl_X5_121 o_21 rfl ?_
    try simp (disch := omega) only [up_k, up_i, up_s]
    refine R_v1i hX dX5_takeChangeName_21 li_X5_125 mk_X7_findNode mi_X7_findNode rfl (to_0 hv) (c_findNode hv r2 (fun n q0 q1 => (r4 n q0 q1).i) (t3 (by omega)).i) ⟨⟨by decide, by decide⟩, by decide, by decide, rfl, Nat.le_of_ble_eq_true rfl, rfl⟩ (fun x_21 F_21 h_21 => ?_)
    obtain ⟨h_21, e_21⟩ := h_21; replace e_21 := e_21.symm; subst e_21
    replace h_21 := fndS_of r2.2 h_21
    subst h_21
    have hf := fndS_rng v (F 21 3) F
    refine R_puti hX dX5_takeChangeName_24 fl_X5_187 o_3 rfl ?_
    refine R_aload_0 hX dX5_takeChangeName_27 ?_
    refine R_bipush hX dX5_takeChangeName_28 (by decide) ?_
    refine R_puti hX dX5_takeChangeName_30 fl_X5_39 o_3 rfl ?_
    refine R_aload_0 hX dX5_takeChangeName_33 ?_
    refine R_geti hX dX5_takeChangeName_34 fl_X5_187 o_3 rfl ?_
    try simp (disch := omega) only [up_k, up_i, up_s]
    refine R_bipush hX dX5_takeChangeName_37 (by decide) ?_
    refine R_icmpne (tgt := 46) hX dX5_takeChangeName_39 (by decide) (by constructor <;> first | omega | (simp (disch := omega) only [up_k, up_i, up_s]; omega)) (by constructor <;> first | omega | (simp (disch := omega) only [up_k, up_i, up_s]; omega)) (fun c_39 => ?_) (fun c_39 => ?_)
    · skip
      refine R_iconst hX dX5_takeChangeName_46 ?_
      exact R_iret hX dX5_takeChangeName_47 (by unfold tkChN; (repeat (first | rw [if_pos (by omega)] | rw [if_neg (by omega)])); exact ⟨rfl, rfl⟩)
    · skip
      refine R_iconst hX dX5_takeChangeName_42 ?_
      refine R_goto (tgt := 47) hX dX5_takeChangeName_43 (by decide) ?_
      exact R_iret hX dX5_takeChangeName_47 (by unfold tkChN; (repeat (first | rw [if_pos (by omega)] | rw [if_neg (by omega)])); exact ⟨rfl, rfl⟩)
  · skip
    refine R_iconst hX dX5_takeChangeName_7 ?_
    exact R_iret hX dX5_takeChangeName_8 (by unfold tkChN; (repeat (first | rw [if_pos (by omega)] | rw [if_neg (by omega)])); exact ⟨rfl, rfl⟩)
set_option maxRecDepth 100000 in
set_option maxHeartbeats 4000000 in
theorem c_tkChS {V : VX} {T : Shp} {F : Hp} {v : Int} (hv : isSu v) (hR : RdI v F) (hT : TkI F) (hE : F 3 4 = 10)  : Ct V yX5_takeChangeSetting cX5_takeChangeSetting 1 (some .int) 0 0 0 0 (SH T) [vr V 3] F (SH T) 1 (fun r F' => r = (tkChS F).1 ∧ F' = (tkChS F).2) := by
  refine Ct.of [some (vr V 3)] (by decide) (by simp [lg_sl, vi_cat, vl_cat, vr_cat]) rfl (by simp [asc, lv_args, vi_cat, vl_cat, vr_cat]) (fun X hV hX => ?_)
  subst hV
  obtain ⟨r1, r2, r3, r4, r5, r6, r7, r8, r9, r10, r11, r12, r13⟩ := id hR
  obtain ⟨t1, t2, t3, t4⟩ := id hT
  refine R_aload_0 hX dX5_takeChangeSetting_0 ?_
  refine R_aload_0 hX dX5_takeChangeSetting_1 ?_
  refine R_getq (v := 21) hX dX5_takeChangeSetting_2 fl_X5_25 o_3 rfl (by omega) ?_
  refine R_geti hX dX5_takeChangeSetting_5 fl_X5_99 o_21 rfl ?_
  try simp (disch := omega) only [up_k, up_i, up_s]
  refine R_puti hX dX5_takeChangeSetting_8 fl_X5_145 o_3 rfl ?_
  refine R_aload_0 hX dX5_takeChangeSetting_11 ?_
  refine R_bipush hX dX5_takeChangeSetting_12 (by decide) ?_
  refine R_puti hX dX5_takeChangeSetting_14 fl_X5_39 o_3 rfl ?_
  refine R_aload_0 hX dX5_takeChangeSetting_17 ?_
  refine R_geti hX dX5_takeChangeSetting_18 fl_X5_145 o_3 rfl ?_
  try simp (disch := omega) only [up_k, up_i, up_s]
  refine R_ifeq (tgt := 40) hX dX5_takeChangeSetting_21 (by decide) (by constructor <;> first | omega | (simp (disch := omega) only [up_k, up_i, up_s]; omega)) (fun c_21 => ?_) (fun c_21 => ?_)
  · skip
    refine R_iconst hX dX5_takeChangeSetting_40 ?_
    refine R_goto (tgt := 45) hX dX5_takeChangeSetting_41 (by decide) ?_
    exact R_iret hX dX5_takeChangeSetting_45 (by unfold tkChS; (repeat (first | rw [if_pos (by omega)] | rw [if_neg (by omega)])); exact ⟨rfl, rfl⟩)
  · skip
    refine R_aload_0 hX dX5_takeChangeSetting_24 ?_
    refine R_geti hX dX5_takeChangeSetting_25 fl_X5_145 o_3 rfl ?_
    try simp (disch := omega) only [up_k, up_i, up_s]
    refine R_iconst hX dX5_takeChangeSetting_28 ?_
    refine R_icmpeq (tgt := 40) hX dX5_takeChangeSetting_29 (by decide) (by constructor <;> first | omega | (simp (disch := omega) only [up_k, up_i, up_s]; omega)) (by constructor <;> first | omega | (simp (disch := omega) only [up_k, up_i, up_s]; omega)) (fun c_29 => ?_) (fun c_29 => ?_)
    · skip
      refine R_iconst hX dX5_takeChangeSetting_40 ?_
      refine R_goto (tgt := 45) hX dX5_takeChangeSetting_41 (by decide) ?_
      exact R_iret hX dX5_takeChangeSetting_45 (by unfold tkChS; (repeat (first | rw [if_pos (by omega)] | rw [if_neg (by omega)])); exact ⟨rfl, rfl⟩)
    · skip
      refine R_aload_0 hX dX5_takeChangeSetting_32 ?_
      refine R_geti hX dX5_takeChangeSetting_33 fl_X5_145 o_3 rfl ?_
      try simp (disch := omega) only [up_k, up_i, up_s]
      refine R_iconst hX dX5_takeChangeSetting_36 ?_
      refine R_icmpne (tgt := 44) hX dX5_takeChangeSetting_37 (by decide) (by constructor <;> first | omega | (simp (disch := omega) only [up_k, up_i, up_s]; omega)) (by constructor <;> first | omega | (simp (disch := omega) only [up_k, up_i, up_s]; omega)) (fun c_37 => ?_) (fun c_37 => ?_)
      · skip
        refine R_iconst hX dX5_takeChangeSetting_44 ?_
        exact R_iret hX dX5_takeChangeSetting_45 (by unfold tkChS; (repeat (first | rw [if_pos (by omega)] | rw [if_neg (by omega)])); exact ⟨rfl, rfl⟩)
      · skip
        refine R_iconst hX dX5_takeChangeSetting_40 ?_
        refine R_goto (tgt := 45) hX dX5_takeChangeSetting_41 (by decide) ?_
        exact R_iret hX dX5_takeChangeSetting_45 (by unfold tkChS; (repeat (first | rw [if_pos (by omega)] | rw [if_neg (by omega)])); exact ⟨rfl, rfl⟩)
set_option maxRecDepth 100000 in
set_option maxHeartbeats 4000000 in
theorem c_tkChV {V : VX} {T : Shp} {F : Hp} {v : Int} (hv : isSu v) (hR : RdI v F) (hT : TkI F) (hE : F 3 4 = 11)  : Ct V yX5_takeChangeValue cX5_takeChangeValue 2 (some .int) 2 42 0 0 (SH T) [vr V 3] F (SH T) 1 (fun r F' => r = (tkChV v F).1 ∧ F' = (tkChV v F).2) := by
  refine Ct.of [some (vr V 3), none] (by decide) (by simp [lg_sl, vi_cat, vl_cat, vr_cat]) rfl (by simp [asc, lv_args, vi_cat, vl_cat, vr_cat]) (fun X hV hX => ?_)
  subst hV
  obtain ⟨r1, r2, r3, r4, r5, r6, r7, r8, r9, r10, r11, r12, r13⟩ := id hR
  obtain ⟨t1, t2, t3, t4⟩ := id hT
  refine R_aload_0 hX dX5_takeChangeValue_0 ?_
  refine R_aload_0 hX dX5_takeChangeValue_1 ?_
  refine R_geti hX dX5_takeChangeValue_2 fl_X5_145 o_3 rfl ?_
  try simp (disch := omega) only [up_k, up_i, up_s]
  refine R_v1i hX dX5_takeChangeValue_5 li_X5_163 mk_X5_numberFault mi_X5_numberFault rfl o_3 (c_numFault hT (by have := r10 hE; omega)) ⟨⟨by decide, by decide⟩, by decide, by decide, rfl, Nat.le_of_ble_eq_true rfl, rfl⟩ (fun x_5 F_5 h_5 => ?_)
  obtain ⟨h_5, e_5⟩ := h_5; replace e_5 := e_5.symm; subst e_5
  subst h_5
  have hng : 0 ≤ nmg (F 3 8) F ∧ nmg (F 3 8) F ≤ 2 := by unfold nmg nmf; split <;> (try split) <;> omega
  refine R_istore_1 hX c1_r dX5_takeChangeValue_8 ?_
  refine R_iload_1 hX dX5_takeChangeValue_9 ?_
  refine R_ifne (tgt := 42) hX dX5_takeChangeValue_10 (by decide) (by constructor <;> first | omega | (simp (disch := omega) only [up_k, up_i, up_s]; omega)) (fun c_10 => ?_) (fun c_10 => ?_)
  · skip
    refine R_aload_0 hX dX5_takeChangeValue_42 ?_
    refine R_bipush hX dX5_takeChangeValue_43 (by decide) ?_
    refine R_puti hX dX5_takeChangeValue_45 fl_X5_39 o_3 rfl ?_
    refine R_iload_1 hX dX5_takeChangeValue_48 ?_
    exact R_iret hX dX5_takeChangeValue_49 (by unfold tkChV; (repeat (first | rw [if_pos (by omega)] | rw [if_neg (by omega)])); exact ⟨rfl, rfl⟩)
  · skip
    refine R_aload_0 hX dX5_takeChangeValue_13 ?_
    refine R_getoE (v := v) hX dX5_takeChangeValue_14 fl_X5_18 o_3 rfl (by first | exact hR.1 | (simp (disch := omega) only [up_k, up_i]; exact hR.1)) ?_
    refine R_getq (v := v + 12) hX dX5_takeChangeValue_17 fl_X5_108 (to_0 hv) rfl (by omega) ?_
    refine R_aload_0 hX dX5_takeChangeValue_20 ?_
    refine R_geti hX dX5_takeChangeValue_21 fl_X5_184 o_3 rfl ?_
    try simp (disch := omega) only [up_k, up_i, up_s]
    refine R_aload_0 hX dX5_takeChangeValue_24 ?_
    refine R_geti hX dX5_takeChangeValue_25 fl_X5_187 o_3 rfl ?_
    try simp (disch := omega) only [up_k, up_i, up_s]
    refine R_aload_0 hX dX5_takeChangeValue_28 ?_
    refine R_geti hX dX5_takeChangeValue_29 fl_X5_145 o_3 rfl ?_
    try simp (disch := omega) only [up_k, up_i, up_s]
    refine R_aload_0 hX dX5_takeChangeValue_32 ?_
    refine R_getq (v := 21) hX dX5_takeChangeValue_33 fl_X5_25 o_3 rfl (by omega) ?_
    refine R_geti hX dX5_takeChangeValue_36 fl_X5_171 o_21 rfl ?_
    try simp (disch := omega) only [up_k, up_i, up_s]
    refine R_v4v hX dX5_takeChangeValue_39 li_X5_190 mk_X1_add mi_X1_add rfl (to_12 hv) (c_chgAdd hv (by omega)) ⟨⟨by decide, by decide⟩, by decide, by decide, rfl, Nat.le_of_ble_eq_true rfl, rfl⟩ (fun x_39 F_39 h_39 => ?_)
    subst h_39
    refine R_aload_0 hX dX5_takeChangeValue_42 ?_
    refine R_bipush hX dX5_takeChangeValue_43 (by decide) ?_
    refine R_puti hX dX5_takeChangeValue_45 fl_X5_39 o_3 rfl ?_
    refine R_iload_1 hX dX5_takeChangeValue_48 ?_
    exact R_iret hX dX5_takeChangeValue_49 (by unfold tkChV; (repeat (first | rw [if_pos (by omega)] | rw [if_neg (by omega)])); exact ⟨rfl, rfl⟩)
set_option maxRecDepth 100000 in
set_option maxHeartbeats 4000000 in
theorem c_tkEnd {V : VX} {T : Shp} {F : Hp} {v : Int} (hv : isSu v) (hR : RdI v F) (hT : TkI F) (hE : F 3 4 = 12)  : Ct V yX5_takeStatementEnd cX5_takeStatementEnd 1 (some .int) 0 0 0 0 (SH T) [vr V 3] F (SH T) 1 (fun r F' => r = (tkEnd F).1 ∧ F' = (tkEnd F).2) := by
  refine Ct.of [some (vr V 3)] (by decide) (by simp [lg_sl, vi_cat, vl_cat, vr_cat]) rfl (by simp [asc, lv_args, vi_cat, vl_cat, vr_cat]) (fun X hV hX => ?_)
  subst hV
  obtain ⟨r1, r2, r3, r4, r5, r6, r7, r8, r9, r10, r11, r12, r13⟩ := id hR
  obtain ⟨t1, t2, t3, t4⟩ := id hT
  refine R_aload_0 hX dX5_takeStatementEnd_0 ?_
  refine R_iconst hX dX5_takeStatementEnd_1 ?_
  refine R_puti hX dX5_takeStatementEnd_2 fl_X5_39 o_3 rfl ?_
  refine R_aload_0 hX dX5_takeStatementEnd_5 ?_
  refine R_getq (v := 21) hX dX5_takeStatementEnd_6 fl_X5_25 o_3 rfl (by omega) ?_
  refine R_geti hX dX5_takeStatementEnd_9 fl_X5_36 o_21 rfl ?_
  try simp (disch := omega) only [up_k, up_i, up_s]
  refine R_iconst hX dX5_takeStatementEnd_12 ?_
  refine R_icmpne (tgt := 20) hX dX5_takeStatementEnd_13 (by decide) (by constructor <;> first | omega | (simp (disch := omega) only [up_k, up_i, up_s]; omega)) (by constructor <;> first | omega | (simp (disch := omega) only [up_k, up_i, up_s]; omega)) (fun c_13 => ?_) (fun c_13 => ?_)
  · skip
    refine R_iconst hX dX5_takeStatementEnd_20 ?_
    exact R_iret hX dX5_takeStatementEnd_21 (by unfold tkEnd; (repeat (first | rw [if_pos (by omega)] | rw [if_neg (by omega)])); exact ⟨rfl, rfl⟩)
  · skip
    refine R_iconst hX dX5_takeStatementEnd_16 ?_
    refine R_goto (tgt := 21) hX dX5_takeStatementEnd_17 (by decide) ?_
    exact R_iret hX dX5_takeStatementEnd_21 (by unfold tkEnd; (repeat (first | rw [if_pos (by omega)] | rw [if_neg (by omega)])); exact ⟨rfl, rfl⟩)
set_option maxRecDepth 100000 in
set_option maxHeartbeats 4000000 in
theorem c_take {V : VX} {T : Shp} {F : Hp} {v : Int} (hv : isSu v) (hR : RdI v F) (hT : TkI F)  : Ct V yX5_take cX5_take 1 (some .int) 4 88 0 0 (SH T) [vr V 3] F (SH T) 1 (fun r F' => r = (takS v F).1 ∧ F' = (takS v F).2) := by
  refine Ct.of [some (vr V 3)] (by decide) (by simp [lg_sl, vi_cat, vl_cat, vr_cat]) rfl (by simp [asc, lv_args, vi_cat, vl_cat, vr_cat]) (fun X hV hX => ?_)
  subst hV
  obtain ⟨r1, r2, r3, r4, r5, r6, r7, r8, r9, r10, r11, r12, r13⟩ := id hR
  obtain ⟨t1, t2, t3, t4⟩ := id hT
  refine R_aload_0 hX dX5_take_0 ?_
  refine R_geti hX dX5_take_1 fl_X5_39 o_3 rfl ?_
  try simp (disch := omega) only [up_k, up_i, up_s]
  refine R_tab (offs := [64, 69, 74, 79, 84, 89, 94, 99, 104, 109, 114, 119]) hX dX5_take_4 (by constructor <;> first | omega | (simp (disch := omega) only [up_k, up_i, up_s]; omega)) (by decide) (by decide) (fun c_4 => ?_) ⟨fun c_4 => ?_, fun c_4 => ?_, fun c_4 => ?_, fun c_4 => ?_, fun c_4 => ?_, fun c_4 => ?_, fun c_4 => ?_, fun c_4 => ?_, fun c_4 => ?_, fun c_4 => ?_, fun c_4 => ?_, fun c_4 => ?_, trivial⟩
  · refine R_pcn (pc := 128) (by decide) ?_
    refine R_aload_0 hX dX5_take_128 ?_
    refine R_v0i hX dX5_take_129 li_X5_96 mk_X5_takeStatementEnd mi_X5_takeStatementEnd rfl o_3 (c_tkEnd hv hR hT (by omega)) ⟨⟨by decide, by decide⟩, by decide, by decide, rfl, Nat.le_of_ble_eq_true rfl, rfl⟩ (fun x_129 F_129 h_129 => ?_)
    exact R_iret hX dX5_take_132 (by unfold takS; (repeat (first | rw [if_pos (by omega)] | rw [if_neg (by omega)])); exact h_129)
  · refine R_pcn (pc := 68) (by decide) ?_
    refine R_aload_0 hX dX5_take_68 ?_
    refine R_v0i hX dX5_take_69 li_X5_60 mk_X5_takeStatement mi_X5_takeStatement rfl o_3 (c_tkStm hv hR hT (by omega)) ⟨⟨by decide, by decide⟩, by decide, by decide, rfl, Nat.le_of_ble_eq_true rfl, rfl⟩ (fun x_69 F_69 h_69 => ?_)
    exact R_iret hX dX5_take_72 (by unfold takS; (repeat (first | rw [if_pos (by omega)] | rw [if_neg (by omega)])); exact h_69)
  · refine R_pcn (pc := 73) (by decide) ?_
    refine R_aload_0 hX dX5_take_73 ?_
    refine R_v0i hX dX5_take_74 li_X5_63 mk_X5_takeNodeName mi_X5_takeNodeName rfl o_3 (c_tkNam hv hR hT (by omega)) ⟨⟨by decide, by decide⟩, by decide, by decide, rfl, Nat.le_of_ble_eq_true rfl, rfl⟩ (fun x_74 F_74 h_74 => ?_)
    exact R_iret hX dX5_take_77 (by unfold takS; (repeat (first | rw [if_pos (by omega)] | rw [if_neg (by omega)])); exact h_74)
  · refine R_pcn (pc := 78) (by decide) ?_
    refine R_aload_0 hX dX5_take_78 ?_
    refine R_v0i hX dX5_take_79 li_X5_66 mk_X5_takeIn mi_X5_takeIn rfl o_3 (c_tkInn hv hR hT (by omega)) ⟨⟨by decide, by decide⟩, by decide, by decide, rfl, Nat.le_of_ble_eq_true rfl, rfl⟩ (fun x_79 F_79 h_79 => ?_)
    exact R_iret hX dX5_take_82 (by unfold takS; (repeat (first | rw [if_pos (by omega)] | rw [if_neg (by omega)])); exact h_79)
  · refine R_pcn (pc := 83) (by decide) ?_
    refine R_aload_0 hX dX5_take_83 ?_
    refine R_v0i hX dX5_take_84 li_X5_69 mk_X5_takeParentName mi_X5_takeParentName rfl o_3 (c_tkPar hv hR hT (by omega)) ⟨⟨by decide, by decide⟩, by decide, by decide, rfl, Nat.le_of_ble_eq_true rfl, rfl⟩ (fun x_84 F_84 h_84 => ?_)
    exact R_iret hX dX5_take_87 (by unfold takS; (repeat (first | rw [if_pos (by omega)] | rw [if_neg (by omega)])); exact h_84)
  · refine R_pcn (pc := 88) (by decide) ?_
    refine R_aload_0 hX dX5_take_88 ?_
    refine R_v0i hX dX5_take_89 li_X5_72 mk_X5_takeSetting mi_X5_takeSetting rfl o_3 (c_tkSet hv hR hT (by omega)) ⟨⟨by decide, by decide⟩, by decide, by decide, rfl, Nat.le_of_ble_eq_true rfl, rfl⟩ (fun x_89 F_89 h_89 => ?_)
    exact R_iret hX dX5_take_92 (by unfold takS; (repeat (first | rw [if_pos (by omega)] | rw [if_neg (by omega)])); exact h_89)
  · refine R_pcn (pc := 93) (by decide) ?_
    refine R_aload_0 hX dX5_take_93 ?_
    refine R_v0i hX dX5_take_94 li_X5_75 mk_X5_takeSettingValue mi_X5_takeSettingValue rfl o_3 (c_tkVal hv hR hT (by omega)) ⟨⟨by decide, by decide⟩, by decide, by decide, rfl, Nat.le_of_ble_eq_true rfl, rfl⟩ (fun x_94 F_94 h_94 => ?_)
    exact R_iret hX dX5_take_97 (by unfold takS; (repeat (first | rw [if_pos (by omega)] | rw [if_neg (by omega)])); exact h_94)
  · refine R_pcn (pc := 98) (by decide) ?_
    refine R_aload_0 hX dX5_take_98 ?_
    refine R_v0i hX dX5_take_99 li_X5_78 mk_X5_takeLimit mi_X5_takeLimit rfl o_3 (c_tkLim hv hR hT (by omega)) ⟨⟨by decide, by decide⟩, by decide, by decide, rfl, Nat.le_of_ble_eq_true rfl, rfl⟩ (fun x_99 F_99 h_99 => ?_)
    exact R_iret hX dX5_take_102 (by unfold takS; (repeat (first | rw [if_pos (by omega)] | rw [if_neg (by omega)])); exact h_99)
  · refine R_pcn (pc := 103) (by decide) ?_
    refine R_aload_0 hX dX5_take_103 ?_
    refine R_v0i hX dX5_take_104 li_X5_81 mk_X5_takeAge mi_X5_takeAge rfl o_3 (c_tkAge hv hR hT (by omega)) ⟨⟨by decide, by decide⟩, by decide, by decide, rfl, Nat.le_of_ble_eq_true rfl, rfl⟩ (fun x_104 F_104 h_104 => ?_)
    exact R_iret hX dX5_take_107 (by unfold takS; (repeat (first | rw [if_pos (by omega)] | rw [if_neg (by omega)])); exact h_104)
  · refine R_pcn (pc := 108) (by decide) ?_
    refine R_aload_0 hX dX5_take_108 ?_
    refine R_v0i hX dX5_take_109 li_X5_84 mk_X5_takeChangeTime mi_X5_takeChangeTime rfl o_3 (c_tkTim hv hR hT (by omega)) ⟨⟨by decide, by decide⟩, by decide, by decide, rfl, Nat.le_of_ble_eq_true rfl, rfl⟩ (fun x_109 F_109 h_109 => ?_)
    exact R_iret hX dX5_take_112 (by unfold takS; (repeat (first | rw [if_pos (by omega)] | rw [if_neg (by omega)])); exact h_109)
  · refine R_pcn (pc := 113) (by decide) ?_
    refine R_aload_0 hX dX5_take_113 ?_
    refine R_v0i hX dX5_take_114 li_X5_87 mk_X5_takeChangeName mi_X5_takeChangeName rfl o_3 (c_tkChN hv hR hT (by omega)) ⟨⟨by decide, by decide⟩, by decide, by decide, rfl, Nat.le_of_ble_eq_true rfl, rfl⟩ (fun x_114 F_114 h_114 => ?_)
    exact R_iret hX dX5_take_117 (by unfold takS; (repeat (first | rw [if_pos (by omega)] | rw [if_neg (by omega)])); exact h_114)
  · refine R_pcn (pc := 118) (by decide) ?_
    refine R_aload_0 hX dX5_take_118 ?_
    refine R_v0i hX dX5_take_119 li_X5_90 mk_X5_takeChangeSetting mi_X5_takeChangeSetting rfl o_3 (c_tkChS hv hR hT (by omega)) ⟨⟨by decide, by decide⟩, by decide, by decide, rfl, Nat.le_of_ble_eq_true rfl, rfl⟩ (fun x_119 F_119 h_119 => ?_)
    exact R_iret hX dX5_take_122 (by unfold takS; (repeat (first | rw [if_pos (by omega)] | rw [if_neg (by omega)])); exact h_119)
  · refine R_pcn (pc := 123) (by decide) ?_
    refine R_aload_0 hX dX5_take_123 ?_
    refine R_v0i hX dX5_take_124 li_X5_93 mk_X5_takeChangeValue mi_X5_takeChangeValue rfl o_3 (c_tkChV hv hR hT (by omega)) ⟨⟨by decide, by decide⟩, by decide, by decide, rfl, Nat.le_of_ble_eq_true rfl, rfl⟩ (fun x_124 F_124 h_124 => ?_)
    exact R_iret hX dX5_take_127 (by unfold takS; (repeat (first | rw [if_pos (by omega)] | rw [if_neg (by omega)])); exact h_124)
