def rnS (lo hi : Int) (F : Hp) : Hp := sc (mu (lo ≤ F 136 18 ∧ F 136 18 ≤ hi) 2 (mu (F 136 17 = 2) 1 F))
theorem PQ.rn {F : Hp} (h : PQ F) {lo hi : Int} : PQ (rnS lo hi F) := ((h.mu (by omega)).mu (by omega)).sc
theorem rnS_r {lo hi : Int} {F : Hp} {a i : Int} (h : a ≠ 136 ∨ (i ≠ 15 ∧ i ≠ 16 ∧ i ≠ 17 ∧ i ≠ 18 ∧ i ≠ 21 ∧ i ≠ 19 ∧ i ≠ 20)) : rnS lo hi F a i = F a i := by
  unfold rnS
  rw [sc_r (by omega), mu_r (by omega), mu_r (by omega)]
theorem PQ.u {F : Hp} (h : PQ F) {a i x : Int} (ha : (a ≠ 136 ∧ a ≠ 146 ∧ a ≠ 140 ∧ a ≠ 149) ∨ (a = 136 ∧ (i = 23 ∨ i = 24))) : PQ (up F a i x) := by
  unfold PQ TxQ at h ⊢
  rw [up_r (a := 146) (by omega), up_r (a := 140) (by omega), up_r (a := 149) (by omega)]
  rw [up_n (by omega), up_n (by omega), up_n (by omega), up_n (by omega), up_n (by omega), up_n (by omega), up_n (by omega), up_n (by omega), up_n (by omega), up_n (by omega)]
  exact h
theorem PQ.u9 {F : Hp} (h : PQ F) {i x : Int} (hx : x = 0 ∨ x = 1) : PQ (up F 149 i x) := by
  obtain ⟨h1, h2, h3, h4, h5, h6, h7, h8, h9, h10, h11⟩ := h
  unfold PQ TxQ
  rw [up_r (a := 146) (by decide), up_r (a := 140) (by decide)]
  rw [up_k (by decide), up_k (by decide), up_k (by decide), up_k (by decide), up_k (by decide), up_k (by decide), up_k (by decide), up_k (by decide), up_k (by decide), up_k (by decide)]
  refine ⟨h1, h2, h3, h4, h5, h6, h7, h8, h9, h10, fun j z0 z1 => ?_⟩
  by_cases q : j = i
  · rw [q, up_s]; exact hx
  · rw [up_i q]; exact h11 j z0 z1
/-- a node's parent, a node's setting -/
def rpA (d : Int) (F : Hp) : Hp := sc (mu (wdB 302 (up F 147 d (-2))) 1 (up F 147 d (-2)))
def rpB (d : Int) (F : Hp) : Hp := mu (nmB (rpA d F)) 1 (rpA d F)
def rpS (d : Int) (F : Hp) : Hp := if d = 0 then up F 147 d (-2) else sc (up (mu (¬ hrS (rpB d F) = -2) 3 (rpB d F)) 147 d (hrS (rpB d F)))
theorem PQ.rpB {d : Int} {F : Hp} (h : PQ F) : PQ (rpB d F) := (((h.u (by omega)).mu (by omega)).sc).mu (by omega)
theorem PQ.rp {d : Int} {F : Hp} (h : PQ F) : PQ (rpS d F) := by
  unfold rpS
  split
  · exact h.u (by omega)
  · exact ((h.rpB.mu (by omega)).u (by omega)).sc
def loK (k : Int) : Int := if k = 2 ∨ k = 4 then 1 else 0
def hiK (k : Int) : Int := if k = 0 then 99 else if k = 4 then 9 else if k = 5 then 7 else 999
def rsA (d : Int) (F : Hp) : Hp := sc (up (mu (F 149 (7 * d + stH F) = 0) 4 F) 149 (7 * d + stH F) 1)
def rsS (d : Int) (F : Hp) : Hp := if stH F = 6 then up (rsA d F) 148 (7 * d + 6) 1 else up (rnS (loK (stH F)) (hiK (stH F)) (rsA d F)) 148 (7 * d + stH F) (rsA d F 136 18)
theorem PQ.rsA {d : Int} {F : Hp} (h : PQ F) : PQ (rsA d F) := ((h.mu (by omega)).u9 (Or.inr rfl)).sc
theorem PQ.rs {d : Int} {F : Hp} (h : PQ F) : PQ (rsS d F) := by
  unfold rsS
  split
  · exact h.rsA.u (by omega)
  · exact h.rsA.rn.u (by omega)
set_option maxRecDepth 100000 in
set_option maxHeartbeats 4000000 in
theorem r_readsNumber {V : VX} {F : Hp} (h : PQ F) {lo hi : Int} (hlo : I32 lo) (hhi : I32 hi)  : Ct V yX12_readsNumber cX12_readsNumber 4 (some .int) 2 42 0 0 SH [vr V 136, vi lo, vi hi] F SH 1 (fun r F' => r = F 136 18 ∧ F' = rnS lo hi F) := by
  refine Ct.of [some (vr V 136), some (vi lo), some (vi hi), none] (by decide) (by simp [lg_sl, vi_cat, vl_cat, vr_cat]) rfl (by simp [asc, lv_args, vi_cat, vl_cat, vr_cat]) (fun X hV hX => ?_)
  subst hV
  obtain ⟨h1, h2, h3, h4, h5, h6, h7, h8, h9, h10, h11⟩ := id h
  refine R_aload_0 hX dX12_readsNumber_0 ?_
  refine R_aload_0 hX dX12_readsNumber_1 ?_
  refine R_geti hX dX12_readsNumber_2 fl_X12_116 o_136 rfl ?_
  try simp (disch := omega) only [up_i, up_k, up_s, mu_r, sc_r]
  refine R_iconst hX dX12_readsNumber_5 ?_
  refine R_icmpne (tgt := 13) hX dX12_readsNumber_6 (by decide) (by constructor <;> first | omega | (simp (disch := omega) only [up_k, up_i, up_s]; omega)) (by constructor <;> first | omega | (simp (disch := omega) only [up_k, up_i, up_s]; omega)) (fun c_6 => ?_) (fun c_6 => ?_)
  · skip
    refine R_iconst hX dX12_readsNumber_13 ?_
    refine R_iconst hX dX12_readsNumber_14 ?_
    refine R_v2v hX dX12_readsNumber_15 li_X12_175 mk_X12_must mi_X12_must rfl o_136 (r_must (by constructor <;> omega) (by constructor <;> omega) (by omega)) ⟨⟨by decide, by decide⟩, by decide, by decide, rfl, Nat.le_of_ble_eq_true rfl, rfl⟩ (fun x_15 F_15 h_15 => ?_)
    subst h_15
    refine R.eq rfl rfl (show _ = mu (F 136 17 = 2) 1 F from mu_iff (by omega)) ?_
    have hm : PQ (mu (F 136 17 = 2) 1 F) := h.mu (by omega)
    refine R_aload_0 hX dX12_readsNumber_18 ?_
    refine R_geti hX dX12_readsNumber_19 fl_X12_129 o_136 rfl ?_
    try simp (disch := omega) only [up_i, up_k, up_s, mu_r, sc_r]
    refine R_istore_3 hX c1_i dX12_readsNumber_22 ?_
    refine R_aload_0 hX dX12_readsNumber_23 ?_
    refine R_iload_3 hX dX12_readsNumber_24 ?_
    refine R_i2l hX (by constructor <;> first | omega | (simp (disch := omega) only [up_k, up_i, up_s]; omega)) dX12_readsNumber_25 ?_
    refine R_iload_1 hX dX12_readsNumber_26 ?_
    refine R_i2l hX (by constructor <;> first | omega | (simp (disch := omega) only [up_k, up_i, up_s]; omega)) dX12_readsNumber_27 ?_
    refine R_iload_2 hX dX12_readsNumber_28 ?_
    refine R_i2l hX hhi dX12_readsNumber_29 ?_
    refine R_s3i hX dX12_readsNumber_30 li_X12_94 mk_X12_in ms_X12_in (r_in (by constructor <;> omega) (by constructor <;> omega) (by constructor <;> omega)) ⟨⟨by decide, by decide⟩, by decide, by decide, rfl, Nat.le_of_ble_eq_true rfl, rfl⟩ (fun x_30 F_30 h_30 => ?_)
    obtain ⟨h_30, e_30⟩ := h_30; replace e_30 := e_30.symm; subst e_30
    refine R_iconst hX dX12_readsNumber_33 ?_
    refine R_v2v hX dX12_readsNumber_34 li_X12_175 mk_X12_must mi_X12_must rfl o_136 (r_must (by have z := hm.2.1; constructor <;> omega) (by have z := hm.2.2.1; constructor <;> omega) (by omega)) ⟨⟨by decide, by decide⟩, by decide, by decide, rfl, Nat.le_of_ble_eq_true rfl, rfl⟩ (fun x_34 F_34 h_34 => ?_)
    subst h_34
    refine R.eq rfl rfl (show _ = mu (lo ≤ F 136 18 ∧ F 136 18 ≤ hi) 2 (mu (F 136 17 = 2) 1 F) from mu_iff (by omega)) ?_
    refine R_aload_0 hX dX12_readsNumber_37 ?_
    refine R_v0v hX dX12_readsNumber_38 li_X12_179 mk_X12_scans mi_X12_scans rfl o_136 (r_scans (hm.mu (by omega)).1 (by have z := (hm.mu (g := lo ≤ F 136 18 ∧ F 136 18 ≤ hi) (c := 2) (by omega)).2.1; constructor <;> omega)) ⟨⟨by decide, by decide⟩, by decide, by decide, rfl, Nat.le_of_ble_eq_true rfl, rfl⟩ (fun x_38 F_38 h_38 => ?_)
    subst h_38
    refine R_iload_3 hX dX12_readsNumber_41 ?_
    exact R_iret hX dX12_readsNumber_42 ⟨rfl, rfl⟩
  · skip
    refine R_iconst hX dX12_readsNumber_9 ?_
    refine R_goto (tgt := 14) hX dX12_readsNumber_10 (by decide) ?_
    refine R_iconst hX dX12_readsNumber_14 ?_
    refine R_v2v hX dX12_readsNumber_15 li_X12_175 mk_X12_must mi_X12_must rfl o_136 (r_must (by constructor <;> omega) (by constructor <;> omega) (by omega)) ⟨⟨by decide, by decide⟩, by decide, by decide, rfl, Nat.le_of_ble_eq_true rfl, rfl⟩ (fun x_15 F_15 h_15 => ?_)
    subst h_15
    refine R.eq rfl rfl (show _ = mu (F 136 17 = 2) 1 F from mu_iff (by omega)) ?_
    have hm : PQ (mu (F 136 17 = 2) 1 F) := h.mu (by omega)
    refine R_aload_0 hX dX12_readsNumber_18 ?_
    refine R_geti hX dX12_readsNumber_19 fl_X12_129 o_136 rfl ?_
    try simp (disch := omega) only [up_i, up_k, up_s, mu_r, sc_r]
    refine R_istore_3 hX c1_i dX12_readsNumber_22 ?_
    refine R_aload_0 hX dX12_readsNumber_23 ?_
    refine R_iload_3 hX dX12_readsNumber_24 ?_
    refine R_i2l hX (by constructor <;> first | omega | (simp (disch := omega) only [up_k, up_i, up_s]; omega)) dX12_readsNumber_25 ?_
    refine R_iload_1 hX dX12_readsNumber_26 ?_
    refine R_i2l hX (by constructor <;> first | omega | (simp (disch := omega) only [up_k, up_i, up_s]; omega)) dX12_readsNumber_27 ?_
    refine R_iload_2 hX dX12_readsNumber_28 ?_
    refine R_i2l hX hhi dX12_readsNumber_29 ?_
    refine R_s3i hX dX12_readsNumber_30 li_X12_94 mk_X12_in ms_X12_in (r_in (by constructor <;> omega) (by constructor <;> omega) (by constructor <;> omega)) ⟨⟨by decide, by decide⟩, by decide, by decide, rfl, Nat.le_of_ble_eq_true rfl, rfl⟩ (fun x_30 F_30 h_30 => ?_)
    obtain ⟨h_30, e_30⟩ := h_30; replace e_30 := e_30.symm; subst e_30
    refine R_iconst hX dX12_readsNumber_33 ?_
    refine R_v2v hX dX12_readsNumber_34 li_X12_175 mk_X12_must mi_X12_must rfl o_136 (r_must (by have z := hm.2.1; constructor <;> omega) (by have z := hm.2.2.1; constructor <;> omega) (by omega)) ⟨⟨by decide, by decide⟩, by decide, by decide, rfl, Nat.le_of_ble_eq_true rfl, rfl⟩ (fun x_34 F_34 h_34 => ?_)
    subst h_34
    refine R.eq rfl rfl (show _ = mu (lo ≤ F 136 18 ∧ F 136 18 ≤ hi) 2 (mu (F 136 17 = 2) 1 F) from mu_iff (by omega)) ?_
    refine R_aload_0 hX dX12_readsNumber_37 ?_
    refine R_v0v hX dX12_readsNumber_38 li_X12_179 mk_X12_scans mi_X12_scans rfl o_136 (r_scans (hm.mu (by omega)).1 (by have z := (hm.mu (g := lo ≤ F 136 18 ∧ F 136 18 ≤ hi) (c := 2) (by omega)).2.1; constructor <;> omega)) ⟨⟨by decide, by decide⟩, by decide, by decide, rfl, Nat.le_of_ble_eq_true rfl, rfl⟩ (fun x_38 F_38 h_38 => ?_)
    subst h_38
    refine R_iload_3 hX dX12_readsNumber_41 ?_
    exact R_iret hX dX12_readsNumber_42 ⟨rfl, rfl⟩
set_option maxRecDepth 100000 in
set_option maxHeartbeats 4000000 in
theorem r_readsParent {V : VX} {F : Hp} (h : PQ F) {d : Int} (hd : 0 ≤ d ∧ d < 12)  : Ct V yX12_readsParent cX12_readsParent 3 none 2 42 0 0 SH [vr V 136, vi d] F SH 0 (fun r F' => F' = rpS d F) := by
  refine Ct.of [some (vr V 136), some (vi d), none] (by decide) (by simp [lg_sl, vi_cat, vl_cat, vr_cat]) rfl (by simp [asc, lv_args, vi_cat, vl_cat, vr_cat]) (fun X hV hX => ?_)
  subst hV
  obtain ⟨h1, h2, h3, h4, h5, h6, h7, h8, h9, h10, h11⟩ := id h
  refine R_aload_0 hX dX12_readsParent_0 ?_
  refine R_getq (v := 147) hX dX12_readsParent_1 fl_X12_52 o_136 rfl (by omega) ?_
  refine R_iload_1 hX dX12_readsParent_4 ?_
  refine R_bipush hX dX12_readsParent_5 (by decide) ?_
  refine R_iast hX dX12_readsParent_7 a_147 ⟨by omega, by omega⟩ ?_
  have hA : PQ (up F 147 d (-2)) := h.u (by omega)
  refine R_iload_1 hX dX12_readsParent_8 ?_
  refine R_ifne (tgt := 13) hX dX12_readsParent_9 (by decide) (by constructor <;> first | omega | (simp (disch := omega) only [up_k, up_i, up_s]; omega)) (fun c_9 => ?_) (fun c_9 => ?_)
  · skip
    refine R_aload_0 hX dX12_readsParent_13 ?_
    refine R_aload_0 hX dX12_readsParent_14 ?_
    refine R_ldc2 (n := 302) hX k2_X12_167 rfl dX12_readsParent_15 ?_
    refine R_v1i hX dX12_readsParent_18 li_X12_185 mk_X12_isWord mi_X12_isWord rfl o_136 (r_isWord hA (by constructor <;> omega)) ⟨⟨by decide, by decide⟩, by decide, by decide, rfl, Nat.le_of_ble_eq_true rfl, rfl⟩ (fun x_18 F_18 h_18 => ?_)
    obtain ⟨h_18, e_18⟩ := h_18; replace e_18 := e_18.symm; subst e_18
    refine R_iconst hX dX12_readsParent_21 ?_
    refine R_v2v hX dX12_readsParent_22 li_X12_175 mk_X12_must mi_X12_must rfl o_136 (r_must (by have z := hA.2.1; constructor <;> omega) (by have z := hA.2.2.1; constructor <;> omega) (by omega)) ⟨⟨by decide, by decide⟩, by decide, by decide, rfl, Nat.le_of_ble_eq_true rfl, rfl⟩ (fun x_22 F_22 h_22 => ?_)
    subst h_22
    refine R.eq rfl rfl (show _ = mu (wdB 302 (up F 147 d (-2))) 1 (up F 147 d (-2)) from mu_iff (by omega)) ?_
    refine R_aload_0 hX dX12_readsParent_25 ?_
    refine R_v0v hX dX12_readsParent_26 li_X12_179 mk_X12_scans mi_X12_scans rfl o_136 (r_scans (hA.mu (by omega)).1 (by have z := (hA.mu (g := wdB 302 (up F 147 d (-2))) (c := 1) (by omega)).2.1; constructor <;> omega)) ⟨⟨by decide, by decide⟩, by decide, by decide, rfl, Nat.le_of_ble_eq_true rfl, rfl⟩ (fun x_26 F_26 h_26 => ?_)
    subst h_26
    refine R.eq rfl rfl (show _ = rpA d F from rfl) ?_
    have hB : PQ (rpA d F) := (hA.mu (by omega)).sc
    refine R_aload_0 hX dX12_readsParent_29 ?_
    refine R_aload_0 hX dX12_readsParent_30 ?_
    refine R_v0i hX dX12_readsParent_31 li_X12_189 mk_X12_isName mi_X12_isName rfl o_136 (r_isName hB) ⟨⟨by decide, by decide⟩, by decide, by decide, rfl, Nat.le_of_ble_eq_true rfl, rfl⟩ (fun x_31 F_31 h_31 => ?_)
    obtain ⟨h_31, e_31⟩ := h_31; replace e_31 := e_31.symm; subst e_31
    refine R_iconst hX dX12_readsParent_34 ?_
    refine R_v2v hX dX12_readsParent_35 li_X12_175 mk_X12_must mi_X12_must rfl o_136 (r_must (by have z := hB.2.1; constructor <;> omega) (by have z := hB.2.2.1; constructor <;> omega) (by omega)) ⟨⟨by decide, by decide⟩, by decide, by decide, rfl, Nat.le_of_ble_eq_true rfl, rfl⟩ (fun x_35 F_35 h_35 => ?_)
    subst h_35
    refine R.eq rfl rfl (show _ = rpB d F from mu_iff (by omega)) ?_
    refine R_aload_0 hX dX12_readsParent_38 ?_
    refine R_v0i hX dX12_readsParent_39 li_X12_192 mk_X12_here mi_X12_here rfl o_136 (r_here h.rpB) ⟨⟨by decide, by decide⟩, by decide, by decide, rfl, Nat.le_of_ble_eq_true rfl, rfl⟩ (fun x_39 F_39 h_39 => ?_)
    obtain ⟨h_39, e_39⟩ := h_39; replace e_39 := e_39.symm; subst e_39
    subst h_39
    have hhr := fnF_rng (nm := rpB d F 140) (w := rpB d F 136 21) (N := rpB d F 136 22) 12 0
    change hrS (rpB d F) = -2 ∨ (0 ≤ hrS (rpB d F) ∧ hrS (rpB d F) < rpB d F 136 22 ∧ _) at hhr
    have h22 := (h.rpB (d := d)).2.2.2.2.2.1
    refine R_istore_2 hX c1_i dX12_readsParent_42 ?_
    refine R_aload_0 hX dX12_readsParent_43 ?_
    refine R_iload_2 hX dX12_readsParent_44 ?_
    refine R_bipush hX dX12_readsParent_45 (by decide) ?_
    refine R_icmpeq (tgt := 54) hX dX12_readsParent_47 (by decide) (by constructor <;> first | omega | (simp (disch := omega) only [up_k, up_i, up_s]; omega)) (by constructor <;> first | omega | (simp (disch := omega) only [up_k, up_i, up_s]; omega)) (fun c_47 => ?_) (fun c_47 => ?_)
    · skip
      refine R_iconst hX dX12_readsParent_54 ?_
      refine R_iconst hX dX12_readsParent_55 ?_
      refine R_v2v hX dX12_readsParent_56 li_X12_175 mk_X12_must mi_X12_must rfl o_136 (r_must (by have z := (h.rpB (d := d)).2.1; constructor <;> omega) (by have z := (h.rpB (d := d)).2.2.1; constructor <;> omega) (by omega)) ⟨⟨by decide, by decide⟩, by decide, by decide, rfl, Nat.le_of_ble_eq_true rfl, rfl⟩ (fun x_56 F_56 h_56 => ?_)
      subst h_56
      refine R.eq rfl rfl (show _ = mu (¬ hrS (rpB d F) = -2) 3 (rpB d F) from mu_iff (by omega)) ?_
      have hD : PQ (up (mu (¬ hrS (rpB d F) = -2) 3 (rpB d F)) 147 d (hrS (rpB d F))) := ((h.rpB).mu (by omega)).u (by omega)
      refine R_aload_0 hX dX12_readsParent_59 ?_
      refine R_getq (v := 147) hX dX12_readsParent_60 fl_X12_52 o_136 rfl (by omega) ?_
      refine R_iload_1 hX dX12_readsParent_63 ?_
      refine R_iload_2 hX dX12_readsParent_64 ?_
      refine R_iast hX dX12_readsParent_65 a_147 ⟨by omega, by omega⟩ ?_
      refine R_aload_0 hX dX12_readsParent_66 ?_
      refine R_v0v hX dX12_readsParent_67 li_X12_179 mk_X12_scans mi_X12_scans rfl o_136 (r_scans hD.1 (by have z := hD.2.1; constructor <;> omega)) ⟨⟨by decide, by decide⟩, by decide, by decide, rfl, Nat.le_of_ble_eq_true rfl, rfl⟩ (fun x_67 F_67 h_67 => ?_)
      subst h_67
      exact R_vret hX dX12_readsParent_70 (by unfold rpS; rw [if_neg (by omega)])
    · skip
      refine R_iconst hX dX12_readsParent_50 ?_
      refine R_goto (tgt := 55) hX dX12_readsParent_51 (by decide) ?_
      refine R_iconst hX dX12_readsParent_55 ?_
      refine R_v2v hX dX12_readsParent_56 li_X12_175 mk_X12_must mi_X12_must rfl o_136 (r_must (by have z := (h.rpB (d := d)).2.1; constructor <;> omega) (by have z := (h.rpB (d := d)).2.2.1; constructor <;> omega) (by omega)) ⟨⟨by decide, by decide⟩, by decide, by decide, rfl, Nat.le_of_ble_eq_true rfl, rfl⟩ (fun x_56 F_56 h_56 => ?_)
      subst h_56
      refine R.eq rfl rfl (show _ = mu (¬ hrS (rpB d F) = -2) 3 (rpB d F) from mu_iff (by omega)) ?_
      have hD : PQ (up (mu (¬ hrS (rpB d F) = -2) 3 (rpB d F)) 147 d (hrS (rpB d F))) := ((h.rpB).mu (by omega)).u (by omega)
      refine R_aload_0 hX dX12_readsParent_59 ?_
      refine R_getq (v := 147) hX dX12_readsParent_60 fl_X12_52 o_136 rfl (by omega) ?_
      refine R_iload_1 hX dX12_readsParent_63 ?_
      refine R_iload_2 hX dX12_readsParent_64 ?_
      refine R_iast hX dX12_readsParent_65 a_147 ⟨by omega, by omega⟩ ?_
      refine R_aload_0 hX dX12_readsParent_66 ?_
      refine R_v0v hX dX12_readsParent_67 li_X12_179 mk_X12_scans mi_X12_scans rfl o_136 (r_scans hD.1 (by have z := hD.2.1; constructor <;> omega)) ⟨⟨by decide, by decide⟩, by decide, by decide, rfl, Nat.le_of_ble_eq_true rfl, rfl⟩ (fun x_67 F_67 h_67 => ?_)
      subst h_67
      exact R_vret hX dX12_readsParent_70 (by unfold rpS; rw [if_neg (by omega)])
  · skip
    exact R_vret hX dX12_readsParent_12 (by unfold rpS; rw [if_pos (by omega)])
set_option maxRecDepth 100000 in
set_option maxHeartbeats 4000000 in
theorem r_readsSetting {V : VX} {F : Hp} (h : PQ F) {d : Int} (hd : 0 ≤ d ∧ d < 12) (hs : stH F ≠ -2)  : Ct V yX12_readsSetting cX12_readsSetting 5 none 3 65 0 0 SH [vr V 136, vi d] F SH 0 (fun r F' => F' = rsS d F) := by
  refine Ct.of [some (vr V 136), some (vi d), none, none, none] (by decide) (by simp [lg_sl, vi_cat, vl_cat, vr_cat]) rfl (by simp [asc, lv_args, vi_cat, vl_cat, vr_cat]) (fun X hV hX => ?_)
  subst hV
  obtain ⟨h1, h2, h3, h4, h5, h6, h7, h8, h9, h10, h11⟩ := id h
  have hsr := stH_rng F
  refine R_aload_0 hX dX12_readsSetting_0 ?_
  refine R_v0i hX dX12_readsSetting_1 li_X12_161 mk_X12_settingHere mi_X12_settingHere rfl o_136 (r_settingHere h) ⟨⟨by decide, by decide⟩, by decide, by decide, rfl, Nat.le_of_ble_eq_true rfl, rfl⟩ (fun x_1 F_1 h_1 => ?_)
  obtain ⟨h_1, e_1⟩ := h_1; replace e_1 := e_1.symm; subst e_1
  subst h_1
  have ht := h11 (7 * d + stH F) (by omega) (by omega)
  refine R_istore_2 hX c1_i dX12_readsSetting_4 ?_
  refine R_aload_0 hX dX12_readsSetting_5 ?_
  refine R_aload_0 hX dX12_readsSetting_6 ?_
  refine R_getq (v := 149) hX dX12_readsSetting_7 fl_X12_58 o_136 rfl (by omega) ?_
  refine R_bipush hX dX12_readsSetting_10 (by decide) ?_
  refine R_iload_1 hX dX12_readsSetting_12 ?_
  refine R_imul hX dX12_readsSetting_13 ?_
  refine R_iload_2 hX dX12_readsSetting_14 ?_
  refine R_iadd hX dX12_readsSetting_15 ?_
  refine R_zald hX dX12_readsSetting_16 a_149 ⟨by omega, by omega⟩ ?_
  try simp (disch := omega) only [up_i, up_k, up_s, mu_r, sc_r]
  refine R_ifne (tgt := 24) hX dX12_readsSetting_17 (by decide) (by constructor <;> first | omega | (simp (disch := omega) only [up_k, up_i, up_s]; omega)) (fun c_17 => ?_) (fun c_17 => ?_)
  · skip
    refine R_iconst hX dX12_readsSetting_24 ?_
    refine R_iconst hX dX12_readsSetting_25 ?_
    refine R_v2v hX dX12_readsSetting_26 li_X12_175 mk_X12_must mi_X12_must rfl o_136 (r_must (by constructor <;> omega) (by constructor <;> omega) (by omega)) ⟨⟨by decide, by decide⟩, by decide, by decide, rfl, Nat.le_of_ble_eq_true rfl, rfl⟩ (fun x_26 F_26 h_26 => ?_)
    subst h_26
    refine R.eq rfl rfl (show _ = mu (F 149 (7 * d + stH F) = 0) 4 F from mu_iff (by omega)) ?_
    refine R_aload_0 hX dX12_readsSetting_29 ?_
    refine R_getq (v := 149) hX dX12_readsSetting_30 fl_X12_58 o_136 rfl (by omega) ?_
    refine R_bipush hX dX12_readsSetting_33 (by decide) ?_
    refine R_iload_1 hX dX12_readsSetting_35 ?_
    refine R_imul hX dX12_readsSetting_36 ?_
    refine R_iload_2 hX dX12_readsSetting_37 ?_
    refine R_iadd hX dX12_readsSetting_38 ?_
    refine R_iconst hX dX12_readsSetting_39 ?_
    refine R_zast hX dX12_readsSetting_40 a_149 ⟨by omega, by omega⟩ (Or.inr rfl) ?_
    have hM : PQ (up (mu (F 149 (7 * d + stH F) = 0) 4 F) 149 (7 * d + stH F) 1) := (h.mu (by omega)).u9 (Or.inr rfl)
    refine R_aload_0 hX dX12_readsSetting_41 ?_
    refine R_v0v hX dX12_readsSetting_42 li_X12_179 mk_X12_scans mi_X12_scans rfl o_136 (r_scans hM.1 (by have z := hM.2.1; constructor <;> omega)) ⟨⟨by decide, by decide⟩, by decide, by decide, rfl, Nat.le_of_ble_eq_true rfl, rfl⟩ (fun x_42 F_42 h_42 => ?_)
    subst h_42
    refine R.eq rfl rfl (show _ = rsA d F from rfl) ?_
    refine R_iload_2 hX dX12_readsSetting_45 ?_
    refine R_bipush hX dX12_readsSetting_46 (by decide) ?_
    refine R_icmpne (tgt := 65) hX dX12_readsSetting_48 (by decide) (by constructor <;> first | omega | (simp (disch := omega) only [up_k, up_i, up_s]; omega)) (by constructor <;> first | omega | (simp (disch := omega) only [up_k, up_i, up_s]; omega)) (fun c_48 => ?_) (fun c_48 => ?_)
    · skip
      refine R_iload_2 hX dX12_readsSetting_65 ?_
      refine R_iconst hX dX12_readsSetting_66 ?_
      refine R_icmpeq (tgt := 75) hX dX12_readsSetting_67 (by decide) (by constructor <;> first | omega | (simp (disch := omega) only [up_k, up_i, up_s]; omega)) (by constructor <;> first | omega | (simp (disch := omega) only [up_k, up_i, up_s]; omega)) (fun c_67 => ?_) (fun c_67 => ?_)
      · skip
        refine R_iconst hX dX12_readsSetting_75 ?_
        refine R_goto (tgt := 80) hX dX12_readsSetting_76 (by decide) ?_
        refine R_istore_3 hX c1_i dX12_readsSetting_80 ?_
        refine R_iload_2 hX dX12_readsSetting_81 ?_
        refine R_ifne (tgt := 90) hX dX12_readsSetting_82 (by decide) (by constructor <;> first | omega | (simp (disch := omega) only [up_k, up_i, up_s]; omega)) (fun c_82 => ?_) (fun c_82 => ?_)
        · skip
          refine R_iload_2 hX dX12_readsSetting_90 ?_
          refine R_iconst hX dX12_readsSetting_91 ?_
          refine R_icmpne (tgt := 100) hX dX12_readsSetting_92 (by decide) (by constructor <;> first | omega | (simp (disch := omega) only [up_k, up_i, up_s]; omega)) (by constructor <;> first | omega | (simp (disch := omega) only [up_k, up_i, up_s]; omega)) (fun c_92 => ?_) (fun c_92 => ?_)
          · skip
            refine R_iload_2 hX dX12_readsSetting_100 ?_
            refine R_iconst hX dX12_readsSetting_101 ?_
            refine R_icmpne (tgt := 110) hX dX12_readsSetting_102 (by decide) (by constructor <;> first | omega | (simp (disch := omega) only [up_k, up_i, up_s]; omega)) (by constructor <;> first | omega | (simp (disch := omega) only [up_k, up_i, up_s]; omega)) (fun c_102 => ?_) (fun c_102 => ?_)
            · skip
              refine R_sipush hX dX12_readsSetting_110 (by decide) ?_
              refine R_istore_4 hX c1_i dX12_readsSetting_113 ?_
              refine R_aload_0 hX dX12_readsSetting_115 ?_
              refine R_getq (v := 148) hX dX12_readsSetting_116 fl_X12_55 o_136 rfl (by omega) ?_
              refine R_bipush hX dX12_readsSetting_119 (by decide) ?_
              refine R_iload_1 hX dX12_readsSetting_121 ?_
              refine R_imul hX dX12_readsSetting_122 ?_
              refine R_iload_2 hX dX12_readsSetting_123 ?_
              refine R_iadd hX dX12_readsSetting_124 ?_
              refine R_aload_0 hX dX12_readsSetting_125 ?_
              refine R_iload_3 hX dX12_readsSetting_126 ?_
              refine R_iload_4 hX dX12_readsSetting_127 ?_
              refine R_v2i hX dX12_readsSetting_129 li_X12_195 mk_X12_readsNumber mi_X12_readsNumber rfl o_136 (r_readsNumber h.rsA (by constructor <;> omega) (by constructor <;> omega)) ⟨⟨by decide, by decide⟩, by decide, by decide, rfl, Nat.le_of_ble_eq_true rfl, rfl⟩ (fun x_129 F_129 h_129 => ?_)
              obtain ⟨hx, hF⟩ := h_129
              subst hx
              subst hF
              refine R_iast hX dX12_readsSetting_132 a_148 ⟨by omega, by omega⟩ ?_
              exact R_vret hX dX12_readsSetting_133 (by unfold rsS loK hiK; rw [if_neg (by omega)]; first | (rw [if_pos (by omega), if_pos (by omega)]; done) | (rw [if_pos (by omega), if_neg (by omega), if_pos (by omega)]; done) | (rw [if_pos (by omega), if_neg (by omega), if_neg (by omega), if_pos (by omega)]; done) | (rw [if_pos (by omega), if_neg (by omega), if_neg (by omega), if_neg (by omega)]; done) | (rw [if_neg (by omega), if_pos (by omega)]; done) | (rw [if_neg (by omega), if_neg (by omega), if_pos (by omega)]; done) | (rw [if_neg (by omega), if_neg (by omega), if_neg (by omega), if_pos (by omega)]; done) | (rw [if_neg (by omega), if_neg (by omega), if_neg (by omega), if_neg (by omega)]; done))
            · skip
              refine R_bipush hX dX12_readsSetting_105 (by decide) ?_
              refine R_goto (tgt := 113) hX dX12_readsSetting_107 (by decide) ?_
              refine R_istore_4 hX c1_i dX12_readsSetting_113 ?_
              refine R_aload_0 hX dX12_readsSetting_115 ?_
              refine R_getq (v := 148) hX dX12_readsSetting_116 fl_X12_55 o_136 rfl (by omega) ?_
              refine R_bipush hX dX12_readsSetting_119 (by decide) ?_
              refine R_iload_1 hX dX12_readsSetting_121 ?_
              refine R_imul hX dX12_readsSetting_122 ?_
              refine R_iload_2 hX dX12_readsSetting_123 ?_
              refine R_iadd hX dX12_readsSetting_124 ?_
              refine R_aload_0 hX dX12_readsSetting_125 ?_
              refine R_iload_3 hX dX12_readsSetting_126 ?_
              refine R_iload_4 hX dX12_readsSetting_127 ?_
              refine R_v2i hX dX12_readsSetting_129 li_X12_195 mk_X12_readsNumber mi_X12_readsNumber rfl o_136 (r_readsNumber h.rsA (by constructor <;> omega) (by constructor <;> omega)) ⟨⟨by decide, by decide⟩, by decide, by decide, rfl, Nat.le_of_ble_eq_true rfl, rfl⟩ (fun x_129 F_129 h_129 => ?_)
              obtain ⟨hx, hF⟩ := h_129
              subst hx
              subst hF
              refine R_iast hX dX12_readsSetting_132 a_148 ⟨by omega, by omega⟩ ?_
              exact R_vret hX dX12_readsSetting_133 (by unfold rsS loK hiK; rw [if_neg (by omega)]; first | (rw [if_pos (by omega), if_pos (by omega)]; done) | (rw [if_pos (by omega), if_neg (by omega), if_pos (by omega)]; done) | (rw [if_pos (by omega), if_neg (by omega), if_neg (by omega), if_pos (by omega)]; done) | (rw [if_pos (by omega), if_neg (by omega), if_neg (by omega), if_neg (by omega)]; done) | (rw [if_neg (by omega), if_pos (by omega)]; done) | (rw [if_neg (by omega), if_neg (by omega), if_pos (by omega)]; done) | (rw [if_neg (by omega), if_neg (by omega), if_neg (by omega), if_pos (by omega)]; done) | (rw [if_neg (by omega), if_neg (by omega), if_neg (by omega), if_neg (by omega)]; done))
          · skip
            refine R_bipush hX dX12_readsSetting_95 (by decide) ?_
            refine R_goto (tgt := 113) hX dX12_readsSetting_97 (by decide) ?_
            refine R_istore_4 hX c1_i dX12_readsSetting_113 ?_
            refine R_aload_0 hX dX12_readsSetting_115 ?_
            refine R_getq (v := 148) hX dX12_readsSetting_116 fl_X12_55 o_136 rfl (by omega) ?_
            refine R_bipush hX dX12_readsSetting_119 (by decide) ?_
            refine R_iload_1 hX dX12_readsSetting_121 ?_
            refine R_imul hX dX12_readsSetting_122 ?_
            refine R_iload_2 hX dX12_readsSetting_123 ?_
            refine R_iadd hX dX12_readsSetting_124 ?_
            refine R_aload_0 hX dX12_readsSetting_125 ?_
            refine R_iload_3 hX dX12_readsSetting_126 ?_
            refine R_iload_4 hX dX12_readsSetting_127 ?_
            refine R_v2i hX dX12_readsSetting_129 li_X12_195 mk_X12_readsNumber mi_X12_readsNumber rfl o_136 (r_readsNumber h.rsA (by constructor <;> omega) (by constructor <;> omega)) ⟨⟨by decide, by decide⟩, by decide, by decide, rfl, Nat.le_of_ble_eq_true rfl, rfl⟩ (fun x_129 F_129 h_129 => ?_)
            obtain ⟨hx, hF⟩ := h_129
            subst hx
            subst hF
            refine R_iast hX dX12_readsSetting_132 a_148 ⟨by omega, by omega⟩ ?_
            exact R_vret hX dX12_readsSetting_133 (by unfold rsS loK hiK; rw [if_neg (by omega)]; first | (rw [if_pos (by omega), if_pos (by omega)]; done) | (rw [if_pos (by omega), if_neg (by omega), if_pos (by omega)]; done) | (rw [if_pos (by omega), if_neg (by omega), if_neg (by omega), if_pos (by omega)]; done) | (rw [if_pos (by omega), if_neg (by omega), if_neg (by omega), if_neg (by omega)]; done) | (rw [if_neg (by omega), if_pos (by omega)]; done) | (rw [if_neg (by omega), if_neg (by omega), if_pos (by omega)]; done) | (rw [if_neg (by omega), if_neg (by omega), if_neg (by omega), if_pos (by omega)]; done) | (rw [if_neg (by omega), if_neg (by omega), if_neg (by omega), if_neg (by omega)]; done))
        · skip
          refine R_bipush hX dX12_readsSetting_85 (by decide) ?_
          refine R_goto (tgt := 113) hX dX12_readsSetting_87 (by decide) ?_
          refine R_istore_4 hX c1_i dX12_readsSetting_113 ?_
          refine R_aload_0 hX dX12_readsSetting_115 ?_
          refine R_getq (v := 148) hX dX12_readsSetting_116 fl_X12_55 o_136 rfl (by omega) ?_
          refine R_bipush hX dX12_readsSetting_119 (by decide) ?_
          refine R_iload_1 hX dX12_readsSetting_121 ?_
          refine R_imul hX dX12_readsSetting_122 ?_
          refine R_iload_2 hX dX12_readsSetting_123 ?_
          refine R_iadd hX dX12_readsSetting_124 ?_
          refine R_aload_0 hX dX12_readsSetting_125 ?_
          refine R_iload_3 hX dX12_readsSetting_126 ?_
          refine R_iload_4 hX dX12_readsSetting_127 ?_
          refine R_v2i hX dX12_readsSetting_129 li_X12_195 mk_X12_readsNumber mi_X12_readsNumber rfl o_136 (r_readsNumber h.rsA (by constructor <;> omega) (by constructor <;> omega)) ⟨⟨by decide, by decide⟩, by decide, by decide, rfl, Nat.le_of_ble_eq_true rfl, rfl⟩ (fun x_129 F_129 h_129 => ?_)
          obtain ⟨hx, hF⟩ := h_129
          subst hx
          subst hF
          refine R_iast hX dX12_readsSetting_132 a_148 ⟨by omega, by omega⟩ ?_
          exact R_vret hX dX12_readsSetting_133 (by unfold rsS loK hiK; rw [if_neg (by omega)]; first | (rw [if_pos (by omega), if_pos (by omega)]; done) | (rw [if_pos (by omega), if_neg (by omega), if_pos (by omega)]; done) | (rw [if_pos (by omega), if_neg (by omega), if_neg (by omega), if_pos (by omega)]; done) | (rw [if_pos (by omega), if_neg (by omega), if_neg (by omega), if_neg (by omega)]; done) | (rw [if_neg (by omega), if_pos (by omega)]; done) | (rw [if_neg (by omega), if_neg (by omega), if_pos (by omega)]; done) | (rw [if_neg (by omega), if_neg (by omega), if_neg (by omega), if_pos (by omega)]; done) | (rw [if_neg (by omega), if_neg (by omega), if_neg (by omega), if_neg (by omega)]; done))
      · skip
        refine R_iload_2 hX dX12_readsSetting_70 ?_
        refine R_iconst hX dX12_readsSetting_71 ?_
        refine R_icmpne (tgt := 79) hX dX12_readsSetting_72 (by decide) (by constructor <;> first | omega | (simp (disch := omega) only [up_k, up_i, up_s]; omega)) (by constructor <;> first | omega | (simp (disch := omega) only [up_k, up_i, up_s]; omega)) (fun c_72 => ?_) (fun c_72 => ?_)
        · skip
          refine R_iconst hX dX12_readsSetting_79 ?_
          refine R_istore_3 hX c1_i dX12_readsSetting_80 ?_
          refine R_iload_2 hX dX12_readsSetting_81 ?_
          refine R_ifne (tgt := 90) hX dX12_readsSetting_82 (by decide) (by constructor <;> first | omega | (simp (disch := omega) only [up_k, up_i, up_s]; omega)) (fun c_82 => ?_) (fun c_82 => ?_)
          · skip
            refine R_iload_2 hX dX12_readsSetting_90 ?_
            refine R_iconst hX dX12_readsSetting_91 ?_
            refine R_icmpne (tgt := 100) hX dX12_readsSetting_92 (by decide) (by constructor <;> first | omega | (simp (disch := omega) only [up_k, up_i, up_s]; omega)) (by constructor <;> first | omega | (simp (disch := omega) only [up_k, up_i, up_s]; omega)) (fun c_92 => ?_) (fun c_92 => ?_)
            · skip
              refine R_iload_2 hX dX12_readsSetting_100 ?_
              refine R_iconst hX dX12_readsSetting_101 ?_
              refine R_icmpne (tgt := 110) hX dX12_readsSetting_102 (by decide) (by constructor <;> first | omega | (simp (disch := omega) only [up_k, up_i, up_s]; omega)) (by constructor <;> first | omega | (simp (disch := omega) only [up_k, up_i, up_s]; omega)) (fun c_102 => ?_) (fun c_102 => ?_)
              · skip
                refine R_sipush hX dX12_readsSetting_110 (by decide) ?_
                refine R_istore_4 hX c1_i dX12_readsSetting_113 ?_
                refine R_aload_0 hX dX12_readsSetting_115 ?_
                refine R_getq (v := 148) hX dX12_readsSetting_116 fl_X12_55 o_136 rfl (by omega) ?_
                refine R_bipush hX dX12_readsSetting_119 (by decide) ?_
                refine R_iload_1 hX dX12_readsSetting_121 ?_
                refine R_imul hX dX12_readsSetting_122 ?_
                refine R_iload_2 hX dX12_readsSetting_123 ?_
                refine R_iadd hX dX12_readsSetting_124 ?_
                refine R_aload_0 hX dX12_readsSetting_125 ?_
                refine R_iload_3 hX dX12_readsSetting_126 ?_
                refine R_iload_4 hX dX12_readsSetting_127 ?_
                refine R_v2i hX dX12_readsSetting_129 li_X12_195 mk_X12_readsNumber mi_X12_readsNumber rfl o_136 (r_readsNumber h.rsA (by constructor <;> omega) (by constructor <;> omega)) ⟨⟨by decide, by decide⟩, by decide, by decide, rfl, Nat.le_of_ble_eq_true rfl, rfl⟩ (fun x_129 F_129 h_129 => ?_)
                obtain ⟨hx, hF⟩ := h_129
                subst hx
                subst hF
                refine R_iast hX dX12_readsSetting_132 a_148 ⟨by omega, by omega⟩ ?_
                exact R_vret hX dX12_readsSetting_133 (by unfold rsS loK hiK; rw [if_neg (by omega)]; first | (rw [if_pos (by omega), if_pos (by omega)]; done) | (rw [if_pos (by omega), if_neg (by omega), if_pos (by omega)]; done) | (rw [if_pos (by omega), if_neg (by omega), if_neg (by omega), if_pos (by omega)]; done) | (rw [if_pos (by omega), if_neg (by omega), if_neg (by omega), if_neg (by omega)]; done) | (rw [if_neg (by omega), if_pos (by omega)]; done) | (rw [if_neg (by omega), if_neg (by omega), if_pos (by omega)]; done) | (rw [if_neg (by omega), if_neg (by omega), if_neg (by omega), if_pos (by omega)]; done) | (rw [if_neg (by omega), if_neg (by omega), if_neg (by omega), if_neg (by omega)]; done))
              · skip
                refine R_bipush hX dX12_readsSetting_105 (by decide) ?_
                refine R_goto (tgt := 113) hX dX12_readsSetting_107 (by decide) ?_
                refine R_istore_4 hX c1_i dX12_readsSetting_113 ?_
                refine R_aload_0 hX dX12_readsSetting_115 ?_
                refine R_getq (v := 148) hX dX12_readsSetting_116 fl_X12_55 o_136 rfl (by omega) ?_
                refine R_bipush hX dX12_readsSetting_119 (by decide) ?_
                refine R_iload_1 hX dX12_readsSetting_121 ?_
                refine R_imul hX dX12_readsSetting_122 ?_
                refine R_iload_2 hX dX12_readsSetting_123 ?_
                refine R_iadd hX dX12_readsSetting_124 ?_
                refine R_aload_0 hX dX12_readsSetting_125 ?_
                refine R_iload_3 hX dX12_readsSetting_126 ?_
                refine R_iload_4 hX dX12_readsSetting_127 ?_
                refine R_v2i hX dX12_readsSetting_129 li_X12_195 mk_X12_readsNumber mi_X12_readsNumber rfl o_136 (r_readsNumber h.rsA (by constructor <;> omega) (by constructor <;> omega)) ⟨⟨by decide, by decide⟩, by decide, by decide, rfl, Nat.le_of_ble_eq_true rfl, rfl⟩ (fun x_129 F_129 h_129 => ?_)
                obtain ⟨hx, hF⟩ := h_129
                subst hx
                subst hF
                refine R_iast hX dX12_readsSetting_132 a_148 ⟨by omega, by omega⟩ ?_
                exact R_vret hX dX12_readsSetting_133 (by unfold rsS loK hiK; rw [if_neg (by omega)]; first | (rw [if_pos (by omega), if_pos (by omega)]; done) | (rw [if_pos (by omega), if_neg (by omega), if_pos (by omega)]; done) | (rw [if_pos (by omega), if_neg (by omega), if_neg (by omega), if_pos (by omega)]; done) | (rw [if_pos (by omega), if_neg (by omega), if_neg (by omega), if_neg (by omega)]; done) | (rw [if_neg (by omega), if_pos (by omega)]; done) | (rw [if_neg (by omega), if_neg (by omega), if_pos (by omega)]; done) | (rw [if_neg (by omega), if_neg (by omega), if_neg (by omega), if_pos (by omega)]; done) | (rw [if_neg (by omega), if_neg (by omega), if_neg (by omega), if_neg (by omega)]; done))
            · skip
              refine R_bipush hX dX12_readsSetting_95 (by decide) ?_
              refine R_goto (tgt := 113) hX dX12_readsSetting_97 (by decide) ?_
              refine R_istore_4 hX c1_i dX12_readsSetting_113 ?_
              refine R_aload_0 hX dX12_readsSetting_115 ?_
              refine R_getq (v := 148) hX dX12_readsSetting_116 fl_X12_55 o_136 rfl (by omega) ?_
              refine R_bipush hX dX12_readsSetting_119 (by decide) ?_
              refine R_iload_1 hX dX12_readsSetting_121 ?_
              refine R_imul hX dX12_readsSetting_122 ?_
              refine R_iload_2 hX dX12_readsSetting_123 ?_
              refine R_iadd hX dX12_readsSetting_124 ?_
              refine R_aload_0 hX dX12_readsSetting_125 ?_
              refine R_iload_3 hX dX12_readsSetting_126 ?_
              refine R_iload_4 hX dX12_readsSetting_127 ?_
              refine R_v2i hX dX12_readsSetting_129 li_X12_195 mk_X12_readsNumber mi_X12_readsNumber rfl o_136 (r_readsNumber h.rsA (by constructor <;> omega) (by constructor <;> omega)) ⟨⟨by decide, by decide⟩, by decide, by decide, rfl, Nat.le_of_ble_eq_true rfl, rfl⟩ (fun x_129 F_129 h_129 => ?_)
              obtain ⟨hx, hF⟩ := h_129
              subst hx
              subst hF
              refine R_iast hX dX12_readsSetting_132 a_148 ⟨by omega, by omega⟩ ?_
              exact R_vret hX dX12_readsSetting_133 (by unfold rsS loK hiK; rw [if_neg (by omega)]; first | (rw [if_pos (by omega), if_pos (by omega)]; done) | (rw [if_pos (by omega), if_neg (by omega), if_pos (by omega)]; done) | (rw [if_pos (by omega), if_neg (by omega), if_neg (by omega), if_pos (by omega)]; done) | (rw [if_pos (by omega), if_neg (by omega), if_neg (by omega), if_neg (by omega)]; done) | (rw [if_neg (by omega), if_pos (by omega)]; done) | (rw [if_neg (by omega), if_neg (by omega), if_pos (by omega)]; done) | (rw [if_neg (by omega), if_neg (by omega), if_neg (by omega), if_pos (by omega)]; done) | (rw [if_neg (by omega), if_neg (by omega), if_neg (by omega), if_neg (by omega)]; done))
          · skip
            refine R_bipush hX dX12_readsSetting_85 (by decide) ?_
            refine R_goto (tgt := 113) hX dX12_readsSetting_87 (by decide) ?_
            refine R_istore_4 hX c1_i dX12_readsSetting_113 ?_
            refine R_aload_0 hX dX12_readsSetting_115 ?_
            refine R_getq (v := 148) hX dX12_readsSetting_116 fl_X12_55 o_136 rfl (by omega) ?_
            refine R_bipush hX dX12_readsSetting_119 (by decide) ?_
            refine R_iload_1 hX dX12_readsSetting_121 ?_
            refine R_imul hX dX12_readsSetting_122 ?_
            refine R_iload_2 hX dX12_readsSetting_123 ?_
            refine R_iadd hX dX12_readsSetting_124 ?_
            refine R_aload_0 hX dX12_readsSetting_125 ?_
            refine R_iload_3 hX dX12_readsSetting_126 ?_
            refine R_iload_4 hX dX12_readsSetting_127 ?_
            refine R_v2i hX dX12_readsSetting_129 li_X12_195 mk_X12_readsNumber mi_X12_readsNumber rfl o_136 (r_readsNumber h.rsA (by constructor <;> omega) (by constructor <;> omega)) ⟨⟨by decide, by decide⟩, by decide, by decide, rfl, Nat.le_of_ble_eq_true rfl, rfl⟩ (fun x_129 F_129 h_129 => ?_)
            obtain ⟨hx, hF⟩ := h_129
            subst hx
            subst hF
            refine R_iast hX dX12_readsSetting_132 a_148 ⟨by omega, by omega⟩ ?_
            exact R_vret hX dX12_readsSetting_133 (by unfold rsS loK hiK; rw [if_neg (by omega)]; first | (rw [if_pos (by omega), if_pos (by omega)]; done) | (rw [if_pos (by omega), if_neg (by omega), if_pos (by omega)]; done) | (rw [if_pos (by omega), if_neg (by omega), if_neg (by omega), if_pos (by omega)]; done) | (rw [if_pos (by omega), if_neg (by omega), if_neg (by omega), if_neg (by omega)]; done) | (rw [if_neg (by omega), if_pos (by omega)]; done) | (rw [if_neg (by omega), if_neg (by omega), if_pos (by omega)]; done) | (rw [if_neg (by omega), if_neg (by omega), if_neg (by omega), if_pos (by omega)]; done) | (rw [if_neg (by omega), if_neg (by omega), if_neg (by omega), if_neg (by omega)]; done))
        · skip
          refine R_iconst hX dX12_readsSetting_75 ?_
          refine R_goto (tgt := 80) hX dX12_readsSetting_76 (by decide) ?_
          refine R_istore_3 hX c1_i dX12_readsSetting_80 ?_
          refine R_iload_2 hX dX12_readsSetting_81 ?_
          refine R_ifne (tgt := 90) hX dX12_readsSetting_82 (by decide) (by constructor <;> first | omega | (simp (disch := omega) only [up_k, up_i, up_s]; omega)) (fun c_82 => ?_) (fun c_82 => ?_)
          · skip
            refine R_iload_2 hX dX12_readsSetting_90 ?_
            refine R_iconst hX dX12_readsSetting_91 ?_
            refine R_icmpne (tgt := 100) hX dX12_readsSetting_92 (by decide) (by constructor <;> first | omega | (simp (disch := omega) only [up_k, up_i, up_s]; omega)) (by constructor <;> first | omega | (simp (disch := omega) only [up_k, up_i, up_s]; omega)) (fun c_92 => ?_) (fun c_92 => ?_)
            · skip
              refine R_iload_2 hX dX12_readsSetting_100 ?_
              refine R_iconst hX dX12_readsSetting_101 ?_
              refine R_icmpne (tgt := 110) hX dX12_readsSetting_102 (by decide) (by constructor <;> first | omega | (simp (disch := omega) only [up_k, up_i, up_s]; omega)) (by constructor <;> first | omega | (simp (disch := omega) only [up_k, up_i, up_s]; omega)) (fun c_102 => ?_) (fun c_102 => ?_)
              · skip
                refine R_sipush hX dX12_readsSetting_110 (by decide) ?_
                refine R_istore_4 hX c1_i dX12_readsSetting_113 ?_
                refine R_aload_0 hX dX12_readsSetting_115 ?_
                refine R_getq (v := 148) hX dX12_readsSetting_116 fl_X12_55 o_136 rfl (by omega) ?_
                refine R_bipush hX dX12_readsSetting_119 (by decide) ?_
                refine R_iload_1 hX dX12_readsSetting_121 ?_
                refine R_imul hX dX12_readsSetting_122 ?_
                refine R_iload_2 hX dX12_readsSetting_123 ?_
                refine R_iadd hX dX12_readsSetting_124 ?_
                refine R_aload_0 hX dX12_readsSetting_125 ?_
                refine R_iload_3 hX dX12_readsSetting_126 ?_
                refine R_iload_4 hX dX12_readsSetting_127 ?_
                refine R_v2i hX dX12_readsSetting_129 li_X12_195 mk_X12_readsNumber mi_X12_readsNumber rfl o_136 (r_readsNumber h.rsA (by constructor <;> omega) (by constructor <;> omega)) ⟨⟨by decide, by decide⟩, by decide, by decide, rfl, Nat.le_of_ble_eq_true rfl, rfl⟩ (fun x_129 F_129 h_129 => ?_)
                obtain ⟨hx, hF⟩ := h_129
                subst hx
                subst hF
                refine R_iast hX dX12_readsSetting_132 a_148 ⟨by omega, by omega⟩ ?_
                exact R_vret hX dX12_readsSetting_133 (by unfold rsS loK hiK; rw [if_neg (by omega)]; first | (rw [if_pos (by omega), if_pos (by omega)]; done) | (rw [if_pos (by omega), if_neg (by omega), if_pos (by omega)]; done) | (rw [if_pos (by omega), if_neg (by omega), if_neg (by omega), if_pos (by omega)]; done) | (rw [if_pos (by omega), if_neg (by omega), if_neg (by omega), if_neg (by omega)]; done) | (rw [if_neg (by omega), if_pos (by omega)]; done) | (rw [if_neg (by omega), if_neg (by omega), if_pos (by omega)]; done) | (rw [if_neg (by omega), if_neg (by omega), if_neg (by omega), if_pos (by omega)]; done) | (rw [if_neg (by omega), if_neg (by omega), if_neg (by omega), if_neg (by omega)]; done))
              · skip
                refine R_bipush hX dX12_readsSetting_105 (by decide) ?_
                refine R_goto (tgt := 113) hX dX12_readsSetting_107 (by decide) ?_
                refine R_istore_4 hX c1_i dX12_readsSetting_113 ?_
                refine R_aload_0 hX dX12_readsSetting_115 ?_
                refine R_getq (v := 148) hX dX12_readsSetting_116 fl_X12_55 o_136 rfl (by omega) ?_
                refine R_bipush hX dX12_readsSetting_119 (by decide) ?_
                refine R_iload_1 hX dX12_readsSetting_121 ?_
                refine R_imul hX dX12_readsSetting_122 ?_
                refine R_iload_2 hX dX12_readsSetting_123 ?_
                refine R_iadd hX dX12_readsSetting_124 ?_
                refine R_aload_0 hX dX12_readsSetting_125 ?_
                refine R_iload_3 hX dX12_readsSetting_126 ?_
                refine R_iload_4 hX dX12_readsSetting_127 ?_
                refine R_v2i hX dX12_readsSetting_129 li_X12_195 mk_X12_readsNumber mi_X12_readsNumber rfl o_136 (r_readsNumber h.rsA (by constructor <;> omega) (by constructor <;> omega)) ⟨⟨by decide, by decide⟩, by decide, by decide, rfl, Nat.le_of_ble_eq_true rfl, rfl⟩ (fun x_129 F_129 h_129 => ?_)
                obtain ⟨hx, hF⟩ := h_129
                subst hx
                subst hF
                refine R_iast hX dX12_readsSetting_132 a_148 ⟨by omega, by omega⟩ ?_
                exact R_vret hX dX12_readsSetting_133 (by unfold rsS loK hiK; rw [if_neg (by omega)]; first | (rw [if_pos (by omega), if_pos (by omega)]; done) | (rw [if_pos (by omega), if_neg (by omega), if_pos (by omega)]; done) | (rw [if_pos (by omega), if_neg (by omega), if_neg (by omega), if_pos (by omega)]; done) | (rw [if_pos (by omega), if_neg (by omega), if_neg (by omega), if_neg (by omega)]; done) | (rw [if_neg (by omega), if_pos (by omega)]; done) | (rw [if_neg (by omega), if_neg (by omega), if_pos (by omega)]; done) | (rw [if_neg (by omega), if_neg (by omega), if_neg (by omega), if_pos (by omega)]; done) | (rw [if_neg (by omega), if_neg (by omega), if_neg (by omega), if_neg (by omega)]; done))
            · skip
              refine R_bipush hX dX12_readsSetting_95 (by decide) ?_
              refine R_goto (tgt := 113) hX dX12_readsSetting_97 (by decide) ?_
              refine R_istore_4 hX c1_i dX12_readsSetting_113 ?_
              refine R_aload_0 hX dX12_readsSetting_115 ?_
              refine R_getq (v := 148) hX dX12_readsSetting_116 fl_X12_55 o_136 rfl (by omega) ?_
              refine R_bipush hX dX12_readsSetting_119 (by decide) ?_
              refine R_iload_1 hX dX12_readsSetting_121 ?_
              refine R_imul hX dX12_readsSetting_122 ?_
              refine R_iload_2 hX dX12_readsSetting_123 ?_
              refine R_iadd hX dX12_readsSetting_124 ?_
              refine R_aload_0 hX dX12_readsSetting_125 ?_
              refine R_iload_3 hX dX12_readsSetting_126 ?_
              refine R_iload_4 hX dX12_readsSetting_127 ?_
              refine R_v2i hX dX12_readsSetting_129 li_X12_195 mk_X12_readsNumber mi_X12_readsNumber rfl o_136 (r_readsNumber h.rsA (by constructor <;> omega) (by constructor <;> omega)) ⟨⟨by decide, by decide⟩, by decide, by decide, rfl, Nat.le_of_ble_eq_true rfl, rfl⟩ (fun x_129 F_129 h_129 => ?_)
              obtain ⟨hx, hF⟩ := h_129
              subst hx
              subst hF
              refine R_iast hX dX12_readsSetting_132 a_148 ⟨by omega, by omega⟩ ?_
              exact R_vret hX dX12_readsSetting_133 (by unfold rsS loK hiK; rw [if_neg (by omega)]; first | (rw [if_pos (by omega), if_pos (by omega)]; done) | (rw [if_pos (by omega), if_neg (by omega), if_pos (by omega)]; done) | (rw [if_pos (by omega), if_neg (by omega), if_neg (by omega), if_pos (by omega)]; done) | (rw [if_pos (by omega), if_neg (by omega), if_neg (by omega), if_neg (by omega)]; done) | (rw [if_neg (by omega), if_pos (by omega)]; done) | (rw [if_neg (by omega), if_neg (by omega), if_pos (by omega)]; done) | (rw [if_neg (by omega), if_neg (by omega), if_neg (by omega), if_pos (by omega)]; done) | (rw [if_neg (by omega), if_neg (by omega), if_neg (by omega), if_neg (by omega)]; done))
          · skip
            refine R_bipush hX dX12_readsSetting_85 (by decide) ?_
            refine R_goto (tgt := 113) hX dX12_readsSetting_87 (by decide) ?_
            refine R_istore_4 hX c1_i dX12_readsSetting_113 ?_
            refine R_aload_0 hX dX12_readsSetting_115 ?_
            refine R_getq (v := 148) hX dX12_readsSetting_116 fl_X12_55 o_136 rfl (by omega) ?_
            refine R_bipush hX dX12_readsSetting_119 (by decide) ?_
            refine R_iload_1 hX dX12_readsSetting_121 ?_
            refine R_imul hX dX12_readsSetting_122 ?_
            refine R_iload_2 hX dX12_readsSetting_123 ?_
            refine R_iadd hX dX12_readsSetting_124 ?_
            refine R_aload_0 hX dX12_readsSetting_125 ?_
            refine R_iload_3 hX dX12_readsSetting_126 ?_
            refine R_iload_4 hX dX12_readsSetting_127 ?_
            refine R_v2i hX dX12_readsSetting_129 li_X12_195 mk_X12_readsNumber mi_X12_readsNumber rfl o_136 (r_readsNumber h.rsA (by constructor <;> omega) (by constructor <;> omega)) ⟨⟨by decide, by decide⟩, by decide, by decide, rfl, Nat.le_of_ble_eq_true rfl, rfl⟩ (fun x_129 F_129 h_129 => ?_)
            obtain ⟨hx, hF⟩ := h_129
            subst hx
            subst hF
            refine R_iast hX dX12_readsSetting_132 a_148 ⟨by omega, by omega⟩ ?_
            exact R_vret hX dX12_readsSetting_133 (by unfold rsS loK hiK; rw [if_neg (by omega)]; first | (rw [if_pos (by omega), if_pos (by omega)]; done) | (rw [if_pos (by omega), if_neg (by omega), if_pos (by omega)]; done) | (rw [if_pos (by omega), if_neg (by omega), if_neg (by omega), if_pos (by omega)]; done) | (rw [if_pos (by omega), if_neg (by omega), if_neg (by omega), if_neg (by omega)]; done) | (rw [if_neg (by omega), if_pos (by omega)]; done) | (rw [if_neg (by omega), if_neg (by omega), if_pos (by omega)]; done) | (rw [if_neg (by omega), if_neg (by omega), if_neg (by omega), if_pos (by omega)]; done) | (rw [if_neg (by omega), if_neg (by omega), if_neg (by omega), if_neg (by omega)]; done))
    · skip
      refine R_aload_0 hX dX12_readsSetting_51 ?_
      refine R_getq (v := 148) hX dX12_readsSetting_52 fl_X12_55 o_136 rfl (by omega) ?_
      refine R_bipush hX dX12_readsSetting_55 (by decide) ?_
      refine R_iload_1 hX dX12_readsSetting_57 ?_
      refine R_imul hX dX12_readsSetting_58 ?_
      refine R_bipush hX dX12_readsSetting_59 (by decide) ?_
      refine R_iadd hX dX12_readsSetting_61 ?_
      refine R_iconst hX dX12_readsSetting_62 ?_
      refine R_iast hX dX12_readsSetting_63 a_148 ⟨by omega, by omega⟩ ?_
      exact R_vret hX dX12_readsSetting_64 (by unfold rsS; rw [if_pos (by omega)])
  · skip
    refine R_iconst hX dX12_readsSetting_20 ?_
    refine R_goto (tgt := 25) hX dX12_readsSetting_21 (by decide) ?_
    refine R_iconst hX dX12_readsSetting_25 ?_
    refine R_v2v hX dX12_readsSetting_26 li_X12_175 mk_X12_must mi_X12_must rfl o_136 (r_must (by constructor <;> omega) (by constructor <;> omega) (by omega)) ⟨⟨by decide, by decide⟩, by decide, by decide, rfl, Nat.le_of_ble_eq_true rfl, rfl⟩ (fun x_26 F_26 h_26 => ?_)
    subst h_26
    refine R.eq rfl rfl (show _ = mu (F 149 (7 * d + stH F) = 0) 4 F from mu_iff (by omega)) ?_
    refine R_aload_0 hX dX12_readsSetting_29 ?_
    refine R_getq (v := 149) hX dX12_readsSetting_30 fl_X12_58 o_136 rfl (by omega) ?_
    refine R_bipush hX dX12_readsSetting_33 (by decide) ?_
    refine R_iload_1 hX dX12_readsSetting_35 ?_
    refine R_imul hX dX12_readsSetting_36 ?_
    refine R_iload_2 hX dX12_readsSetting_37 ?_
    refine R_iadd hX dX12_readsSetting_38 ?_
    refine R_iconst hX dX12_readsSetting_39 ?_
    refine R_zast hX dX12_readsSetting_40 a_149 ⟨by omega, by omega⟩ (Or.inr rfl) ?_
    have hM : PQ (up (mu (F 149 (7 * d + stH F) = 0) 4 F) 149 (7 * d + stH F) 1) := (h.mu (by omega)).u9 (Or.inr rfl)
    refine R_aload_0 hX dX12_readsSetting_41 ?_
    refine R_v0v hX dX12_readsSetting_42 li_X12_179 mk_X12_scans mi_X12_scans rfl o_136 (r_scans hM.1 (by have z := hM.2.1; constructor <;> omega)) ⟨⟨by decide, by decide⟩, by decide, by decide, rfl, Nat.le_of_ble_eq_true rfl, rfl⟩ (fun x_42 F_42 h_42 => ?_)
    subst h_42
    refine R.eq rfl rfl (show _ = rsA d F from rfl) ?_
    refine R_iload_2 hX dX12_readsSetting_45 ?_
    refine R_bipush hX dX12_readsSetting_46 (by decide) ?_
    refine R_icmpne (tgt := 65) hX dX12_readsSetting_48 (by decide) (by constructor <;> first | omega | (simp (disch := omega) only [up_k, up_i, up_s]; omega)) (by constructor <;> first | omega | (simp (disch := omega) only [up_k, up_i, up_s]; omega)) (fun c_48 => ?_) (fun c_48 => ?_)
    · skip
      refine R_iload_2 hX dX12_readsSetting_65 ?_
      refine R_iconst hX dX12_readsSetting_66 ?_
      refine R_icmpeq (tgt := 75) hX dX12_readsSetting_67 (by decide) (by constructor <;> first | omega | (simp (disch := omega) only [up_k, up_i, up_s]; omega)) (by constructor <;> first | omega | (simp (disch := omega) only [up_k, up_i, up_s]; omega)) (fun c_67 => ?_) (fun c_67 => ?_)
      · skip
        refine R_iconst hX dX12_readsSetting_75 ?_
        refine R_goto (tgt := 80) hX dX12_readsSetting_76 (by decide) ?_
        refine R_istore_3 hX c1_i dX12_readsSetting_80 ?_
        refine R_iload_2 hX dX12_readsSetting_81 ?_
        refine R_ifne (tgt := 90) hX dX12_readsSetting_82 (by decide) (by constructor <;> first | omega | (simp (disch := omega) only [up_k, up_i, up_s]; omega)) (fun c_82 => ?_) (fun c_82 => ?_)
        · skip
          refine R_iload_2 hX dX12_readsSetting_90 ?_
          refine R_iconst hX dX12_readsSetting_91 ?_
          refine R_icmpne (tgt := 100) hX dX12_readsSetting_92 (by decide) (by constructor <;> first | omega | (simp (disch := omega) only [up_k, up_i, up_s]; omega)) (by constructor <;> first | omega | (simp (disch := omega) only [up_k, up_i, up_s]; omega)) (fun c_92 => ?_) (fun c_92 => ?_)
          · skip
            refine R_iload_2 hX dX12_readsSetting_100 ?_
            refine R_iconst hX dX12_readsSetting_101 ?_
            refine R_icmpne (tgt := 110) hX dX12_readsSetting_102 (by decide) (by constructor <;> first | omega | (simp (disch := omega) only [up_k, up_i, up_s]; omega)) (by constructor <;> first | omega | (simp (disch := omega) only [up_k, up_i, up_s]; omega)) (fun c_102 => ?_) (fun c_102 => ?_)
            · skip
              refine R_sipush hX dX12_readsSetting_110 (by decide) ?_
              refine R_istore_4 hX c1_i dX12_readsSetting_113 ?_
              refine R_aload_0 hX dX12_readsSetting_115 ?_
              refine R_getq (v := 148) hX dX12_readsSetting_116 fl_X12_55 o_136 rfl (by omega) ?_
              refine R_bipush hX dX12_readsSetting_119 (by decide) ?_
              refine R_iload_1 hX dX12_readsSetting_121 ?_
              refine R_imul hX dX12_readsSetting_122 ?_
              refine R_iload_2 hX dX12_readsSetting_123 ?_
              refine R_iadd hX dX12_readsSetting_124 ?_
              refine R_aload_0 hX dX12_readsSetting_125 ?_
              refine R_iload_3 hX dX12_readsSetting_126 ?_
              refine R_iload_4 hX dX12_readsSetting_127 ?_
              refine R_v2i hX dX12_readsSetting_129 li_X12_195 mk_X12_readsNumber mi_X12_readsNumber rfl o_136 (r_readsNumber h.rsA (by constructor <;> omega) (by constructor <;> omega)) ⟨⟨by decide, by decide⟩, by decide, by decide, rfl, Nat.le_of_ble_eq_true rfl, rfl⟩ (fun x_129 F_129 h_129 => ?_)
              obtain ⟨hx, hF⟩ := h_129
              subst hx
              subst hF
              refine R_iast hX dX12_readsSetting_132 a_148 ⟨by omega, by omega⟩ ?_
              exact R_vret hX dX12_readsSetting_133 (by unfold rsS loK hiK; rw [if_neg (by omega)]; first | (rw [if_pos (by omega), if_pos (by omega)]; done) | (rw [if_pos (by omega), if_neg (by omega), if_pos (by omega)]; done) | (rw [if_pos (by omega), if_neg (by omega), if_neg (by omega), if_pos (by omega)]; done) | (rw [if_pos (by omega), if_neg (by omega), if_neg (by omega), if_neg (by omega)]; done) | (rw [if_neg (by omega), if_pos (by omega)]; done) | (rw [if_neg (by omega), if_neg (by omega), if_pos (by omega)]; done) | (rw [if_neg (by omega), if_neg (by omega), if_neg (by omega), if_pos (by omega)]; done) | (rw [if_neg (by omega), if_neg (by omega), if_neg (by omega), if_neg (by omega)]; done))
            · skip
              refine R_bipush hX dX12_readsSetting_105 (by decide) ?_
              refine R_goto (tgt := 113) hX dX12_readsSetting_107 (by decide) ?_
              refine R_istore_4 hX c1_i dX12_readsSetting_113 ?_
              refine R_aload_0 hX dX12_readsSetting_115 ?_
              refine R_getq (v := 148) hX dX12_readsSetting_116 fl_X12_55 o_136 rfl (by omega) ?_
              refine R_bipush hX dX12_readsSetting_119 (by decide) ?_
              refine R_iload_1 hX dX12_readsSetting_121 ?_
              refine R_imul hX dX12_readsSetting_122 ?_
              refine R_iload_2 hX dX12_readsSetting_123 ?_
              refine R_iadd hX dX12_readsSetting_124 ?_
              refine R_aload_0 hX dX12_readsSetting_125 ?_
              refine R_iload_3 hX dX12_readsSetting_126 ?_
              refine R_iload_4 hX dX12_readsSetting_127 ?_
              refine R_v2i hX dX12_readsSetting_129 li_X12_195 mk_X12_readsNumber mi_X12_readsNumber rfl o_136 (r_readsNumber h.rsA (by constructor <;> omega) (by constructor <;> omega)) ⟨⟨by decide, by decide⟩, by decide, by decide, rfl, Nat.le_of_ble_eq_true rfl, rfl⟩ (fun x_129 F_129 h_129 => ?_)
              obtain ⟨hx, hF⟩ := h_129
              subst hx
              subst hF
              refine R_iast hX dX12_readsSetting_132 a_148 ⟨by omega, by omega⟩ ?_
              exact R_vret hX dX12_readsSetting_133 (by unfold rsS loK hiK; rw [if_neg (by omega)]; first | (rw [if_pos (by omega), if_pos (by omega)]; done) | (rw [if_pos (by omega), if_neg (by omega), if_pos (by omega)]; done) | (rw [if_pos (by omega), if_neg (by omega), if_neg (by omega), if_pos (by omega)]; done) | (rw [if_pos (by omega), if_neg (by omega), if_neg (by omega), if_neg (by omega)]; done) | (rw [if_neg (by omega), if_pos (by omega)]; done) | (rw [if_neg (by omega), if_neg (by omega), if_pos (by omega)]; done) | (rw [if_neg (by omega), if_neg (by omega), if_neg (by omega), if_pos (by omega)]; done) | (rw [if_neg (by omega), if_neg (by omega), if_neg (by omega), if_neg (by omega)]; done))
          · skip
            refine R_bipush hX dX12_readsSetting_95 (by decide) ?_
            refine R_goto (tgt := 113) hX dX12_readsSetting_97 (by decide) ?_
            refine R_istore_4 hX c1_i dX12_readsSetting_113 ?_
            refine R_aload_0 hX dX12_readsSetting_115 ?_
            refine R_getq (v := 148) hX dX12_readsSetting_116 fl_X12_55 o_136 rfl (by omega) ?_
            refine R_bipush hX dX12_readsSetting_119 (by decide) ?_
            refine R_iload_1 hX dX12_readsSetting_121 ?_
            refine R_imul hX dX12_readsSetting_122 ?_
            refine R_iload_2 hX dX12_readsSetting_123 ?_
            refine R_iadd hX dX12_readsSetting_124 ?_
            refine R_aload_0 hX dX12_readsSetting_125 ?_
            refine R_iload_3 hX dX12_readsSetting_126 ?_
            refine R_iload_4 hX dX12_readsSetting_127 ?_
            refine R_v2i hX dX12_readsSetting_129 li_X12_195 mk_X12_readsNumber mi_X12_readsNumber rfl o_136 (r_readsNumber h.rsA (by constructor <;> omega) (by constructor <;> omega)) ⟨⟨by decide, by decide⟩, by decide, by decide, rfl, Nat.le_of_ble_eq_true rfl, rfl⟩ (fun x_129 F_129 h_129 => ?_)
            obtain ⟨hx, hF⟩ := h_129
            subst hx
            subst hF
            refine R_iast hX dX12_readsSetting_132 a_148 ⟨by omega, by omega⟩ ?_
            exact R_vret hX dX12_readsSetting_133 (by unfold rsS loK hiK; rw [if_neg (by omega)]; first | (rw [if_pos (by omega), if_pos (by omega)]; done) | (rw [if_pos (by omega), if_neg (by omega), if_pos (by omega)]; done) | (rw [if_pos (by omega), if_neg (by omega), if_neg (by omega), if_pos (by omega)]; done) | (rw [if_pos (by omega), if_neg (by omega), if_neg (by omega), if_neg (by omega)]; done) | (rw [if_neg (by omega), if_pos (by omega)]; done) | (rw [if_neg (by omega), if_neg (by omega), if_pos (by omega)]; done) | (rw [if_neg (by omega), if_neg (by omega), if_neg (by omega), if_pos (by omega)]; done) | (rw [if_neg (by omega), if_neg (by omega), if_neg (by omega), if_neg (by omega)]; done))
        · skip
          refine R_bipush hX dX12_readsSetting_85 (by decide) ?_
          refine R_goto (tgt := 113) hX dX12_readsSetting_87 (by decide) ?_
          refine R_istore_4 hX c1_i dX12_readsSetting_113 ?_
          refine R_aload_0 hX dX12_readsSetting_115 ?_
          refine R_getq (v := 148) hX dX12_readsSetting_116 fl_X12_55 o_136 rfl (by omega) ?_
          refine R_bipush hX dX12_readsSetting_119 (by decide) ?_
          refine R_iload_1 hX dX12_readsSetting_121 ?_
          refine R_imul hX dX12_readsSetting_122 ?_
          refine R_iload_2 hX dX12_readsSetting_123 ?_
          refine R_iadd hX dX12_readsSetting_124 ?_
          refine R_aload_0 hX dX12_readsSetting_125 ?_
          refine R_iload_3 hX dX12_readsSetting_126 ?_
          refine R_iload_4 hX dX12_readsSetting_127 ?_
          refine R_v2i hX dX12_readsSetting_129 li_X12_195 mk_X12_readsNumber mi_X12_readsNumber rfl o_136 (r_readsNumber h.rsA (by constructor <;> omega) (by constructor <;> omega)) ⟨⟨by decide, by decide⟩, by decide, by decide, rfl, Nat.le_of_ble_eq_true rfl, rfl⟩ (fun x_129 F_129 h_129 => ?_)
          obtain ⟨hx, hF⟩ := h_129
          subst hx
          subst hF
          refine R_iast hX dX12_readsSetting_132 a_148 ⟨by omega, by omega⟩ ?_
          exact R_vret hX dX12_readsSetting_133 (by unfold rsS loK hiK; rw [if_neg (by omega)]; first | (rw [if_pos (by omega), if_pos (by omega)]; done) | (rw [if_pos (by omega), if_neg (by omega), if_pos (by omega)]; done) | (rw [if_pos (by omega), if_neg (by omega), if_neg (by omega), if_pos (by omega)]; done) | (rw [if_pos (by omega), if_neg (by omega), if_neg (by omega), if_neg (by omega)]; done) | (rw [if_neg (by omega), if_pos (by omega)]; done) | (rw [if_neg (by omega), if_neg (by omega), if_pos (by omega)]; done) | (rw [if_neg (by omega), if_neg (by omega), if_neg (by omega), if_pos (by omega)]; done) | (rw [if_neg (by omega), if_neg (by omega), if_neg (by omega), if_neg (by omega)]; done))
      · skip
        refine R_iload_2 hX dX12_readsSetting_70 ?_
        refine R_iconst hX dX12_readsSetting_71 ?_
        refine R_icmpne (tgt := 79) hX dX12_readsSetting_72 (by decide) (by constructor <;> first | omega | (simp (disch := omega) only [up_k, up_i, up_s]; omega)) (by constructor <;> first | omega | (simp (disch := omega) only [up_k, up_i, up_s]; omega)) (fun c_72 => ?_) (fun c_72 => ?_)
        · skip
          refine R_iconst hX dX12_readsSetting_79 ?_
          refine R_istore_3 hX c1_i dX12_readsSetting_80 ?_
          refine R_iload_2 hX dX12_readsSetting_81 ?_
          refine R_ifne (tgt := 90) hX dX12_readsSetting_82 (by decide) (by constructor <;> first | omega | (simp (disch := omega) only [up_k, up_i, up_s]; omega)) (fun c_82 => ?_) (fun c_82 => ?_)
          · skip
            refine R_iload_2 hX dX12_readsSetting_90 ?_
            refine R_iconst hX dX12_readsSetting_91 ?_
            refine R_icmpne (tgt := 100) hX dX12_readsSetting_92 (by decide) (by constructor <;> first | omega | (simp (disch := omega) only [up_k, up_i, up_s]; omega)) (by constructor <;> first | omega | (simp (disch := omega) only [up_k, up_i, up_s]; omega)) (fun c_92 => ?_) (fun c_92 => ?_)
            · skip
              refine R_iload_2 hX dX12_readsSetting_100 ?_
              refine R_iconst hX dX12_readsSetting_101 ?_
              refine R_icmpne (tgt := 110) hX dX12_readsSetting_102 (by decide) (by constructor <;> first | omega | (simp (disch := omega) only [up_k, up_i, up_s]; omega)) (by constructor <;> first | omega | (simp (disch := omega) only [up_k, up_i, up_s]; omega)) (fun c_102 => ?_) (fun c_102 => ?_)
              · skip
                refine R_sipush hX dX12_readsSetting_110 (by decide) ?_
                refine R_istore_4 hX c1_i dX12_readsSetting_113 ?_
                refine R_aload_0 hX dX12_readsSetting_115 ?_
                refine R_getq (v := 148) hX dX12_readsSetting_116 fl_X12_55 o_136 rfl (by omega) ?_
                refine R_bipush hX dX12_readsSetting_119 (by decide) ?_
                refine R_iload_1 hX dX12_readsSetting_121 ?_
                refine R_imul hX dX12_readsSetting_122 ?_
                refine R_iload_2 hX dX12_readsSetting_123 ?_
                refine R_iadd hX dX12_readsSetting_124 ?_
                refine R_aload_0 hX dX12_readsSetting_125 ?_
                refine R_iload_3 hX dX12_readsSetting_126 ?_
                refine R_iload_4 hX dX12_readsSetting_127 ?_
                refine R_v2i hX dX12_readsSetting_129 li_X12_195 mk_X12_readsNumber mi_X12_readsNumber rfl o_136 (r_readsNumber h.rsA (by constructor <;> omega) (by constructor <;> omega)) ⟨⟨by decide, by decide⟩, by decide, by decide, rfl, Nat.le_of_ble_eq_true rfl, rfl⟩ (fun x_129 F_129 h_129 => ?_)
                obtain ⟨hx, hF⟩ := h_129
                subst hx
                subst hF
                refine R_iast hX dX12_readsSetting_132 a_148 ⟨by omega, by omega⟩ ?_
                exact R_vret hX dX12_readsSetting_133 (by unfold rsS loK hiK; rw [if_neg (by omega)]; first | (rw [if_pos (by omega), if_pos (by omega)]; done) | (rw [if_pos (by omega), if_neg (by omega), if_pos (by omega)]; done) | (rw [if_pos (by omega), if_neg (by omega), if_neg (by omega), if_pos (by omega)]; done) | (rw [if_pos (by omega), if_neg (by omega), if_neg (by omega), if_neg (by omega)]; done) | (rw [if_neg (by omega), if_pos (by omega)]; done) | (rw [if_neg (by omega), if_neg (by omega), if_pos (by omega)]; done) | (rw [if_neg (by omega), if_neg (by omega), if_neg (by omega), if_pos (by omega)]; done) | (rw [if_neg (by omega), if_neg (by omega), if_neg (by omega), if_neg (by omega)]; done))
              · skip
                refine R_bipush hX dX12_readsSetting_105 (by decide) ?_
                refine R_goto (tgt := 113) hX dX12_readsSetting_107 (by decide) ?_
                refine R_istore_4 hX c1_i dX12_readsSetting_113 ?_
                refine R_aload_0 hX dX12_readsSetting_115 ?_
                refine R_getq (v := 148) hX dX12_readsSetting_116 fl_X12_55 o_136 rfl (by omega) ?_
                refine R_bipush hX dX12_readsSetting_119 (by decide) ?_
                refine R_iload_1 hX dX12_readsSetting_121 ?_
                refine R_imul hX dX12_readsSetting_122 ?_
                refine R_iload_2 hX dX12_readsSetting_123 ?_
                refine R_iadd hX dX12_readsSetting_124 ?_
                refine R_aload_0 hX dX12_readsSetting_125 ?_
                refine R_iload_3 hX dX12_readsSetting_126 ?_
                refine R_iload_4 hX dX12_readsSetting_127 ?_
                refine R_v2i hX dX12_readsSetting_129 li_X12_195 mk_X12_readsNumber mi_X12_readsNumber rfl o_136 (r_readsNumber h.rsA (by constructor <;> omega) (by constructor <;> omega)) ⟨⟨by decide, by decide⟩, by decide, by decide, rfl, Nat.le_of_ble_eq_true rfl, rfl⟩ (fun x_129 F_129 h_129 => ?_)
                obtain ⟨hx, hF⟩ := h_129
                subst hx
                subst hF
                refine R_iast hX dX12_readsSetting_132 a_148 ⟨by omega, by omega⟩ ?_
                exact R_vret hX dX12_readsSetting_133 (by unfold rsS loK hiK; rw [if_neg (by omega)]; first | (rw [if_pos (by omega), if_pos (by omega)]; done) | (rw [if_pos (by omega), if_neg (by omega), if_pos (by omega)]; done) | (rw [if_pos (by omega), if_neg (by omega), if_neg (by omega), if_pos (by omega)]; done) | (rw [if_pos (by omega), if_neg (by omega), if_neg (by omega), if_neg (by omega)]; done) | (rw [if_neg (by omega), if_pos (by omega)]; done) | (rw [if_neg (by omega), if_neg (by omega), if_pos (by omega)]; done) | (rw [if_neg (by omega), if_neg (by omega), if_neg (by omega), if_pos (by omega)]; done) | (rw [if_neg (by omega), if_neg (by omega), if_neg (by omega), if_neg (by omega)]; done))
            · skip
              refine R_bipush hX dX12_readsSetting_95 (by decide) ?_
              refine R_goto (tgt := 113) hX dX12_readsSetting_97 (by decide) ?_
              refine R_istore_4 hX c1_i dX12_readsSetting_113 ?_
              refine R_aload_0 hX dX12_readsSetting_115 ?_
              refine R_getq (v := 148) hX dX12_readsSetting_116 fl_X12_55 o_136 rfl (by omega) ?_
              refine R_bipush hX dX12_readsSetting_119 (by decide) ?_
              refine R_iload_1 hX dX12_readsSetting_121 ?_
              refine R_imul hX dX12_readsSetting_122 ?_
              refine R_iload_2 hX dX12_readsSetting_123 ?_
              refine R_iadd hX dX12_readsSetting_124 ?_
              refine R_aload_0 hX dX12_readsSetting_125 ?_
              refine R_iload_3 hX dX12_readsSetting_126 ?_
              refine R_iload_4 hX dX12_readsSetting_127 ?_
              refine R_v2i hX dX12_readsSetting_129 li_X12_195 mk_X12_readsNumber mi_X12_readsNumber rfl o_136 (r_readsNumber h.rsA (by constructor <;> omega) (by constructor <;> omega)) ⟨⟨by decide, by decide⟩, by decide, by decide, rfl, Nat.le_of_ble_eq_true rfl, rfl⟩ (fun x_129 F_129 h_129 => ?_)
              obtain ⟨hx, hF⟩ := h_129
              subst hx
              subst hF
              refine R_iast hX dX12_readsSetting_132 a_148 ⟨by omega, by omega⟩ ?_
              exact R_vret hX dX12_readsSetting_133 (by unfold rsS loK hiK; rw [if_neg (by omega)]; first | (rw [if_pos (by omega), if_pos (by omega)]; done) | (rw [if_pos (by omega), if_neg (by omega), if_pos (by omega)]; done) | (rw [if_pos (by omega), if_neg (by omega), if_neg (by omega), if_pos (by omega)]; done) | (rw [if_pos (by omega), if_neg (by omega), if_neg (by omega), if_neg (by omega)]; done) | (rw [if_neg (by omega), if_pos (by omega)]; done) | (rw [if_neg (by omega), if_neg (by omega), if_pos (by omega)]; done) | (rw [if_neg (by omega), if_neg (by omega), if_neg (by omega), if_pos (by omega)]; done) | (rw [if_neg (by omega), if_neg (by omega), if_neg (by omega), if_neg (by omega)]; done))
          · skip
            refine R_bipush hX dX12_readsSetting_85 (by decide) ?_
            refine R_goto (tgt := 113) hX dX12_readsSetting_87 (by decide) ?_
            refine R_istore_4 hX c1_i dX12_readsSetting_113 ?_
            refine R_aload_0 hX dX12_readsSetting_115 ?_
            refine R_getq (v := 148) hX dX12_readsSetting_116 fl_X12_55 o_136 rfl (by omega) ?_
            refine R_bipush hX dX12_readsSetting_119 (by decide) ?_
            refine R_iload_1 hX dX12_readsSetting_121 ?_
            refine R_imul hX dX12_readsSetting_122 ?_
            refine R_iload_2 hX dX12_readsSetting_123 ?_
            refine R_iadd hX dX12_readsSetting_124 ?_
            refine R_aload_0 hX dX12_readsSetting_125 ?_
            refine R_iload_3 hX dX12_readsSetting_126 ?_
            refine R_iload_4 hX dX12_readsSetting_127 ?_
            refine R_v2i hX dX12_readsSetting_129 li_X12_195 mk_X12_readsNumber mi_X12_readsNumber rfl o_136 (r_readsNumber h.rsA (by constructor <;> omega) (by constructor <;> omega)) ⟨⟨by decide, by decide⟩, by decide, by decide, rfl, Nat.le_of_ble_eq_true rfl, rfl⟩ (fun x_129 F_129 h_129 => ?_)
            obtain ⟨hx, hF⟩ := h_129
            subst hx
            subst hF
            refine R_iast hX dX12_readsSetting_132 a_148 ⟨by omega, by omega⟩ ?_
            exact R_vret hX dX12_readsSetting_133 (by unfold rsS loK hiK; rw [if_neg (by omega)]; first | (rw [if_pos (by omega), if_pos (by omega)]; done) | (rw [if_pos (by omega), if_neg (by omega), if_pos (by omega)]; done) | (rw [if_pos (by omega), if_neg (by omega), if_neg (by omega), if_pos (by omega)]; done) | (rw [if_pos (by omega), if_neg (by omega), if_neg (by omega), if_neg (by omega)]; done) | (rw [if_neg (by omega), if_pos (by omega)]; done) | (rw [if_neg (by omega), if_neg (by omega), if_pos (by omega)]; done) | (rw [if_neg (by omega), if_neg (by omega), if_neg (by omega), if_pos (by omega)]; done) | (rw [if_neg (by omega), if_neg (by omega), if_neg (by omega), if_neg (by omega)]; done))
        · skip
          refine R_iconst hX dX12_readsSetting_75 ?_
          refine R_goto (tgt := 80) hX dX12_readsSetting_76 (by decide) ?_
          refine R_istore_3 hX c1_i dX12_readsSetting_80 ?_
          refine R_iload_2 hX dX12_readsSetting_81 ?_
          refine R_ifne (tgt := 90) hX dX12_readsSetting_82 (by decide) (by constructor <;> first | omega | (simp (disch := omega) only [up_k, up_i, up_s]; omega)) (fun c_82 => ?_) (fun c_82 => ?_)
          · skip
            refine R_iload_2 hX dX12_readsSetting_90 ?_
            refine R_iconst hX dX12_readsSetting_91 ?_
            refine R_icmpne (tgt := 100) hX dX12_readsSetting_92 (by decide) (by constructor <;> first | omega | (simp (disch := omega) only [up_k, up_i, up_s]; omega)) (by constructor <;> first | omega | (simp (disch := omega) only [up_k, up_i, up_s]; omega)) (fun c_92 => ?_) (fun c_92 => ?_)
            · skip
              refine R_iload_2 hX dX12_readsSetting_100 ?_
              refine R_iconst hX dX12_readsSetting_101 ?_
              refine R_icmpne (tgt := 110) hX dX12_readsSetting_102 (by decide) (by constructor <;> first | omega | (simp (disch := omega) only [up_k, up_i, up_s]; omega)) (by constructor <;> first | omega | (simp (disch := omega) only [up_k, up_i, up_s]; omega)) (fun c_102 => ?_) (fun c_102 => ?_)
              · skip
                refine R_sipush hX dX12_readsSetting_110 (by decide) ?_
                refine R_istore_4 hX c1_i dX12_readsSetting_113 ?_
                refine R_aload_0 hX dX12_readsSetting_115 ?_
                refine R_getq (v := 148) hX dX12_readsSetting_116 fl_X12_55 o_136 rfl (by omega) ?_
                refine R_bipush hX dX12_readsSetting_119 (by decide) ?_
                refine R_iload_1 hX dX12_readsSetting_121 ?_
                refine R_imul hX dX12_readsSetting_122 ?_
                refine R_iload_2 hX dX12_readsSetting_123 ?_
                refine R_iadd hX dX12_readsSetting_124 ?_
                refine R_aload_0 hX dX12_readsSetting_125 ?_
                refine R_iload_3 hX dX12_readsSetting_126 ?_
                refine R_iload_4 hX dX12_readsSetting_127 ?_
                refine R_v2i hX dX12_readsSetting_129 li_X12_195 mk_X12_readsNumber mi_X12_readsNumber rfl o_136 (r_readsNumber h.rsA (by constructor <;> omega) (by constructor <;> omega)) ⟨⟨by decide, by decide⟩, by decide, by decide, rfl, Nat.le_of_ble_eq_true rfl, rfl⟩ (fun x_129 F_129 h_129 => ?_)
                obtain ⟨hx, hF⟩ := h_129
                subst hx
                subst hF
                refine R_iast hX dX12_readsSetting_132 a_148 ⟨by omega, by omega⟩ ?_
                exact R_vret hX dX12_readsSetting_133 (by unfold rsS loK hiK; rw [if_neg (by omega)]; first | (rw [if_pos (by omega), if_pos (by omega)]; done) | (rw [if_pos (by omega), if_neg (by omega), if_pos (by omega)]; done) | (rw [if_pos (by omega), if_neg (by omega), if_neg (by omega), if_pos (by omega)]; done) | (rw [if_pos (by omega), if_neg (by omega), if_neg (by omega), if_neg (by omega)]; done) | (rw [if_neg (by omega), if_pos (by omega)]; done) | (rw [if_neg (by omega), if_neg (by omega), if_pos (by omega)]; done) | (rw [if_neg (by omega), if_neg (by omega), if_neg (by omega), if_pos (by omega)]; done) | (rw [if_neg (by omega), if_neg (by omega), if_neg (by omega), if_neg (by omega)]; done))
              · skip
                refine R_bipush hX dX12_readsSetting_105 (by decide) ?_
                refine R_goto (tgt := 113) hX dX12_readsSetting_107 (by decide) ?_
                refine R_istore_4 hX c1_i dX12_readsSetting_113 ?_
                refine R_aload_0 hX dX12_readsSetting_115 ?_
                refine R_getq (v := 148) hX dX12_readsSetting_116 fl_X12_55 o_136 rfl (by omega) ?_
                refine R_bipush hX dX12_readsSetting_119 (by decide) ?_
                refine R_iload_1 hX dX12_readsSetting_121 ?_
                refine R_imul hX dX12_readsSetting_122 ?_
                refine R_iload_2 hX dX12_readsSetting_123 ?_
                refine R_iadd hX dX12_readsSetting_124 ?_
                refine R_aload_0 hX dX12_readsSetting_125 ?_
                refine R_iload_3 hX dX12_readsSetting_126 ?_
                refine R_iload_4 hX dX12_readsSetting_127 ?_
                refine R_v2i hX dX12_readsSetting_129 li_X12_195 mk_X12_readsNumber mi_X12_readsNumber rfl o_136 (r_readsNumber h.rsA (by constructor <;> omega) (by constructor <;> omega)) ⟨⟨by decide, by decide⟩, by decide, by decide, rfl, Nat.le_of_ble_eq_true rfl, rfl⟩ (fun x_129 F_129 h_129 => ?_)
                obtain ⟨hx, hF⟩ := h_129
                subst hx
                subst hF
                refine R_iast hX dX12_readsSetting_132 a_148 ⟨by omega, by omega⟩ ?_
                exact R_vret hX dX12_readsSetting_133 (by unfold rsS loK hiK; rw [if_neg (by omega)]; first | (rw [if_pos (by omega), if_pos (by omega)]; done) | (rw [if_pos (by omega), if_neg (by omega), if_pos (by omega)]; done) | (rw [if_pos (by omega), if_neg (by omega), if_neg (by omega), if_pos (by omega)]; done) | (rw [if_pos (by omega), if_neg (by omega), if_neg (by omega), if_neg (by omega)]; done) | (rw [if_neg (by omega), if_pos (by omega)]; done) | (rw [if_neg (by omega), if_neg (by omega), if_pos (by omega)]; done) | (rw [if_neg (by omega), if_neg (by omega), if_neg (by omega), if_pos (by omega)]; done) | (rw [if_neg (by omega), if_neg (by omega), if_neg (by omega), if_neg (by omega)]; done))
            · skip
              refine R_bipush hX dX12_readsSetting_95 (by decide) ?_
              refine R_goto (tgt := 113) hX dX12_readsSetting_97 (by decide) ?_
              refine R_istore_4 hX c1_i dX12_readsSetting_113 ?_
              refine R_aload_0 hX dX12_readsSetting_115 ?_
              refine R_getq (v := 148) hX dX12_readsSetting_116 fl_X12_55 o_136 rfl (by omega) ?_
              refine R_bipush hX dX12_readsSetting_119 (by decide) ?_
              refine R_iload_1 hX dX12_readsSetting_121 ?_
              refine R_imul hX dX12_readsSetting_122 ?_
              refine R_iload_2 hX dX12_readsSetting_123 ?_
              refine R_iadd hX dX12_readsSetting_124 ?_
              refine R_aload_0 hX dX12_readsSetting_125 ?_
              refine R_iload_3 hX dX12_readsSetting_126 ?_
              refine R_iload_4 hX dX12_readsSetting_127 ?_
              refine R_v2i hX dX12_readsSetting_129 li_X12_195 mk_X12_readsNumber mi_X12_readsNumber rfl o_136 (r_readsNumber h.rsA (by constructor <;> omega) (by constructor <;> omega)) ⟨⟨by decide, by decide⟩, by decide, by decide, rfl, Nat.le_of_ble_eq_true rfl, rfl⟩ (fun x_129 F_129 h_129 => ?_)
              obtain ⟨hx, hF⟩ := h_129
              subst hx
              subst hF
              refine R_iast hX dX12_readsSetting_132 a_148 ⟨by omega, by omega⟩ ?_
              exact R_vret hX dX12_readsSetting_133 (by unfold rsS loK hiK; rw [if_neg (by omega)]; first | (rw [if_pos (by omega), if_pos (by omega)]; done) | (rw [if_pos (by omega), if_neg (by omega), if_pos (by omega)]; done) | (rw [if_pos (by omega), if_neg (by omega), if_neg (by omega), if_pos (by omega)]; done) | (rw [if_pos (by omega), if_neg (by omega), if_neg (by omega), if_neg (by omega)]; done) | (rw [if_neg (by omega), if_pos (by omega)]; done) | (rw [if_neg (by omega), if_neg (by omega), if_pos (by omega)]; done) | (rw [if_neg (by omega), if_neg (by omega), if_neg (by omega), if_pos (by omega)]; done) | (rw [if_neg (by omega), if_neg (by omega), if_neg (by omega), if_neg (by omega)]; done))
          · skip
            refine R_bipush hX dX12_readsSetting_85 (by decide) ?_
            refine R_goto (tgt := 113) hX dX12_readsSetting_87 (by decide) ?_
            refine R_istore_4 hX c1_i dX12_readsSetting_113 ?_
            refine R_aload_0 hX dX12_readsSetting_115 ?_
            refine R_getq (v := 148) hX dX12_readsSetting_116 fl_X12_55 o_136 rfl (by omega) ?_
            refine R_bipush hX dX12_readsSetting_119 (by decide) ?_
            refine R_iload_1 hX dX12_readsSetting_121 ?_
            refine R_imul hX dX12_readsSetting_122 ?_
            refine R_iload_2 hX dX12_readsSetting_123 ?_
            refine R_iadd hX dX12_readsSetting_124 ?_
            refine R_aload_0 hX dX12_readsSetting_125 ?_
            refine R_iload_3 hX dX12_readsSetting_126 ?_
            refine R_iload_4 hX dX12_readsSetting_127 ?_
            refine R_v2i hX dX12_readsSetting_129 li_X12_195 mk_X12_readsNumber mi_X12_readsNumber rfl o_136 (r_readsNumber h.rsA (by constructor <;> omega) (by constructor <;> omega)) ⟨⟨by decide, by decide⟩, by decide, by decide, rfl, Nat.le_of_ble_eq_true rfl, rfl⟩ (fun x_129 F_129 h_129 => ?_)
            obtain ⟨hx, hF⟩ := h_129
            subst hx
            subst hF
            refine R_iast hX dX12_readsSetting_132 a_148 ⟨by omega, by omega⟩ ?_
            exact R_vret hX dX12_readsSetting_133 (by unfold rsS loK hiK; rw [if_neg (by omega)]; first | (rw [if_pos (by omega), if_pos (by omega)]; done) | (rw [if_pos (by omega), if_neg (by omega), if_pos (by omega)]; done) | (rw [if_pos (by omega), if_neg (by omega), if_neg (by omega), if_pos (by omega)]; done) | (rw [if_pos (by omega), if_neg (by omega), if_neg (by omega), if_neg (by omega)]; done) | (rw [if_neg (by omega), if_pos (by omega)]; done) | (rw [if_neg (by omega), if_neg (by omega), if_pos (by omega)]; done) | (rw [if_neg (by omega), if_neg (by omega), if_neg (by omega), if_pos (by omega)]; done) | (rw [if_neg (by omega), if_neg (by omega), if_neg (by omega), if_neg (by omega)]; done))
    · skip
      refine R_aload_0 hX dX12_readsSetting_51 ?_
      refine R_getq (v := 148) hX dX12_readsSetting_52 fl_X12_55 o_136 rfl (by omega) ?_
      refine R_bipush hX dX12_readsSetting_55 (by decide) ?_
      refine R_iload_1 hX dX12_readsSetting_57 ?_
      refine R_imul hX dX12_readsSetting_58 ?_
      refine R_bipush hX dX12_readsSetting_59 (by decide) ?_
      refine R_iadd hX dX12_readsSetting_61 ?_
      refine R_iconst hX dX12_readsSetting_62 ?_
      refine R_iast hX dX12_readsSetting_63 a_148 ⟨by omega, by omega⟩ ?_
      exact R_vret hX dX12_readsSetting_64 (by unfold rsS; rw [if_pos (by omega)])
