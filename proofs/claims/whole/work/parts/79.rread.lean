def Ny (F G : Hp) : Prop := PQ G ∧ AtQ G ∧ G 136 14 = F 136 14 ∧ (G 136 19 = 0 → F 136 19 = 0 ∧ F 136 15 ≤ G 136 15)
theorem Nx.y {F G : Hp} (h : Nx F G) : Ny F G := ⟨h.1, h.2.1, h.2.2.1, h.2.2.2.2.2⟩
theorem Ny.tr {F G H : Hp} (h : Ny F G) (h2 : Ny G H) : Ny F H := ⟨h2.1, h2.2.1, h2.2.2.1.trans h.2.2.1, fun z => by have a := h2.2.2.2 z; have b := h.2.2.2 a.1; exact ⟨b.1, by omega⟩⟩
theorem Ny.nx {F G H : Hp} (h : Ny F G) (h2 : Nx G H) : Ny F H := h.tr h2.y
theorem Ny.of {F G G' : Hp} (h : Ny F G) (h2 : PQ G') (h3 : ∀ i : Int, i = 14 ∨ i = 15 ∨ i = 16 ∨ i = 17 ∨ i = 19 → G' 136 i = G 136 i) : Ny F G' := by
  refine h.tr ⟨h2, ?_, h3 14 (by omega), fun z => by rw [h3 19 (by omega)] at z; exact ⟨z, by rw [h3 15 (by omega)]; exact Int.le_refl _⟩⟩
  unfold AtQ
  rw [h3 15 (by omega), h3 16 (by omega), h3 17 (by omega)]
  exact h.2.1
theorem PQ.u25 {F : Hp} (h : PQ F) {i x : Int} (hi : i = 25 ∨ i = 26) (hx : x = 0 ∨ x = 1) : PQ (up F 136 i x) := by
  obtain ⟨h1, h2, h3, h4, h5, h6, h7, h8, h9, h10, h11⟩ := h
  unfold PQ TxQ
  rw [up_r (a := 146) (by decide), up_r (a := 149) (by decide), up_r (a := 140) (by decide)]
  rw [up_i (show (14 : Int) ≠ i by omega), up_i (show (16 : Int) ≠ i by omega), up_i (show (17 : Int) ≠ i by omega), up_i (show (18 : Int) ≠ i by omega), up_i (show (19 : Int) ≠ i by omega), up_i (show (21 : Int) ≠ i by omega), up_i (show (22 : Int) ≠ i by omega), up_i (show (39 : Int) ≠ i by omega)]
  refine ⟨h1, h2, h3, h4, h5, h6, h7, h8, ?_, ?_, h11⟩
  · by_cases q : i = 25
    · rw [q, up_s]; exact hx
    · rw [up_i (by omega)]; exact h9
  · by_cases q : i = 26
    · rw [q, up_s]; exact hx
    · rw [up_i (by omega)]; exact h10
theorem PQ.u39 {F : Hp} (h : PQ F) {x : Int} (hx : 0 ≤ x ∧ x ≤ 12) : PQ (up F 136 39 x) := by
  obtain ⟨h1, h2, h3, h4, h5, h6, h7, h8, h9, h10, h11⟩ := h
  unfold PQ TxQ
  rw [up_r (a := 146) (by decide), up_r (a := 149) (by decide), up_r (a := 140) (by decide), up_s]
  rw [up_i (by decide), up_i (by decide), up_i (by decide), up_i (by decide), up_i (by decide), up_i (by decide), up_i (by decide), up_i (by decide), up_i (by decide)]
  exact ⟨h1, h2, h3, h4, h5, h6, hx, h8, h9, h10, h11⟩
theorem Nx.u25 {F G : Hp} (h : Nx F G) {i x : Int} (hi : i = 25 ∨ i = 26) (hx : x = 0 ∨ x = 1) : Nx F (up G 136 i x) := h.of (h.1.u25 hi hx) (fun j z => up_i (by omega))
def tmA (F : Hp) : Hp := sc (mu (F 136 39 < 12) 5 F)
def tmB (F : Hp) : Hp := rnS 1 5000 (tmA F)
def tmC (F : Hp) : Hp := mu (nmB (tmB F)) 1 (tmB F)
def tmD (F : Hp) : Hp := sc (mu (¬ hrS (tmC F) = -2) 3 (tmC F))
def tmE (F : Hp) : Hp := sc (mu (stH (tmD F) = 0 ∨ stH (tmD F) = 1 ∨ stH (tmD F) = 4) 1 (tmD F))
def tmG (F : Hp) : Hp := rnS (if stH (tmD F) = 4 then 1 else 0) (if stH (tmD F) = 0 then 99 else if stH (tmD F) = 1 then 999 else 9) (tmE F)
def tmP (F : Hp) : Hp := up (up (up (up (tmG F) 154 (tmG F 136 39) (tmA F 136 18)) 155 (tmG F 136 39) (hrS (tmC F))) 156 (tmG F 136 39) (stH (tmD F))) 157 (tmG F 136 39) (tmE F 136 18)
def tmS (F : Hp) : Hp := if tmG F 136 19 = 0 then up (tmP F) 136 39 (tmG F 136 39 + 1) else tmG F
theorem Nx.tmG {F : Hp} (h : PQ F) (h2 : AtQ F) : Nx F (tmA F) ∧ Nx F (tmB F) ∧ Nx F (tmC F) ∧ Nx F (tmD F) ∧ Nx F (tmE F) ∧ Nx F (tmG F) := by
  have a : Nx F (tmA F) := ((Nx.rf h h2).mu (by omega)).sc
  have b : Nx F (tmB F) := a.rn
  have c : Nx F (tmC F) := b.mu (by omega)
  have d : Nx F (tmD F) := (c.mu (by omega)).sc
  have e : Nx F (tmE F) := (d.mu (by omega)).sc
  exact ⟨a, b, c, d, e, e.rn⟩
theorem tm_39 {F : Hp} (h : PQ F) (h2 : AtQ F) (hg : tmG F 136 19 = 0) : F 136 39 < 12 := by
  have nn := Nx.tmG h h2
  have eA : Nx (tmA F) (tmG F) := by
    have b : Nx (tmA F) (tmB F) := (Nx.rf nn.1.1 nn.1.2.1).rn
    have c : Nx (tmA F) (tmC F) := b.mu (by omega)
    have d : Nx (tmA F) (tmD F) := (c.mu (by omega)).sc
    have e : Nx (tmA F) (tmE F) := (d.mu (by omega)).sc
    exact e.rn
  have a := (eA.2.2.2.2.2 hg).1
  unfold tmA at a
  rw [sc_r (by omega)] at a
  exact (mu_t (by decide) a).2.1
theorem Ny.tmS {F : Hp} (h : PQ F) (h2 : AtQ F) : Ny F (tmS F) := by
  have nn := (Nx.tmG h h2).2.2.2.2.2
  unfold Jvm.Pilot.CRateLimiterLaw_law_r9152_2bcaae.tmS
  split
  · rename_i q
    have h12 := tm_39 h h2 q
    have n4 : Nx F (tmP F) := (((nn.u (by omega)).u (by omega)).u (by omega)).u (by omega)
    have h39 := nn.2.2.2.2.1
    have hb := nn.1.2.2.2.2.2.2.1
    exact n4.y.of (n4.1.u39 (by omega)) (fun i z => up_i (by omega))
  · exact nn.y
theorem Ny.ndS {F : Hp} (h : PQ F) (h2 : AtQ F) : Ny F (ndS F) := by
  unfold Jvm.Pilot.CRateLimiterLaw_law_r9152_2bcaae.ndS
  split
  · rename_i q
    have h12 := nd_22 q
    have nn := Nx.ndG h h2
    have h22 := nn.2.2.2.1
    have hb := nn.1.2.2.2.2.2.1
    exact nn.y.of (nn.1.u22 (by omega)) (fun i z => up_i (by omega))
  · exact (Nx.ndC h h2).y
def lmA (F : Hp) : Hp := sc (up (mu (F 136 25 = 0) 4 F) 136 25 1)
def agA (F : Hp) : Hp := sc (up (mu (F 136 26 = 0) 4 F) 136 26 1)
def bdS (F : Hp) : Hp := if wdB 474245 F then ndS F else if wdB 12891444 F then up (rnS 0 99 (lmA F)) 136 23 (lmA F 136 18) else if wdB 1253 F then up (rnS 0 999 (agA F)) 136 24 (agA F 136 18) else tmS (mu (wdB 52 F) 1 F)
def stmS (F : Hp) : Hp := sc (mu (bdS F 136 17 = 3) 1 (bdS F))
theorem Nx.lmA {F : Hp} (h : PQ F) (h2 : AtQ F) : Nx F (lmA F) := (((Nx.rf h h2).mu (by omega)).u25 (by omega) (by omega)).sc
theorem Nx.agA {F : Hp} (h : PQ F) (h2 : AtQ F) : Nx F (agA F) := (((Nx.rf h h2).mu (by omega)).u25 (by omega) (by omega)).sc
theorem Ny.bd {F : Hp} (h : PQ F) (h2 : AtQ F) : Ny F (bdS F) := by
  unfold bdS
  split
  · exact Ny.ndS h h2
  · split
    · exact ((Nx.lmA h h2).rn.u (by omega)).y
    · split
      · exact ((Nx.agA h h2).rn.u (by omega)).y
      · have m := (Nx.rf h h2).mu (g := wdB 52 F) (c := 1) (by omega)
        exact m.y.tr (Ny.tmS m.1 m.2.1)
theorem Ny.stm {F : Hp} (h : PQ F) (h2 : AtQ F) : Ny F (stmS F) := by
  have b := Ny.bd h h2
  exact b.nx (((Nx.rf b.1 b.2.1).mu (by omega)).sc)
theorem stm_at {F : Hp} (h : PQ F) (h2 : AtQ F) (hg : stmS F 136 19 = 0) : F 136 19 = 0 ∧ F 136 15 < stmS F 136 15 := by
  have b := Ny.bd h h2
  have m := (Nx.rf b.1 b.2.1).mu (g := bdS F 136 17 = 3) (c := 1) (by omega)
  have z := hg
  unfold stmS at z
  rw [sc_r (by omega)] at z
  have t := mu_t (by decide) z
  have s := m.sct (by rw [mu_r (by omega), t.2.1]; decide) z
  have e := b.2.2.2 t.1
  exact ⟨e.1, by have : bdS F 136 15 < stmS F 136 15 := s; omega⟩
set_option maxRecDepth 100000 in
set_option maxHeartbeats 4000000 in
theorem r_readsTimed {V : VX} {F : Hp} (h : PQ F) (ha : AtQ F)  : Ct V yX12_readsTimed cX12_readsTimed 5 none 3 65 0 0 SH [vr V 136] F SH 0 (fun r F' => F' = tmS F) := by
  refine Ct.of [some (vr V 136), none, none, none, none] (by decide) (by simp [lg_sl, vi_cat, vl_cat, vr_cat]) rfl (by simp [asc, lv_args, vi_cat, vl_cat, vr_cat]) (fun X hV hX => ?_)
  subst hV
  obtain ⟨h1, h2, h3, h4, h5, h6, h7, h8, h9, h10, h11⟩ := id h
  obtain ⟨nA, nB, nC, nD, nE, nG⟩ := Nx.tmG h ha
  have hs4 := stH_rng (tmD F)
  refine R_aload_0 hX dX12_readsTimed_0 ?_
  refine R_aload_0 hX dX12_readsTimed_1 ?_
  refine R_geti hX dX12_readsTimed_2 fl_X12_205 o_136 rfl ?_
  try simp (disch := omega) only [up_i, up_k, up_s]
  refine R_bipush hX dX12_readsTimed_5 (by decide) ?_
  refine R_icmpge (tgt := 14) hX dX12_readsTimed_7 (by decide) (by constructor <;> first | omega | (simp (disch := omega) only [up_k, up_i, up_s]; omega)) (by constructor <;> first | omega | (simp (disch := omega) only [up_k, up_i, up_s]; omega)) (fun c_7 => ?_) (fun c_7 => ?_)
  · skip
    refine R_iconst hX dX12_readsTimed_14 ?_
    refine R_iconst hX dX12_readsTimed_15 ?_
    refine R_v2v hX dX12_readsTimed_16 li_X12_175 mk_X12_must mi_X12_must rfl o_136 (r_must (by constructor <;> omega) (by constructor <;> omega) (by omega)) ⟨⟨by decide, by decide⟩, by decide, by decide, rfl, Nat.le_of_ble_eq_true rfl, rfl⟩ (fun x_16 F_16 h_16 => ?_)
    subst h_16
    refine R.eq rfl rfl (show _ = mu (F 136 39 < 12) 5 F from mu_iff (by omega)) ?_
    refine R_aload_0 hX dX12_readsTimed_19 ?_
    refine R_v0v hX dX12_readsTimed_20 li_X12_179 mk_X12_scans mi_X12_scans rfl o_136 (r_scans (h.mu (g := F 136 39 < 12) (c := 5) (by omega)).1 (by have z := (h.mu (g := F 136 39 < 12) (c := 5) (by omega)).2.1; constructor <;> omega)) ⟨⟨by decide, by decide⟩, by decide, by decide, rfl, Nat.le_of_ble_eq_true rfl, rfl⟩ (fun x_20 F_20 h_20 => ?_)
    subst h_20
    refine R.eq rfl rfl (show _ = tmA F from rfl) ?_
    refine R_aload_0 hX dX12_readsTimed_23 ?_
    refine R_iconst hX dX12_readsTimed_24 ?_
    refine R_sipush hX dX12_readsTimed_25 (by decide) ?_
    refine R_v2i hX dX12_readsTimed_28 li_X12_195 mk_X12_readsNumber mi_X12_readsNumber rfl o_136 (r_readsNumber nA.1 (by constructor <;> omega) (by constructor <;> omega)) ⟨⟨by decide, by decide⟩, by decide, by decide, rfl, Nat.le_of_ble_eq_true rfl, rfl⟩ (fun x_28 F_28 h_28 => ?_)
    obtain ⟨hx, hF⟩ := h_28
    subst hx
    subst hF
    refine R.eq rfl rfl (show _ = tmB F from rfl) ?_
    refine R_istore_1 hX c1_r dX12_readsTimed_31 ?_
    refine R_aload_0 hX dX12_readsTimed_32 ?_
    refine R_aload_0 hX dX12_readsTimed_33 ?_
    refine R_v0i hX dX12_readsTimed_34 li_X12_189 mk_X12_isName mi_X12_isName rfl o_136 (r_isName nB.1) ⟨⟨by decide, by decide⟩, by decide, by decide, rfl, Nat.le_of_ble_eq_true rfl, rfl⟩ (fun x_34 F_34 h_34 => ?_)
    obtain ⟨h_34, e_34⟩ := h_34; replace e_34 := e_34.symm; subst e_34
    refine R_iconst hX dX12_readsTimed_37 ?_
    refine R_v2v hX dX12_readsTimed_38 li_X12_175 mk_X12_must mi_X12_must rfl o_136 (r_must (by have z := (nB.1).2.1; constructor <;> omega) (by have z := (nB.1).2.2.1; constructor <;> omega) (by omega)) ⟨⟨by decide, by decide⟩, by decide, by decide, rfl, Nat.le_of_ble_eq_true rfl, rfl⟩ (fun x_38 F_38 h_38 => ?_)
    subst h_38
    refine R.eq rfl rfl (show _ = tmC F from mu_iff (by omega)) ?_
    refine R_aload_0 hX dX12_readsTimed_41 ?_
    refine R_v0i hX dX12_readsTimed_42 li_X12_192 mk_X12_here mi_X12_here rfl o_136 (r_here nC.1) ⟨⟨by decide, by decide⟩, by decide, by decide, rfl, Nat.le_of_ble_eq_true rfl, rfl⟩ (fun x_42 F_42 h_42 => ?_)
    obtain ⟨h_42, e_42⟩ := h_42; replace e_42 := e_42.symm; subst e_42
    subst h_42
    have hhr := fnF_rng (nm := tmC F 140) (w := tmC F 136 21) (N := tmC F 136 22) 12 0
    change hrS (tmC F) = -2 ∨ (0 ≤ hrS (tmC F) ∧ hrS (tmC F) < tmC F 136 22 ∧ _) at hhr
    have b22 := nC.1.2.2.2.2.2.1
    refine R_istore_2 hX c1_i dX12_readsTimed_45 ?_
    refine R_aload_0 hX dX12_readsTimed_46 ?_
    refine R_iload_2 hX dX12_readsTimed_47 ?_
    refine R_bipush hX dX12_readsTimed_48 (by decide) ?_
    refine R_icmpeq (tgt := 57) hX dX12_readsTimed_50 (by decide) (by constructor <;> first | omega | (simp (disch := omega) only [up_k, up_i, up_s]; omega)) (by constructor <;> first | omega | (simp (disch := omega) only [up_k, up_i, up_s]; omega)) (fun c_50 => ?_) (fun c_50 => ?_)
    · skip
      refine R_iconst hX dX12_readsTimed_57 ?_
      refine R_iconst hX dX12_readsTimed_58 ?_
      refine R_v2v hX dX12_readsTimed_59 li_X12_175 mk_X12_must mi_X12_must rfl o_136 (r_must (by have z := (nC.1).2.1; constructor <;> omega) (by have z := (nC.1).2.2.1; constructor <;> omega) (by omega)) ⟨⟨by decide, by decide⟩, by decide, by decide, rfl, Nat.le_of_ble_eq_true rfl, rfl⟩ (fun x_59 F_59 h_59 => ?_)
      subst h_59
      refine R.eq rfl rfl (show _ = mu (¬ hrS (tmC F) = -2) 3 (tmC F) from mu_iff (by omega)) ?_
      refine R_aload_0 hX dX12_readsTimed_62 ?_
      refine R_v0v hX dX12_readsTimed_63 li_X12_179 mk_X12_scans mi_X12_scans rfl o_136 (r_scans (nC.1.mu (g := ¬ hrS (tmC F) = -2) (c := 3) (by omega)).1 (by have z := (nC.1.mu (g := ¬ hrS (tmC F) = -2) (c := 3) (by omega)).2.1; constructor <;> omega)) ⟨⟨by decide, by decide⟩, by decide, by decide, rfl, Nat.le_of_ble_eq_true rfl, rfl⟩ (fun x_63 F_63 h_63 => ?_)
      subst h_63
      refine R.eq rfl rfl (show _ = tmD F from rfl) ?_
      refine R_aload_0 hX dX12_readsTimed_66 ?_
      refine R_v0i hX dX12_readsTimed_67 li_X12_161 mk_X12_settingHere mi_X12_settingHere rfl o_136 (r_settingHere nD.1) ⟨⟨by decide, by decide⟩, by decide, by decide, rfl, Nat.le_of_ble_eq_true rfl, rfl⟩ (fun x_67 F_67 h_67 => ?_)
      obtain ⟨h_67, e_67⟩ := h_67; replace e_67 := e_67.symm; subst e_67
      subst h_67
      refine R_istore_3 hX c1_i dX12_readsTimed_70 ?_
      refine R_aload_0 hX dX12_readsTimed_71 ?_
      refine R_iload_3 hX dX12_readsTimed_72 ?_
      refine R_ifeq (tgt := 86) hX dX12_readsTimed_73 (by decide) (by constructor <;> first | omega | (simp (disch := omega) only [up_k, up_i, up_s]; omega)) (fun c_73 => ?_) (fun c_73 => ?_)
      · skip
        refine R_iconst hX dX12_readsTimed_86 ?_
        refine R_goto (tgt := 91) hX dX12_readsTimed_87 (by decide) ?_
        refine R_iconst hX dX12_readsTimed_91 ?_
        refine R_v2v hX dX12_readsTimed_92 li_X12_175 mk_X12_must mi_X12_must rfl o_136 (r_must (by have z := (nD.1).2.1; constructor <;> omega) (by have z := (nD.1).2.2.1; constructor <;> omega) (by omega)) ⟨⟨by decide, by decide⟩, by decide, by decide, rfl, Nat.le_of_ble_eq_true rfl, rfl⟩ (fun x_92 F_92 h_92 => ?_)
        subst h_92
        refine R.eq rfl rfl (show _ = mu (stH (tmD F) = 0 ∨ stH (tmD F) = 1 ∨ stH (tmD F) = 4) 1 (tmD F) from mu_iff (by omega)) ?_
        refine R_aload_0 hX dX12_readsTimed_95 ?_
        refine R_v0v hX dX12_readsTimed_96 li_X12_179 mk_X12_scans mi_X12_scans rfl o_136 (r_scans (nD.1.mu (g := stH (tmD F) = 0 ∨ stH (tmD F) = 1 ∨ stH (tmD F) = 4) (c := 1) (by omega)).1 (by have z := (nD.1.mu (g := stH (tmD F) = 0 ∨ stH (tmD F) = 1 ∨ stH (tmD F) = 4) (c := 1) (by omega)).2.1; constructor <;> omega)) ⟨⟨by decide, by decide⟩, by decide, by decide, rfl, Nat.le_of_ble_eq_true rfl, rfl⟩ (fun x_96 F_96 h_96 => ?_)
        subst h_96
        refine R.eq rfl rfl (show _ = tmE F from rfl) ?_
        refine R_aload_0 hX dX12_readsTimed_99 ?_
        refine R_iload_3 hX dX12_readsTimed_100 ?_
        refine R_iconst hX dX12_readsTimed_101 ?_
        refine R_icmpne (tgt := 109) hX dX12_readsTimed_102 (by decide) (by constructor <;> first | omega | (simp (disch := omega) only [up_k, up_i, up_s]; omega)) (by constructor <;> first | omega | (simp (disch := omega) only [up_k, up_i, up_s]; omega)) (fun c_102 => ?_) (fun c_102 => ?_)
        · skip
          refine R_iconst hX dX12_readsTimed_109 ?_
          refine R_iload_3 hX dX12_readsTimed_110 ?_
          refine R_ifne (tgt := 119) hX dX12_readsTimed_111 (by decide) (by constructor <;> first | omega | (simp (disch := omega) only [up_k, up_i, up_s]; omega)) (fun c_111 => ?_) (fun c_111 => ?_)
          · skip
            refine R_iload_3 hX dX12_readsTimed_119 ?_
            refine R_iconst hX dX12_readsTimed_120 ?_
            refine R_icmpne (tgt := 130) hX dX12_readsTimed_121 (by decide) (by constructor <;> first | omega | (simp (disch := omega) only [up_k, up_i, up_s]; omega)) (by constructor <;> first | omega | (simp (disch := omega) only [up_k, up_i, up_s]; omega)) (fun c_121 => ?_) (fun c_121 => ?_)
            · skip
              refine R_bipush hX dX12_readsTimed_130 (by decide) ?_
              refine R_v2i hX dX12_readsTimed_132 li_X12_195 mk_X12_readsNumber mi_X12_readsNumber rfl o_136 (r_readsNumber nE.1 (by constructor <;> omega) (by constructor <;> omega)) ⟨⟨by decide, by decide⟩, by decide, by decide, rfl, Nat.le_of_ble_eq_true rfl, rfl⟩ (fun x_132 F_132 h_132 => ?_)
              obtain ⟨hx, hF⟩ := h_132
              subst hx
              subst hF
              refine R.eq rfl rfl (show _ = tmG F by unfold tmG; first | (rw [if_pos (by omega), if_neg (by omega), if_neg (by omega)]; done) | (rw [if_neg (by omega), if_pos (by omega)]; done) | (rw [if_neg (by omega), if_neg (by omega), if_pos (by omega)]; done) | (rw [if_neg (by omega), if_neg (by omega), if_neg (by omega)]; done) | (exfalso; omega)) ?_
              refine R_istore_4 hX c1_i dX12_readsTimed_135 ?_
              refine R_aload_0 hX dX12_readsTimed_137 ?_
              refine R_v0i hX dX12_readsTimed_138 li_X12_112 mk_X12_isGood mi_X12_isGood rfl o_136 (r_isGood (by have z := nG.1.2.1; constructor <;> omega)) ⟨⟨by decide, by decide⟩, by decide, by decide, rfl, Nat.le_of_ble_eq_true rfl, rfl⟩ (fun x_138 F_138 h_138 => ?_)
              obtain ⟨h_138, e_138⟩ := h_138; replace e_138 := e_138.symm; subst e_138
              refine R_ifne (tgt := 145) hX dX12_readsTimed_141 (by decide) (by constructor <;> first | omega | (simp (disch := omega) only [up_k, up_i, up_s]; omega)) (fun c_141 => ?_) (fun c_141 => ?_)
              · skip
                have hg0 : tmG F 136 19 = 0 := by omega
                have h12 := tm_39 h ha hg0
                have e39 : tmG F 136 39 = F 136 39 := nG.2.2.2.2.1
                have b39 := nG.1.2.2.2.2.2.2.1
                refine R_aload_0 hX dX12_readsTimed_145 ?_
                refine R_getq (v := 154) hX dX12_readsTimed_146 fl_X12_73 o_136 rfl (by omega) ?_
                refine R_aload_0 hX dX12_readsTimed_149 ?_
                refine R_geti hX dX12_readsTimed_150 fl_X12_205 o_136 rfl ?_
                try simp (disch := omega) only [up_i, up_k, up_s]
                refine R_iload_1 hX dX12_readsTimed_153 ?_
                refine R_iast hX dX12_readsTimed_154 a_154 ⟨by omega, by omega⟩ ?_
                refine R_aload_0 hX dX12_readsTimed_155 ?_
                refine R_getq (v := 155) hX dX12_readsTimed_156 fl_X12_76 o_136 rfl (by omega) ?_
                refine R_aload_0 hX dX12_readsTimed_159 ?_
                refine R_geti hX dX12_readsTimed_160 fl_X12_205 o_136 rfl ?_
                try simp (disch := omega) only [up_i, up_k, up_s]
                refine R_iload_2 hX dX12_readsTimed_163 ?_
                refine R_iast hX dX12_readsTimed_164 a_155 ⟨by omega, by omega⟩ ?_
                refine R_aload_0 hX dX12_readsTimed_165 ?_
                refine R_getq (v := 156) hX dX12_readsTimed_166 fl_X12_79 o_136 rfl (by omega) ?_
                refine R_aload_0 hX dX12_readsTimed_169 ?_
                refine R_geti hX dX12_readsTimed_170 fl_X12_205 o_136 rfl ?_
                try simp (disch := omega) only [up_i, up_k, up_s]
                refine R_iload_3 hX dX12_readsTimed_173 ?_
                refine R_iast hX dX12_readsTimed_174 a_156 ⟨by omega, by omega⟩ ?_
                refine R_aload_0 hX dX12_readsTimed_175 ?_
                refine R_getq (v := 157) hX dX12_readsTimed_176 fl_X12_82 o_136 rfl (by omega) ?_
                refine R_aload_0 hX dX12_readsTimed_179 ?_
                refine R_geti hX dX12_readsTimed_180 fl_X12_205 o_136 rfl ?_
                try simp (disch := omega) only [up_i, up_k, up_s]
                refine R_iload_4 hX dX12_readsTimed_183 ?_
                refine R_iast hX dX12_readsTimed_185 a_157 ⟨by omega, by omega⟩ ?_
                refine R_aload_0 hX dX12_readsTimed_186 ?_
                refine R_dup hX c1_r dX12_readsTimed_187 ?_
                refine R_geti hX dX12_readsTimed_188 fl_X12_205 o_136 rfl ?_
                try simp (disch := omega) only [up_i, up_k, up_s]
                refine R_iconst hX dX12_readsTimed_191 ?_
                refine R_iadd hX dX12_readsTimed_192 ?_
                refine R_puti hX dX12_readsTimed_193 fl_X12_205 o_136 rfl ?_
                exact R_vret hX dX12_readsTimed_196 (by unfold tmS tmP; rw [if_pos hg0])
              · skip
                exact R_vret hX dX12_readsTimed_144 (by unfold tmS; rw [if_neg (by omega)])
            · skip
              refine R_sipush hX dX12_readsTimed_124 (by decide) ?_
              refine R_goto (tgt := 132) hX dX12_readsTimed_127 (by decide) ?_
              refine R_v2i hX dX12_readsTimed_132 li_X12_195 mk_X12_readsNumber mi_X12_readsNumber rfl o_136 (r_readsNumber nE.1 (by constructor <;> omega) (by constructor <;> omega)) ⟨⟨by decide, by decide⟩, by decide, by decide, rfl, Nat.le_of_ble_eq_true rfl, rfl⟩ (fun x_132 F_132 h_132 => ?_)
              obtain ⟨hx, hF⟩ := h_132
              subst hx
              subst hF
              refine R.eq rfl rfl (show _ = tmG F by unfold tmG; first | (rw [if_pos (by omega), if_neg (by omega), if_neg (by omega)]; done) | (rw [if_neg (by omega), if_pos (by omega)]; done) | (rw [if_neg (by omega), if_neg (by omega), if_pos (by omega)]; done) | (rw [if_neg (by omega), if_neg (by omega), if_neg (by omega)]; done) | (exfalso; omega)) ?_
              refine R_istore_4 hX c1_i dX12_readsTimed_135 ?_
              refine R_aload_0 hX dX12_readsTimed_137 ?_
              refine R_v0i hX dX12_readsTimed_138 li_X12_112 mk_X12_isGood mi_X12_isGood rfl o_136 (r_isGood (by have z := nG.1.2.1; constructor <;> omega)) ⟨⟨by decide, by decide⟩, by decide, by decide, rfl, Nat.le_of_ble_eq_true rfl, rfl⟩ (fun x_138 F_138 h_138 => ?_)
              obtain ⟨h_138, e_138⟩ := h_138; replace e_138 := e_138.symm; subst e_138
              refine R_ifne (tgt := 145) hX dX12_readsTimed_141 (by decide) (by constructor <;> first | omega | (simp (disch := omega) only [up_k, up_i, up_s]; omega)) (fun c_141 => ?_) (fun c_141 => ?_)
              · skip
                have hg0 : tmG F 136 19 = 0 := by omega
                have h12 := tm_39 h ha hg0
                have e39 : tmG F 136 39 = F 136 39 := nG.2.2.2.2.1
                have b39 := nG.1.2.2.2.2.2.2.1
                refine R_aload_0 hX dX12_readsTimed_145 ?_
                refine R_getq (v := 154) hX dX12_readsTimed_146 fl_X12_73 o_136 rfl (by omega) ?_
                refine R_aload_0 hX dX12_readsTimed_149 ?_
                refine R_geti hX dX12_readsTimed_150 fl_X12_205 o_136 rfl ?_
                try simp (disch := omega) only [up_i, up_k, up_s]
                refine R_iload_1 hX dX12_readsTimed_153 ?_
                refine R_iast hX dX12_readsTimed_154 a_154 ⟨by omega, by omega⟩ ?_
                refine R_aload_0 hX dX12_readsTimed_155 ?_
                refine R_getq (v := 155) hX dX12_readsTimed_156 fl_X12_76 o_136 rfl (by omega) ?_
                refine R_aload_0 hX dX12_readsTimed_159 ?_
                refine R_geti hX dX12_readsTimed_160 fl_X12_205 o_136 rfl ?_
                try simp (disch := omega) only [up_i, up_k, up_s]
                refine R_iload_2 hX dX12_readsTimed_163 ?_
                refine R_iast hX dX12_readsTimed_164 a_155 ⟨by omega, by omega⟩ ?_
                refine R_aload_0 hX dX12_readsTimed_165 ?_
                refine R_getq (v := 156) hX dX12_readsTimed_166 fl_X12_79 o_136 rfl (by omega) ?_
                refine R_aload_0 hX dX12_readsTimed_169 ?_
                refine R_geti hX dX12_readsTimed_170 fl_X12_205 o_136 rfl ?_
                try simp (disch := omega) only [up_i, up_k, up_s]
                refine R_iload_3 hX dX12_readsTimed_173 ?_
                refine R_iast hX dX12_readsTimed_174 a_156 ⟨by omega, by omega⟩ ?_
                refine R_aload_0 hX dX12_readsTimed_175 ?_
                refine R_getq (v := 157) hX dX12_readsTimed_176 fl_X12_82 o_136 rfl (by omega) ?_
                refine R_aload_0 hX dX12_readsTimed_179 ?_
                refine R_geti hX dX12_readsTimed_180 fl_X12_205 o_136 rfl ?_
                try simp (disch := omega) only [up_i, up_k, up_s]
                refine R_iload_4 hX dX12_readsTimed_183 ?_
                refine R_iast hX dX12_readsTimed_185 a_157 ⟨by omega, by omega⟩ ?_
                refine R_aload_0 hX dX12_readsTimed_186 ?_
                refine R_dup hX c1_r dX12_readsTimed_187 ?_
                refine R_geti hX dX12_readsTimed_188 fl_X12_205 o_136 rfl ?_
                try simp (disch := omega) only [up_i, up_k, up_s]
                refine R_iconst hX dX12_readsTimed_191 ?_
                refine R_iadd hX dX12_readsTimed_192 ?_
                refine R_puti hX dX12_readsTimed_193 fl_X12_205 o_136 rfl ?_
                exact R_vret hX dX12_readsTimed_196 (by unfold tmS tmP; rw [if_pos hg0])
              · skip
                exact R_vret hX dX12_readsTimed_144 (by unfold tmS; rw [if_neg (by omega)])
          · skip
            refine R_bipush hX dX12_readsTimed_114 (by decide) ?_
            refine R_goto (tgt := 132) hX dX12_readsTimed_116 (by decide) ?_
            refine R_v2i hX dX12_readsTimed_132 li_X12_195 mk_X12_readsNumber mi_X12_readsNumber rfl o_136 (r_readsNumber nE.1 (by constructor <;> omega) (by constructor <;> omega)) ⟨⟨by decide, by decide⟩, by decide, by decide, rfl, Nat.le_of_ble_eq_true rfl, rfl⟩ (fun x_132 F_132 h_132 => ?_)
            obtain ⟨hx, hF⟩ := h_132
            subst hx
            subst hF
            refine R.eq rfl rfl (show _ = tmG F by unfold tmG; first | (rw [if_pos (by omega), if_neg (by omega), if_neg (by omega)]; done) | (rw [if_neg (by omega), if_pos (by omega)]; done) | (rw [if_neg (by omega), if_neg (by omega), if_pos (by omega)]; done) | (rw [if_neg (by omega), if_neg (by omega), if_neg (by omega)]; done) | (exfalso; omega)) ?_
            refine R_istore_4 hX c1_i dX12_readsTimed_135 ?_
            refine R_aload_0 hX dX12_readsTimed_137 ?_
            refine R_v0i hX dX12_readsTimed_138 li_X12_112 mk_X12_isGood mi_X12_isGood rfl o_136 (r_isGood (by have z := nG.1.2.1; constructor <;> omega)) ⟨⟨by decide, by decide⟩, by decide, by decide, rfl, Nat.le_of_ble_eq_true rfl, rfl⟩ (fun x_138 F_138 h_138 => ?_)
            obtain ⟨h_138, e_138⟩ := h_138; replace e_138 := e_138.symm; subst e_138
            refine R_ifne (tgt := 145) hX dX12_readsTimed_141 (by decide) (by constructor <;> first | omega | (simp (disch := omega) only [up_k, up_i, up_s]; omega)) (fun c_141 => ?_) (fun c_141 => ?_)
            · skip
              have hg0 : tmG F 136 19 = 0 := by omega
              have h12 := tm_39 h ha hg0
              have e39 : tmG F 136 39 = F 136 39 := nG.2.2.2.2.1
              have b39 := nG.1.2.2.2.2.2.2.1
              refine R_aload_0 hX dX12_readsTimed_145 ?_
              refine R_getq (v := 154) hX dX12_readsTimed_146 fl_X12_73 o_136 rfl (by omega) ?_
              refine R_aload_0 hX dX12_readsTimed_149 ?_
              refine R_geti hX dX12_readsTimed_150 fl_X12_205 o_136 rfl ?_
              try simp (disch := omega) only [up_i, up_k, up_s]
              refine R_iload_1 hX dX12_readsTimed_153 ?_
              refine R_iast hX dX12_readsTimed_154 a_154 ⟨by omega, by omega⟩ ?_
              refine R_aload_0 hX dX12_readsTimed_155 ?_
              refine R_getq (v := 155) hX dX12_readsTimed_156 fl_X12_76 o_136 rfl (by omega) ?_
              refine R_aload_0 hX dX12_readsTimed_159 ?_
              refine R_geti hX dX12_readsTimed_160 fl_X12_205 o_136 rfl ?_
              try simp (disch := omega) only [up_i, up_k, up_s]
              refine R_iload_2 hX dX12_readsTimed_163 ?_
              refine R_iast hX dX12_readsTimed_164 a_155 ⟨by omega, by omega⟩ ?_
              refine R_aload_0 hX dX12_readsTimed_165 ?_
              refine R_getq (v := 156) hX dX12_readsTimed_166 fl_X12_79 o_136 rfl (by omega) ?_
              refine R_aload_0 hX dX12_readsTimed_169 ?_
              refine R_geti hX dX12_readsTimed_170 fl_X12_205 o_136 rfl ?_
              try simp (disch := omega) only [up_i, up_k, up_s]
              refine R_iload_3 hX dX12_readsTimed_173 ?_
              refine R_iast hX dX12_readsTimed_174 a_156 ⟨by omega, by omega⟩ ?_
              refine R_aload_0 hX dX12_readsTimed_175 ?_
              refine R_getq (v := 157) hX dX12_readsTimed_176 fl_X12_82 o_136 rfl (by omega) ?_
              refine R_aload_0 hX dX12_readsTimed_179 ?_
              refine R_geti hX dX12_readsTimed_180 fl_X12_205 o_136 rfl ?_
              try simp (disch := omega) only [up_i, up_k, up_s]
              refine R_iload_4 hX dX12_readsTimed_183 ?_
              refine R_iast hX dX12_readsTimed_185 a_157 ⟨by omega, by omega⟩ ?_
              refine R_aload_0 hX dX12_readsTimed_186 ?_
              refine R_dup hX c1_r dX12_readsTimed_187 ?_
              refine R_geti hX dX12_readsTimed_188 fl_X12_205 o_136 rfl ?_
              try simp (disch := omega) only [up_i, up_k, up_s]
              refine R_iconst hX dX12_readsTimed_191 ?_
              refine R_iadd hX dX12_readsTimed_192 ?_
              refine R_puti hX dX12_readsTimed_193 fl_X12_205 o_136 rfl ?_
              exact R_vret hX dX12_readsTimed_196 (by unfold tmS tmP; rw [if_pos hg0])
            · skip
              exact R_vret hX dX12_readsTimed_144 (by unfold tmS; rw [if_neg (by omega)])
        · skip
          refine R_iconst hX dX12_readsTimed_105 ?_
          refine R_goto (tgt := 110) hX dX12_readsTimed_106 (by decide) ?_
          refine R_iload_3 hX dX12_readsTimed_110 ?_
          refine R_ifne (tgt := 119) hX dX12_readsTimed_111 (by decide) (by constructor <;> first | omega | (simp (disch := omega) only [up_k, up_i, up_s]; omega)) (fun c_111 => ?_) (fun c_111 => ?_)
          · skip
            refine R_iload_3 hX dX12_readsTimed_119 ?_
            refine R_iconst hX dX12_readsTimed_120 ?_
            refine R_icmpne (tgt := 130) hX dX12_readsTimed_121 (by decide) (by constructor <;> first | omega | (simp (disch := omega) only [up_k, up_i, up_s]; omega)) (by constructor <;> first | omega | (simp (disch := omega) only [up_k, up_i, up_s]; omega)) (fun c_121 => ?_) (fun c_121 => ?_)
            · skip
              refine R_bipush hX dX12_readsTimed_130 (by decide) ?_
              refine R_v2i hX dX12_readsTimed_132 li_X12_195 mk_X12_readsNumber mi_X12_readsNumber rfl o_136 (r_readsNumber nE.1 (by constructor <;> omega) (by constructor <;> omega)) ⟨⟨by decide, by decide⟩, by decide, by decide, rfl, Nat.le_of_ble_eq_true rfl, rfl⟩ (fun x_132 F_132 h_132 => ?_)
              obtain ⟨hx, hF⟩ := h_132
              subst hx
              subst hF
              refine R.eq rfl rfl (show _ = tmG F by unfold tmG; first | (rw [if_pos (by omega), if_neg (by omega), if_neg (by omega)]; done) | (rw [if_neg (by omega), if_pos (by omega)]; done) | (rw [if_neg (by omega), if_neg (by omega), if_pos (by omega)]; done) | (rw [if_neg (by omega), if_neg (by omega), if_neg (by omega)]; done) | (exfalso; omega)) ?_
              refine R_istore_4 hX c1_i dX12_readsTimed_135 ?_
              refine R_aload_0 hX dX12_readsTimed_137 ?_
              refine R_v0i hX dX12_readsTimed_138 li_X12_112 mk_X12_isGood mi_X12_isGood rfl o_136 (r_isGood (by have z := nG.1.2.1; constructor <;> omega)) ⟨⟨by decide, by decide⟩, by decide, by decide, rfl, Nat.le_of_ble_eq_true rfl, rfl⟩ (fun x_138 F_138 h_138 => ?_)
              obtain ⟨h_138, e_138⟩ := h_138; replace e_138 := e_138.symm; subst e_138
              refine R_ifne (tgt := 145) hX dX12_readsTimed_141 (by decide) (by constructor <;> first | omega | (simp (disch := omega) only [up_k, up_i, up_s]; omega)) (fun c_141 => ?_) (fun c_141 => ?_)
              · skip
                have hg0 : tmG F 136 19 = 0 := by omega
                have h12 := tm_39 h ha hg0
                have e39 : tmG F 136 39 = F 136 39 := nG.2.2.2.2.1
                have b39 := nG.1.2.2.2.2.2.2.1
                refine R_aload_0 hX dX12_readsTimed_145 ?_
                refine R_getq (v := 154) hX dX12_readsTimed_146 fl_X12_73 o_136 rfl (by omega) ?_
                refine R_aload_0 hX dX12_readsTimed_149 ?_
                refine R_geti hX dX12_readsTimed_150 fl_X12_205 o_136 rfl ?_
                try simp (disch := omega) only [up_i, up_k, up_s]
                refine R_iload_1 hX dX12_readsTimed_153 ?_
                refine R_iast hX dX12_readsTimed_154 a_154 ⟨by omega, by omega⟩ ?_
                refine R_aload_0 hX dX12_readsTimed_155 ?_
                refine R_getq (v := 155) hX dX12_readsTimed_156 fl_X12_76 o_136 rfl (by omega) ?_
                refine R_aload_0 hX dX12_readsTimed_159 ?_
                refine R_geti hX dX12_readsTimed_160 fl_X12_205 o_136 rfl ?_
                try simp (disch := omega) only [up_i, up_k, up_s]
                refine R_iload_2 hX dX12_readsTimed_163 ?_
                refine R_iast hX dX12_readsTimed_164 a_155 ⟨by omega, by omega⟩ ?_
                refine R_aload_0 hX dX12_readsTimed_165 ?_
                refine R_getq (v := 156) hX dX12_readsTimed_166 fl_X12_79 o_136 rfl (by omega) ?_
                refine R_aload_0 hX dX12_readsTimed_169 ?_
                refine R_geti hX dX12_readsTimed_170 fl_X12_205 o_136 rfl ?_
                try simp (disch := omega) only [up_i, up_k, up_s]
                refine R_iload_3 hX dX12_readsTimed_173 ?_
                refine R_iast hX dX12_readsTimed_174 a_156 ⟨by omega, by omega⟩ ?_
                refine R_aload_0 hX dX12_readsTimed_175 ?_
                refine R_getq (v := 157) hX dX12_readsTimed_176 fl_X12_82 o_136 rfl (by omega) ?_
                refine R_aload_0 hX dX12_readsTimed_179 ?_
                refine R_geti hX dX12_readsTimed_180 fl_X12_205 o_136 rfl ?_
                try simp (disch := omega) only [up_i, up_k, up_s]
                refine R_iload_4 hX dX12_readsTimed_183 ?_
                refine R_iast hX dX12_readsTimed_185 a_157 ⟨by omega, by omega⟩ ?_
                refine R_aload_0 hX dX12_readsTimed_186 ?_
                refine R_dup hX c1_r dX12_readsTimed_187 ?_
                refine R_geti hX dX12_readsTimed_188 fl_X12_205 o_136 rfl ?_
                try simp (disch := omega) only [up_i, up_k, up_s]
                refine R_iconst hX dX12_readsTimed_191 ?_
                refine R_iadd hX dX12_readsTimed_192 ?_
                refine R_puti hX dX12_readsTimed_193 fl_X12_205 o_136 rfl ?_
                exact R_vret hX dX12_readsTimed_196 (by unfold tmS tmP; rw [if_pos hg0])
              · skip
                exact R_vret hX dX12_readsTimed_144 (by unfold tmS; rw [if_neg (by omega)])
            · skip
              refine R_sipush hX dX12_readsTimed_124 (by decide) ?_
              refine R_goto (tgt := 132) hX dX12_readsTimed_127 (by decide) ?_
              refine R_v2i hX dX12_readsTimed_132 li_X12_195 mk_X12_readsNumber mi_X12_readsNumber rfl o_136 (r_readsNumber nE.1 (by constructor <;> omega) (by constructor <;> omega)) ⟨⟨by decide, by decide⟩, by decide, by decide, rfl, Nat.le_of_ble_eq_true rfl, rfl⟩ (fun x_132 F_132 h_132 => ?_)
              obtain ⟨hx, hF⟩ := h_132
              subst hx
              subst hF
              refine R.eq rfl rfl (show _ = tmG F by unfold tmG; first | (rw [if_pos (by omega), if_neg (by omega), if_neg (by omega)]; done) | (rw [if_neg (by omega), if_pos (by omega)]; done) | (rw [if_neg (by omega), if_neg (by omega), if_pos (by omega)]; done) | (rw [if_neg (by omega), if_neg (by omega), if_neg (by omega)]; done) | (exfalso; omega)) ?_
              refine R_istore_4 hX c1_i dX12_readsTimed_135 ?_
              refine R_aload_0 hX dX12_readsTimed_137 ?_
              refine R_v0i hX dX12_readsTimed_138 li_X12_112 mk_X12_isGood mi_X12_isGood rfl o_136 (r_isGood (by have z := nG.1.2.1; constructor <;> omega)) ⟨⟨by decide, by decide⟩, by decide, by decide, rfl, Nat.le_of_ble_eq_true rfl, rfl⟩ (fun x_138 F_138 h_138 => ?_)
              obtain ⟨h_138, e_138⟩ := h_138; replace e_138 := e_138.symm; subst e_138
              refine R_ifne (tgt := 145) hX dX12_readsTimed_141 (by decide) (by constructor <;> first | omega | (simp (disch := omega) only [up_k, up_i, up_s]; omega)) (fun c_141 => ?_) (fun c_141 => ?_)
              · skip
                have hg0 : tmG F 136 19 = 0 := by omega
                have h12 := tm_39 h ha hg0
                have e39 : tmG F 136 39 = F 136 39 := nG.2.2.2.2.1
                have b39 := nG.1.2.2.2.2.2.2.1
                refine R_aload_0 hX dX12_readsTimed_145 ?_
                refine R_getq (v := 154) hX dX12_readsTimed_146 fl_X12_73 o_136 rfl (by omega) ?_
                refine R_aload_0 hX dX12_readsTimed_149 ?_
                refine R_geti hX dX12_readsTimed_150 fl_X12_205 o_136 rfl ?_
                try simp (disch := omega) only [up_i, up_k, up_s]
                refine R_iload_1 hX dX12_readsTimed_153 ?_
                refine R_iast hX dX12_readsTimed_154 a_154 ⟨by omega, by omega⟩ ?_
                refine R_aload_0 hX dX12_readsTimed_155 ?_
                refine R_getq (v := 155) hX dX12_readsTimed_156 fl_X12_76 o_136 rfl (by omega) ?_
                refine R_aload_0 hX dX12_readsTimed_159 ?_
                refine R_geti hX dX12_readsTimed_160 fl_X12_205 o_136 rfl ?_
                try simp (disch := omega) only [up_i, up_k, up_s]
                refine R_iload_2 hX dX12_readsTimed_163 ?_
                refine R_iast hX dX12_readsTimed_164 a_155 ⟨by omega, by omega⟩ ?_
                refine R_aload_0 hX dX12_readsTimed_165 ?_
                refine R_getq (v := 156) hX dX12_readsTimed_166 fl_X12_79 o_136 rfl (by omega) ?_
                refine R_aload_0 hX dX12_readsTimed_169 ?_
                refine R_geti hX dX12_readsTimed_170 fl_X12_205 o_136 rfl ?_
                try simp (disch := omega) only [up_i, up_k, up_s]
                refine R_iload_3 hX dX12_readsTimed_173 ?_
                refine R_iast hX dX12_readsTimed_174 a_156 ⟨by omega, by omega⟩ ?_
                refine R_aload_0 hX dX12_readsTimed_175 ?_
                refine R_getq (v := 157) hX dX12_readsTimed_176 fl_X12_82 o_136 rfl (by omega) ?_
                refine R_aload_0 hX dX12_readsTimed_179 ?_
                refine R_geti hX dX12_readsTimed_180 fl_X12_205 o_136 rfl ?_
                try simp (disch := omega) only [up_i, up_k, up_s]
                refine R_iload_4 hX dX12_readsTimed_183 ?_
                refine R_iast hX dX12_readsTimed_185 a_157 ⟨by omega, by omega⟩ ?_
                refine R_aload_0 hX dX12_readsTimed_186 ?_
                refine R_dup hX c1_r dX12_readsTimed_187 ?_
                refine R_geti hX dX12_readsTimed_188 fl_X12_205 o_136 rfl ?_
                try simp (disch := omega) only [up_i, up_k, up_s]
                refine R_iconst hX dX12_readsTimed_191 ?_
                refine R_iadd hX dX12_readsTimed_192 ?_
                refine R_puti hX dX12_readsTimed_193 fl_X12_205 o_136 rfl ?_
                exact R_vret hX dX12_readsTimed_196 (by unfold tmS tmP; rw [if_pos hg0])
              · skip
                exact R_vret hX dX12_readsTimed_144 (by unfold tmS; rw [if_neg (by omega)])
          · skip
            refine R_bipush hX dX12_readsTimed_114 (by decide) ?_
            refine R_goto (tgt := 132) hX dX12_readsTimed_116 (by decide) ?_
            refine R_v2i hX dX12_readsTimed_132 li_X12_195 mk_X12_readsNumber mi_X12_readsNumber rfl o_136 (r_readsNumber nE.1 (by constructor <;> omega) (by constructor <;> omega)) ⟨⟨by decide, by decide⟩, by decide, by decide, rfl, Nat.le_of_ble_eq_true rfl, rfl⟩ (fun x_132 F_132 h_132 => ?_)
            obtain ⟨hx, hF⟩ := h_132
            subst hx
            subst hF
            refine R.eq rfl rfl (show _ = tmG F by unfold tmG; first | (rw [if_pos (by omega), if_neg (by omega), if_neg (by omega)]; done) | (rw [if_neg (by omega), if_pos (by omega)]; done) | (rw [if_neg (by omega), if_neg (by omega), if_pos (by omega)]; done) | (rw [if_neg (by omega), if_neg (by omega), if_neg (by omega)]; done) | (exfalso; omega)) ?_
            refine R_istore_4 hX c1_i dX12_readsTimed_135 ?_
            refine R_aload_0 hX dX12_readsTimed_137 ?_
            refine R_v0i hX dX12_readsTimed_138 li_X12_112 mk_X12_isGood mi_X12_isGood rfl o_136 (r_isGood (by have z := nG.1.2.1; constructor <;> omega)) ⟨⟨by decide, by decide⟩, by decide, by decide, rfl, Nat.le_of_ble_eq_true rfl, rfl⟩ (fun x_138 F_138 h_138 => ?_)
            obtain ⟨h_138, e_138⟩ := h_138; replace e_138 := e_138.symm; subst e_138
            refine R_ifne (tgt := 145) hX dX12_readsTimed_141 (by decide) (by constructor <;> first | omega | (simp (disch := omega) only [up_k, up_i, up_s]; omega)) (fun c_141 => ?_) (fun c_141 => ?_)
            · skip
              have hg0 : tmG F 136 19 = 0 := by omega
              have h12 := tm_39 h ha hg0
              have e39 : tmG F 136 39 = F 136 39 := nG.2.2.2.2.1
              have b39 := nG.1.2.2.2.2.2.2.1
              refine R_aload_0 hX dX12_readsTimed_145 ?_
              refine R_getq (v := 154) hX dX12_readsTimed_146 fl_X12_73 o_136 rfl (by omega) ?_
              refine R_aload_0 hX dX12_readsTimed_149 ?_
              refine R_geti hX dX12_readsTimed_150 fl_X12_205 o_136 rfl ?_
              try simp (disch := omega) only [up_i, up_k, up_s]
              refine R_iload_1 hX dX12_readsTimed_153 ?_
              refine R_iast hX dX12_readsTimed_154 a_154 ⟨by omega, by omega⟩ ?_
              refine R_aload_0 hX dX12_readsTimed_155 ?_
              refine R_getq (v := 155) hX dX12_readsTimed_156 fl_X12_76 o_136 rfl (by omega) ?_
              refine R_aload_0 hX dX12_readsTimed_159 ?_
              refine R_geti hX dX12_readsTimed_160 fl_X12_205 o_136 rfl ?_
              try simp (disch := omega) only [up_i, up_k, up_s]
              refine R_iload_2 hX dX12_readsTimed_163 ?_
              refine R_iast hX dX12_readsTimed_164 a_155 ⟨by omega, by omega⟩ ?_
              refine R_aload_0 hX dX12_readsTimed_165 ?_
              refine R_getq (v := 156) hX dX12_readsTimed_166 fl_X12_79 o_136 rfl (by omega) ?_
              refine R_aload_0 hX dX12_readsTimed_169 ?_
              refine R_geti hX dX12_readsTimed_170 fl_X12_205 o_136 rfl ?_
              try simp (disch := omega) only [up_i, up_k, up_s]
              refine R_iload_3 hX dX12_readsTimed_173 ?_
              refine R_iast hX dX12_readsTimed_174 a_156 ⟨by omega, by omega⟩ ?_
              refine R_aload_0 hX dX12_readsTimed_175 ?_
              refine R_getq (v := 157) hX dX12_readsTimed_176 fl_X12_82 o_136 rfl (by omega) ?_
              refine R_aload_0 hX dX12_readsTimed_179 ?_
              refine R_geti hX dX12_readsTimed_180 fl_X12_205 o_136 rfl ?_
              try simp (disch := omega) only [up_i, up_k, up_s]
              refine R_iload_4 hX dX12_readsTimed_183 ?_
              refine R_iast hX dX12_readsTimed_185 a_157 ⟨by omega, by omega⟩ ?_
              refine R_aload_0 hX dX12_readsTimed_186 ?_
              refine R_dup hX c1_r dX12_readsTimed_187 ?_
              refine R_geti hX dX12_readsTimed_188 fl_X12_205 o_136 rfl ?_
              try simp (disch := omega) only [up_i, up_k, up_s]
              refine R_iconst hX dX12_readsTimed_191 ?_
              refine R_iadd hX dX12_readsTimed_192 ?_
              refine R_puti hX dX12_readsTimed_193 fl_X12_205 o_136 rfl ?_
              exact R_vret hX dX12_readsTimed_196 (by unfold tmS tmP; rw [if_pos hg0])
            · skip
              exact R_vret hX dX12_readsTimed_144 (by unfold tmS; rw [if_neg (by omega)])
      · skip
        refine R_iload_3 hX dX12_readsTimed_76 ?_
        refine R_iconst hX dX12_readsTimed_77 ?_
        refine R_icmpeq (tgt := 86) hX dX12_readsTimed_78 (by decide) (by constructor <;> first | omega | (simp (disch := omega) only [up_k, up_i, up_s]; omega)) (by constructor <;> first | omega | (simp (disch := omega) only [up_k, up_i, up_s]; omega)) (fun c_78 => ?_) (fun c_78 => ?_)
        · skip
          refine R_iconst hX dX12_readsTimed_86 ?_
          refine R_goto (tgt := 91) hX dX12_readsTimed_87 (by decide) ?_
          refine R_iconst hX dX12_readsTimed_91 ?_
          refine R_v2v hX dX12_readsTimed_92 li_X12_175 mk_X12_must mi_X12_must rfl o_136 (r_must (by have z := (nD.1).2.1; constructor <;> omega) (by have z := (nD.1).2.2.1; constructor <;> omega) (by omega)) ⟨⟨by decide, by decide⟩, by decide, by decide, rfl, Nat.le_of_ble_eq_true rfl, rfl⟩ (fun x_92 F_92 h_92 => ?_)
          subst h_92
          refine R.eq rfl rfl (show _ = mu (stH (tmD F) = 0 ∨ stH (tmD F) = 1 ∨ stH (tmD F) = 4) 1 (tmD F) from mu_iff (by omega)) ?_
          refine R_aload_0 hX dX12_readsTimed_95 ?_
          refine R_v0v hX dX12_readsTimed_96 li_X12_179 mk_X12_scans mi_X12_scans rfl o_136 (r_scans (nD.1.mu (g := stH (tmD F) = 0 ∨ stH (tmD F) = 1 ∨ stH (tmD F) = 4) (c := 1) (by omega)).1 (by have z := (nD.1.mu (g := stH (tmD F) = 0 ∨ stH (tmD F) = 1 ∨ stH (tmD F) = 4) (c := 1) (by omega)).2.1; constructor <;> omega)) ⟨⟨by decide, by decide⟩, by decide, by decide, rfl, Nat.le_of_ble_eq_true rfl, rfl⟩ (fun x_96 F_96 h_96 => ?_)
          subst h_96
          refine R.eq rfl rfl (show _ = tmE F from rfl) ?_
          refine R_aload_0 hX dX12_readsTimed_99 ?_
          refine R_iload_3 hX dX12_readsTimed_100 ?_
          refine R_iconst hX dX12_readsTimed_101 ?_
          refine R_icmpne (tgt := 109) hX dX12_readsTimed_102 (by decide) (by constructor <;> first | omega | (simp (disch := omega) only [up_k, up_i, up_s]; omega)) (by constructor <;> first | omega | (simp (disch := omega) only [up_k, up_i, up_s]; omega)) (fun c_102 => ?_) (fun c_102 => ?_)
          · skip
            refine R_iconst hX dX12_readsTimed_109 ?_
            refine R_iload_3 hX dX12_readsTimed_110 ?_
            refine R_ifne (tgt := 119) hX dX12_readsTimed_111 (by decide) (by constructor <;> first | omega | (simp (disch := omega) only [up_k, up_i, up_s]; omega)) (fun c_111 => ?_) (fun c_111 => ?_)
            · skip
              refine R_iload_3 hX dX12_readsTimed_119 ?_
              refine R_iconst hX dX12_readsTimed_120 ?_
              refine R_icmpne (tgt := 130) hX dX12_readsTimed_121 (by decide) (by constructor <;> first | omega | (simp (disch := omega) only [up_k, up_i, up_s]; omega)) (by constructor <;> first | omega | (simp (disch := omega) only [up_k, up_i, up_s]; omega)) (fun c_121 => ?_) (fun c_121 => ?_)
              · skip
                refine R_bipush hX dX12_readsTimed_130 (by decide) ?_
                refine R_v2i hX dX12_readsTimed_132 li_X12_195 mk_X12_readsNumber mi_X12_readsNumber rfl o_136 (r_readsNumber nE.1 (by constructor <;> omega) (by constructor <;> omega)) ⟨⟨by decide, by decide⟩, by decide, by decide, rfl, Nat.le_of_ble_eq_true rfl, rfl⟩ (fun x_132 F_132 h_132 => ?_)
                obtain ⟨hx, hF⟩ := h_132
                subst hx
                subst hF
                refine R.eq rfl rfl (show _ = tmG F by unfold tmG; first | (rw [if_pos (by omega), if_neg (by omega), if_neg (by omega)]; done) | (rw [if_neg (by omega), if_pos (by omega)]; done) | (rw [if_neg (by omega), if_neg (by omega), if_pos (by omega)]; done) | (rw [if_neg (by omega), if_neg (by omega), if_neg (by omega)]; done) | (exfalso; omega)) ?_
                refine R_istore_4 hX c1_i dX12_readsTimed_135 ?_
                refine R_aload_0 hX dX12_readsTimed_137 ?_
                refine R_v0i hX dX12_readsTimed_138 li_X12_112 mk_X12_isGood mi_X12_isGood rfl o_136 (r_isGood (by have z := nG.1.2.1; constructor <;> omega)) ⟨⟨by decide, by decide⟩, by decide, by decide, rfl, Nat.le_of_ble_eq_true rfl, rfl⟩ (fun x_138 F_138 h_138 => ?_)
                obtain ⟨h_138, e_138⟩ := h_138; replace e_138 := e_138.symm; subst e_138
                refine R_ifne (tgt := 145) hX dX12_readsTimed_141 (by decide) (by constructor <;> first | omega | (simp (disch := omega) only [up_k, up_i, up_s]; omega)) (fun c_141 => ?_) (fun c_141 => ?_)
                · skip
                  have hg0 : tmG F 136 19 = 0 := by omega
                  have h12 := tm_39 h ha hg0
                  have e39 : tmG F 136 39 = F 136 39 := nG.2.2.2.2.1
                  have b39 := nG.1.2.2.2.2.2.2.1
                  refine R_aload_0 hX dX12_readsTimed_145 ?_
                  refine R_getq (v := 154) hX dX12_readsTimed_146 fl_X12_73 o_136 rfl (by omega) ?_
                  refine R_aload_0 hX dX12_readsTimed_149 ?_
                  refine R_geti hX dX12_readsTimed_150 fl_X12_205 o_136 rfl ?_
                  try simp (disch := omega) only [up_i, up_k, up_s]
                  refine R_iload_1 hX dX12_readsTimed_153 ?_
                  refine R_iast hX dX12_readsTimed_154 a_154 ⟨by omega, by omega⟩ ?_
                  refine R_aload_0 hX dX12_readsTimed_155 ?_
                  refine R_getq (v := 155) hX dX12_readsTimed_156 fl_X12_76 o_136 rfl (by omega) ?_
                  refine R_aload_0 hX dX12_readsTimed_159 ?_
                  refine R_geti hX dX12_readsTimed_160 fl_X12_205 o_136 rfl ?_
                  try simp (disch := omega) only [up_i, up_k, up_s]
                  refine R_iload_2 hX dX12_readsTimed_163 ?_
                  refine R_iast hX dX12_readsTimed_164 a_155 ⟨by omega, by omega⟩ ?_
                  refine R_aload_0 hX dX12_readsTimed_165 ?_
                  refine R_getq (v := 156) hX dX12_readsTimed_166 fl_X12_79 o_136 rfl (by omega) ?_
                  refine R_aload_0 hX dX12_readsTimed_169 ?_
                  refine R_geti hX dX12_readsTimed_170 fl_X12_205 o_136 rfl ?_
                  try simp (disch := omega) only [up_i, up_k, up_s]
                  refine R_iload_3 hX dX12_readsTimed_173 ?_
                  refine R_iast hX dX12_readsTimed_174 a_156 ⟨by omega, by omega⟩ ?_
                  refine R_aload_0 hX dX12_readsTimed_175 ?_
                  refine R_getq (v := 157) hX dX12_readsTimed_176 fl_X12_82 o_136 rfl (by omega) ?_
                  refine R_aload_0 hX dX12_readsTimed_179 ?_
                  refine R_geti hX dX12_readsTimed_180 fl_X12_205 o_136 rfl ?_
                  try simp (disch := omega) only [up_i, up_k, up_s]
                  refine R_iload_4 hX dX12_readsTimed_183 ?_
                  refine R_iast hX dX12_readsTimed_185 a_157 ⟨by omega, by omega⟩ ?_
                  refine R_aload_0 hX dX12_readsTimed_186 ?_
                  refine R_dup hX c1_r dX12_readsTimed_187 ?_
                  refine R_geti hX dX12_readsTimed_188 fl_X12_205 o_136 rfl ?_
                  try simp (disch := omega) only [up_i, up_k, up_s]
                  refine R_iconst hX dX12_readsTimed_191 ?_
                  refine R_iadd hX dX12_readsTimed_192 ?_
                  refine R_puti hX dX12_readsTimed_193 fl_X12_205 o_136 rfl ?_
                  exact R_vret hX dX12_readsTimed_196 (by unfold tmS tmP; rw [if_pos hg0])
                · skip
                  exact R_vret hX dX12_readsTimed_144 (by unfold tmS; rw [if_neg (by omega)])
              · skip
                refine R_sipush hX dX12_readsTimed_124 (by decide) ?_
                refine R_goto (tgt := 132) hX dX12_readsTimed_127 (by decide) ?_
                refine R_v2i hX dX12_readsTimed_132 li_X12_195 mk_X12_readsNumber mi_X12_readsNumber rfl o_136 (r_readsNumber nE.1 (by constructor <;> omega) (by constructor <;> omega)) ⟨⟨by decide, by decide⟩, by decide, by decide, rfl, Nat.le_of_ble_eq_true rfl, rfl⟩ (fun x_132 F_132 h_132 => ?_)
                obtain ⟨hx, hF⟩ := h_132
                subst hx
                subst hF
                refine R.eq rfl rfl (show _ = tmG F by unfold tmG; first | (rw [if_pos (by omega), if_neg (by omega), if_neg (by omega)]; done) | (rw [if_neg (by omega), if_pos (by omega)]; done) | (rw [if_neg (by omega), if_neg (by omega), if_pos (by omega)]; done) | (rw [if_neg (by omega), if_neg (by omega), if_neg (by omega)]; done) | (exfalso; omega)) ?_
                refine R_istore_4 hX c1_i dX12_readsTimed_135 ?_
                refine R_aload_0 hX dX12_readsTimed_137 ?_
                refine R_v0i hX dX12_readsTimed_138 li_X12_112 mk_X12_isGood mi_X12_isGood rfl o_136 (r_isGood (by have z := nG.1.2.1; constructor <;> omega)) ⟨⟨by decide, by decide⟩, by decide, by decide, rfl, Nat.le_of_ble_eq_true rfl, rfl⟩ (fun x_138 F_138 h_138 => ?_)
                obtain ⟨h_138, e_138⟩ := h_138; replace e_138 := e_138.symm; subst e_138
                refine R_ifne (tgt := 145) hX dX12_readsTimed_141 (by decide) (by constructor <;> first | omega | (simp (disch := omega) only [up_k, up_i, up_s]; omega)) (fun c_141 => ?_) (fun c_141 => ?_)
                · skip
                  have hg0 : tmG F 136 19 = 0 := by omega
                  have h12 := tm_39 h ha hg0
                  have e39 : tmG F 136 39 = F 136 39 := nG.2.2.2.2.1
                  have b39 := nG.1.2.2.2.2.2.2.1
                  refine R_aload_0 hX dX12_readsTimed_145 ?_
                  refine R_getq (v := 154) hX dX12_readsTimed_146 fl_X12_73 o_136 rfl (by omega) ?_
                  refine R_aload_0 hX dX12_readsTimed_149 ?_
                  refine R_geti hX dX12_readsTimed_150 fl_X12_205 o_136 rfl ?_
                  try simp (disch := omega) only [up_i, up_k, up_s]
                  refine R_iload_1 hX dX12_readsTimed_153 ?_
                  refine R_iast hX dX12_readsTimed_154 a_154 ⟨by omega, by omega⟩ ?_
                  refine R_aload_0 hX dX12_readsTimed_155 ?_
                  refine R_getq (v := 155) hX dX12_readsTimed_156 fl_X12_76 o_136 rfl (by omega) ?_
                  refine R_aload_0 hX dX12_readsTimed_159 ?_
                  refine R_geti hX dX12_readsTimed_160 fl_X12_205 o_136 rfl ?_
                  try simp (disch := omega) only [up_i, up_k, up_s]
                  refine R_iload_2 hX dX12_readsTimed_163 ?_
                  refine R_iast hX dX12_readsTimed_164 a_155 ⟨by omega, by omega⟩ ?_
                  refine R_aload_0 hX dX12_readsTimed_165 ?_
                  refine R_getq (v := 156) hX dX12_readsTimed_166 fl_X12_79 o_136 rfl (by omega) ?_
                  refine R_aload_0 hX dX12_readsTimed_169 ?_
                  refine R_geti hX dX12_readsTimed_170 fl_X12_205 o_136 rfl ?_
                  try simp (disch := omega) only [up_i, up_k, up_s]
                  refine R_iload_3 hX dX12_readsTimed_173 ?_
                  refine R_iast hX dX12_readsTimed_174 a_156 ⟨by omega, by omega⟩ ?_
                  refine R_aload_0 hX dX12_readsTimed_175 ?_
                  refine R_getq (v := 157) hX dX12_readsTimed_176 fl_X12_82 o_136 rfl (by omega) ?_
                  refine R_aload_0 hX dX12_readsTimed_179 ?_
                  refine R_geti hX dX12_readsTimed_180 fl_X12_205 o_136 rfl ?_
                  try simp (disch := omega) only [up_i, up_k, up_s]
                  refine R_iload_4 hX dX12_readsTimed_183 ?_
                  refine R_iast hX dX12_readsTimed_185 a_157 ⟨by omega, by omega⟩ ?_
                  refine R_aload_0 hX dX12_readsTimed_186 ?_
                  refine R_dup hX c1_r dX12_readsTimed_187 ?_
                  refine R_geti hX dX12_readsTimed_188 fl_X12_205 o_136 rfl ?_
                  try simp (disch := omega) only [up_i, up_k, up_s]
                  refine R_iconst hX dX12_readsTimed_191 ?_
                  refine R_iadd hX dX12_readsTimed_192 ?_
                  refine R_puti hX dX12_readsTimed_193 fl_X12_205 o_136 rfl ?_
                  exact R_vret hX dX12_readsTimed_196 (by unfold tmS tmP; rw [if_pos hg0])
                · skip
                  exact R_vret hX dX12_readsTimed_144 (by unfold tmS; rw [if_neg (by omega)])
            · skip
              refine R_bipush hX dX12_readsTimed_114 (by decide) ?_
              refine R_goto (tgt := 132) hX dX12_readsTimed_116 (by decide) ?_
              refine R_v2i hX dX12_readsTimed_132 li_X12_195 mk_X12_readsNumber mi_X12_readsNumber rfl o_136 (r_readsNumber nE.1 (by constructor <;> omega) (by constructor <;> omega)) ⟨⟨by decide, by decide⟩, by decide, by decide, rfl, Nat.le_of_ble_eq_true rfl, rfl⟩ (fun x_132 F_132 h_132 => ?_)
              obtain ⟨hx, hF⟩ := h_132
              subst hx
              subst hF
              refine R.eq rfl rfl (show _ = tmG F by unfold tmG; first | (rw [if_pos (by omega), if_neg (by omega), if_neg (by omega)]; done) | (rw [if_neg (by omega), if_pos (by omega)]; done) | (rw [if_neg (by omega), if_neg (by omega), if_pos (by omega)]; done) | (rw [if_neg (by omega), if_neg (by omega), if_neg (by omega)]; done) | (exfalso; omega)) ?_
              refine R_istore_4 hX c1_i dX12_readsTimed_135 ?_
              refine R_aload_0 hX dX12_readsTimed_137 ?_
              refine R_v0i hX dX12_readsTimed_138 li_X12_112 mk_X12_isGood mi_X12_isGood rfl o_136 (r_isGood (by have z := nG.1.2.1; constructor <;> omega)) ⟨⟨by decide, by decide⟩, by decide, by decide, rfl, Nat.le_of_ble_eq_true rfl, rfl⟩ (fun x_138 F_138 h_138 => ?_)
              obtain ⟨h_138, e_138⟩ := h_138; replace e_138 := e_138.symm; subst e_138
              refine R_ifne (tgt := 145) hX dX12_readsTimed_141 (by decide) (by constructor <;> first | omega | (simp (disch := omega) only [up_k, up_i, up_s]; omega)) (fun c_141 => ?_) (fun c_141 => ?_)
              · skip
                have hg0 : tmG F 136 19 = 0 := by omega
                have h12 := tm_39 h ha hg0
                have e39 : tmG F 136 39 = F 136 39 := nG.2.2.2.2.1
                have b39 := nG.1.2.2.2.2.2.2.1
                refine R_aload_0 hX dX12_readsTimed_145 ?_
                refine R_getq (v := 154) hX dX12_readsTimed_146 fl_X12_73 o_136 rfl (by omega) ?_
                refine R_aload_0 hX dX12_readsTimed_149 ?_
                refine R_geti hX dX12_readsTimed_150 fl_X12_205 o_136 rfl ?_
                try simp (disch := omega) only [up_i, up_k, up_s]
                refine R_iload_1 hX dX12_readsTimed_153 ?_
                refine R_iast hX dX12_readsTimed_154 a_154 ⟨by omega, by omega⟩ ?_
                refine R_aload_0 hX dX12_readsTimed_155 ?_
                refine R_getq (v := 155) hX dX12_readsTimed_156 fl_X12_76 o_136 rfl (by omega) ?_
                refine R_aload_0 hX dX12_readsTimed_159 ?_
                refine R_geti hX dX12_readsTimed_160 fl_X12_205 o_136 rfl ?_
                try simp (disch := omega) only [up_i, up_k, up_s]
                refine R_iload_2 hX dX12_readsTimed_163 ?_
                refine R_iast hX dX12_readsTimed_164 a_155 ⟨by omega, by omega⟩ ?_
                refine R_aload_0 hX dX12_readsTimed_165 ?_
                refine R_getq (v := 156) hX dX12_readsTimed_166 fl_X12_79 o_136 rfl (by omega) ?_
                refine R_aload_0 hX dX12_readsTimed_169 ?_
                refine R_geti hX dX12_readsTimed_170 fl_X12_205 o_136 rfl ?_
                try simp (disch := omega) only [up_i, up_k, up_s]
                refine R_iload_3 hX dX12_readsTimed_173 ?_
                refine R_iast hX dX12_readsTimed_174 a_156 ⟨by omega, by omega⟩ ?_
                refine R_aload_0 hX dX12_readsTimed_175 ?_
                refine R_getq (v := 157) hX dX12_readsTimed_176 fl_X12_82 o_136 rfl (by omega) ?_
                refine R_aload_0 hX dX12_readsTimed_179 ?_
                refine R_geti hX dX12_readsTimed_180 fl_X12_205 o_136 rfl ?_
                try simp (disch := omega) only [up_i, up_k, up_s]
                refine R_iload_4 hX dX12_readsTimed_183 ?_
                refine R_iast hX dX12_readsTimed_185 a_157 ⟨by omega, by omega⟩ ?_
                refine R_aload_0 hX dX12_readsTimed_186 ?_
                refine R_dup hX c1_r dX12_readsTimed_187 ?_
                refine R_geti hX dX12_readsTimed_188 fl_X12_205 o_136 rfl ?_
                try simp (disch := omega) only [up_i, up_k, up_s]
                refine R_iconst hX dX12_readsTimed_191 ?_
                refine R_iadd hX dX12_readsTimed_192 ?_
                refine R_puti hX dX12_readsTimed_193 fl_X12_205 o_136 rfl ?_
                exact R_vret hX dX12_readsTimed_196 (by unfold tmS tmP; rw [if_pos hg0])
              · skip
                exact R_vret hX dX12_readsTimed_144 (by unfold tmS; rw [if_neg (by omega)])
          · skip
            refine R_iconst hX dX12_readsTimed_105 ?_
            refine R_goto (tgt := 110) hX dX12_readsTimed_106 (by decide) ?_
            refine R_iload_3 hX dX12_readsTimed_110 ?_
            refine R_ifne (tgt := 119) hX dX12_readsTimed_111 (by decide) (by constructor <;> first | omega | (simp (disch := omega) only [up_k, up_i, up_s]; omega)) (fun c_111 => ?_) (fun c_111 => ?_)
            · skip
              refine R_iload_3 hX dX12_readsTimed_119 ?_
              refine R_iconst hX dX12_readsTimed_120 ?_
              refine R_icmpne (tgt := 130) hX dX12_readsTimed_121 (by decide) (by constructor <;> first | omega | (simp (disch := omega) only [up_k, up_i, up_s]; omega)) (by constructor <;> first | omega | (simp (disch := omega) only [up_k, up_i, up_s]; omega)) (fun c_121 => ?_) (fun c_121 => ?_)
              · skip
                refine R_bipush hX dX12_readsTimed_130 (by decide) ?_
                refine R_v2i hX dX12_readsTimed_132 li_X12_195 mk_X12_readsNumber mi_X12_readsNumber rfl o_136 (r_readsNumber nE.1 (by constructor <;> omega) (by constructor <;> omega)) ⟨⟨by decide, by decide⟩, by decide, by decide, rfl, Nat.le_of_ble_eq_true rfl, rfl⟩ (fun x_132 F_132 h_132 => ?_)
                obtain ⟨hx, hF⟩ := h_132
                subst hx
                subst hF
                refine R.eq rfl rfl (show _ = tmG F by unfold tmG; first | (rw [if_pos (by omega), if_neg (by omega), if_neg (by omega)]; done) | (rw [if_neg (by omega), if_pos (by omega)]; done) | (rw [if_neg (by omega), if_neg (by omega), if_pos (by omega)]; done) | (rw [if_neg (by omega), if_neg (by omega), if_neg (by omega)]; done) | (exfalso; omega)) ?_
                refine R_istore_4 hX c1_i dX12_readsTimed_135 ?_
                refine R_aload_0 hX dX12_readsTimed_137 ?_
                refine R_v0i hX dX12_readsTimed_138 li_X12_112 mk_X12_isGood mi_X12_isGood rfl o_136 (r_isGood (by have z := nG.1.2.1; constructor <;> omega)) ⟨⟨by decide, by decide⟩, by decide, by decide, rfl, Nat.le_of_ble_eq_true rfl, rfl⟩ (fun x_138 F_138 h_138 => ?_)
                obtain ⟨h_138, e_138⟩ := h_138; replace e_138 := e_138.symm; subst e_138
                refine R_ifne (tgt := 145) hX dX12_readsTimed_141 (by decide) (by constructor <;> first | omega | (simp (disch := omega) only [up_k, up_i, up_s]; omega)) (fun c_141 => ?_) (fun c_141 => ?_)
                · skip
                  have hg0 : tmG F 136 19 = 0 := by omega
                  have h12 := tm_39 h ha hg0
                  have e39 : tmG F 136 39 = F 136 39 := nG.2.2.2.2.1
                  have b39 := nG.1.2.2.2.2.2.2.1
                  refine R_aload_0 hX dX12_readsTimed_145 ?_
                  refine R_getq (v := 154) hX dX12_readsTimed_146 fl_X12_73 o_136 rfl (by omega) ?_
                  refine R_aload_0 hX dX12_readsTimed_149 ?_
                  refine R_geti hX dX12_readsTimed_150 fl_X12_205 o_136 rfl ?_
                  try simp (disch := omega) only [up_i, up_k, up_s]
                  refine R_iload_1 hX dX12_readsTimed_153 ?_
                  refine R_iast hX dX12_readsTimed_154 a_154 ⟨by omega, by omega⟩ ?_
                  refine R_aload_0 hX dX12_readsTimed_155 ?_
                  refine R_getq (v := 155) hX dX12_readsTimed_156 fl_X12_76 o_136 rfl (by omega) ?_
                  refine R_aload_0 hX dX12_readsTimed_159 ?_
                  refine R_geti hX dX12_readsTimed_160 fl_X12_205 o_136 rfl ?_
                  try simp (disch := omega) only [up_i, up_k, up_s]
                  refine R_iload_2 hX dX12_readsTimed_163 ?_
                  refine R_iast hX dX12_readsTimed_164 a_155 ⟨by omega, by omega⟩ ?_
                  refine R_aload_0 hX dX12_readsTimed_165 ?_
                  refine R_getq (v := 156) hX dX12_readsTimed_166 fl_X12_79 o_136 rfl (by omega) ?_
                  refine R_aload_0 hX dX12_readsTimed_169 ?_
                  refine R_geti hX dX12_readsTimed_170 fl_X12_205 o_136 rfl ?_
                  try simp (disch := omega) only [up_i, up_k, up_s]
                  refine R_iload_3 hX dX12_readsTimed_173 ?_
                  refine R_iast hX dX12_readsTimed_174 a_156 ⟨by omega, by omega⟩ ?_
                  refine R_aload_0 hX dX12_readsTimed_175 ?_
                  refine R_getq (v := 157) hX dX12_readsTimed_176 fl_X12_82 o_136 rfl (by omega) ?_
                  refine R_aload_0 hX dX12_readsTimed_179 ?_
                  refine R_geti hX dX12_readsTimed_180 fl_X12_205 o_136 rfl ?_
                  try simp (disch := omega) only [up_i, up_k, up_s]
                  refine R_iload_4 hX dX12_readsTimed_183 ?_
                  refine R_iast hX dX12_readsTimed_185 a_157 ⟨by omega, by omega⟩ ?_
                  refine R_aload_0 hX dX12_readsTimed_186 ?_
                  refine R_dup hX c1_r dX12_readsTimed_187 ?_
                  refine R_geti hX dX12_readsTimed_188 fl_X12_205 o_136 rfl ?_
                  try simp (disch := omega) only [up_i, up_k, up_s]
                  refine R_iconst hX dX12_readsTimed_191 ?_
                  refine R_iadd hX dX12_readsTimed_192 ?_
                  refine R_puti hX dX12_readsTimed_193 fl_X12_205 o_136 rfl ?_
                  exact R_vret hX dX12_readsTimed_196 (by unfold tmS tmP; rw [if_pos hg0])
                · skip
                  exact R_vret hX dX12_readsTimed_144 (by unfold tmS; rw [if_neg (by omega)])
              · skip
                refine R_sipush hX dX12_readsTimed_124 (by decide) ?_
                refine R_goto (tgt := 132) hX dX12_readsTimed_127 (by decide) ?_
                refine R_v2i hX dX12_readsTimed_132 li_X12_195 mk_X12_readsNumber mi_X12_readsNumber rfl o_136 (r_readsNumber nE.1 (by constructor <;> omega) (by constructor <;> omega)) ⟨⟨by decide, by decide⟩, by decide, by decide, rfl, Nat.le_of_ble_eq_true rfl, rfl⟩ (fun x_132 F_132 h_132 => ?_)
                obtain ⟨hx, hF⟩ := h_132
                subst hx
                subst hF
                refine R.eq rfl rfl (show _ = tmG F by unfold tmG; first | (rw [if_pos (by omega), if_neg (by omega), if_neg (by omega)]; done) | (rw [if_neg (by omega), if_pos (by omega)]; done) | (rw [if_neg (by omega), if_neg (by omega), if_pos (by omega)]; done) | (rw [if_neg (by omega), if_neg (by omega), if_neg (by omega)]; done) | (exfalso; omega)) ?_
                refine R_istore_4 hX c1_i dX12_readsTimed_135 ?_
                refine R_aload_0 hX dX12_readsTimed_137 ?_
                refine R_v0i hX dX12_readsTimed_138 li_X12_112 mk_X12_isGood mi_X12_isGood rfl o_136 (r_isGood (by have z := nG.1.2.1; constructor <;> omega)) ⟨⟨by decide, by decide⟩, by decide, by decide, rfl, Nat.le_of_ble_eq_true rfl, rfl⟩ (fun x_138 F_138 h_138 => ?_)
                obtain ⟨h_138, e_138⟩ := h_138; replace e_138 := e_138.symm; subst e_138
                refine R_ifne (tgt := 145) hX dX12_readsTimed_141 (by decide) (by constructor <;> first | omega | (simp (disch := omega) only [up_k, up_i, up_s]; omega)) (fun c_141 => ?_) (fun c_141 => ?_)
                · skip
                  have hg0 : tmG F 136 19 = 0 := by omega
                  have h12 := tm_39 h ha hg0
                  have e39 : tmG F 136 39 = F 136 39 := nG.2.2.2.2.1
                  have b39 := nG.1.2.2.2.2.2.2.1
                  refine R_aload_0 hX dX12_readsTimed_145 ?_
                  refine R_getq (v := 154) hX dX12_readsTimed_146 fl_X12_73 o_136 rfl (by omega) ?_
                  refine R_aload_0 hX dX12_readsTimed_149 ?_
                  refine R_geti hX dX12_readsTimed_150 fl_X12_205 o_136 rfl ?_
                  try simp (disch := omega) only [up_i, up_k, up_s]
                  refine R_iload_1 hX dX12_readsTimed_153 ?_
                  refine R_iast hX dX12_readsTimed_154 a_154 ⟨by omega, by omega⟩ ?_
                  refine R_aload_0 hX dX12_readsTimed_155 ?_
                  refine R_getq (v := 155) hX dX12_readsTimed_156 fl_X12_76 o_136 rfl (by omega) ?_
                  refine R_aload_0 hX dX12_readsTimed_159 ?_
                  refine R_geti hX dX12_readsTimed_160 fl_X12_205 o_136 rfl ?_
                  try simp (disch := omega) only [up_i, up_k, up_s]
                  refine R_iload_2 hX dX12_readsTimed_163 ?_
                  refine R_iast hX dX12_readsTimed_164 a_155 ⟨by omega, by omega⟩ ?_
                  refine R_aload_0 hX dX12_readsTimed_165 ?_
                  refine R_getq (v := 156) hX dX12_readsTimed_166 fl_X12_79 o_136 rfl (by omega) ?_
                  refine R_aload_0 hX dX12_readsTimed_169 ?_
                  refine R_geti hX dX12_readsTimed_170 fl_X12_205 o_136 rfl ?_
                  try simp (disch := omega) only [up_i, up_k, up_s]
                  refine R_iload_3 hX dX12_readsTimed_173 ?_
                  refine R_iast hX dX12_readsTimed_174 a_156 ⟨by omega, by omega⟩ ?_
                  refine R_aload_0 hX dX12_readsTimed_175 ?_
                  refine R_getq (v := 157) hX dX12_readsTimed_176 fl_X12_82 o_136 rfl (by omega) ?_
                  refine R_aload_0 hX dX12_readsTimed_179 ?_
                  refine R_geti hX dX12_readsTimed_180 fl_X12_205 o_136 rfl ?_
                  try simp (disch := omega) only [up_i, up_k, up_s]
                  refine R_iload_4 hX dX12_readsTimed_183 ?_
                  refine R_iast hX dX12_readsTimed_185 a_157 ⟨by omega, by omega⟩ ?_
                  refine R_aload_0 hX dX12_readsTimed_186 ?_
                  refine R_dup hX c1_r dX12_readsTimed_187 ?_
                  refine R_geti hX dX12_readsTimed_188 fl_X12_205 o_136 rfl ?_
                  try simp (disch := omega) only [up_i, up_k, up_s]
                  refine R_iconst hX dX12_readsTimed_191 ?_
                  refine R_iadd hX dX12_readsTimed_192 ?_
                  refine R_puti hX dX12_readsTimed_193 fl_X12_205 o_136 rfl ?_
                  exact R_vret hX dX12_readsTimed_196 (by unfold tmS tmP; rw [if_pos hg0])
                · skip
                  exact R_vret hX dX12_readsTimed_144 (by unfold tmS; rw [if_neg (by omega)])
            · skip
              refine R_bipush hX dX12_readsTimed_114 (by decide) ?_
              refine R_goto (tgt := 132) hX dX12_readsTimed_116 (by decide) ?_
              refine R_v2i hX dX12_readsTimed_132 li_X12_195 mk_X12_readsNumber mi_X12_readsNumber rfl o_136 (r_readsNumber nE.1 (by constructor <;> omega) (by constructor <;> omega)) ⟨⟨by decide, by decide⟩, by decide, by decide, rfl, Nat.le_of_ble_eq_true rfl, rfl⟩ (fun x_132 F_132 h_132 => ?_)
              obtain ⟨hx, hF⟩ := h_132
              subst hx
              subst hF
              refine R.eq rfl rfl (show _ = tmG F by unfold tmG; first | (rw [if_pos (by omega), if_neg (by omega), if_neg (by omega)]; done) | (rw [if_neg (by omega), if_pos (by omega)]; done) | (rw [if_neg (by omega), if_neg (by omega), if_pos (by omega)]; done) | (rw [if_neg (by omega), if_neg (by omega), if_neg (by omega)]; done) | (exfalso; omega)) ?_
              refine R_istore_4 hX c1_i dX12_readsTimed_135 ?_
              refine R_aload_0 hX dX12_readsTimed_137 ?_
              refine R_v0i hX dX12_readsTimed_138 li_X12_112 mk_X12_isGood mi_X12_isGood rfl o_136 (r_isGood (by have z := nG.1.2.1; constructor <;> omega)) ⟨⟨by decide, by decide⟩, by decide, by decide, rfl, Nat.le_of_ble_eq_true rfl, rfl⟩ (fun x_138 F_138 h_138 => ?_)
              obtain ⟨h_138, e_138⟩ := h_138; replace e_138 := e_138.symm; subst e_138
              refine R_ifne (tgt := 145) hX dX12_readsTimed_141 (by decide) (by constructor <;> first | omega | (simp (disch := omega) only [up_k, up_i, up_s]; omega)) (fun c_141 => ?_) (fun c_141 => ?_)
              · skip
                have hg0 : tmG F 136 19 = 0 := by omega
                have h12 := tm_39 h ha hg0
                have e39 : tmG F 136 39 = F 136 39 := nG.2.2.2.2.1
                have b39 := nG.1.2.2.2.2.2.2.1
                refine R_aload_0 hX dX12_readsTimed_145 ?_
                refine R_getq (v := 154) hX dX12_readsTimed_146 fl_X12_73 o_136 rfl (by omega) ?_
                refine R_aload_0 hX dX12_readsTimed_149 ?_
                refine R_geti hX dX12_readsTimed_150 fl_X12_205 o_136 rfl ?_
                try simp (disch := omega) only [up_i, up_k, up_s]
                refine R_iload_1 hX dX12_readsTimed_153 ?_
                refine R_iast hX dX12_readsTimed_154 a_154 ⟨by omega, by omega⟩ ?_
                refine R_aload_0 hX dX12_readsTimed_155 ?_
                refine R_getq (v := 155) hX dX12_readsTimed_156 fl_X12_76 o_136 rfl (by omega) ?_
                refine R_aload_0 hX dX12_readsTimed_159 ?_
                refine R_geti hX dX12_readsTimed_160 fl_X12_205 o_136 rfl ?_
                try simp (disch := omega) only [up_i, up_k, up_s]
                refine R_iload_2 hX dX12_readsTimed_163 ?_
                refine R_iast hX dX12_readsTimed_164 a_155 ⟨by omega, by omega⟩ ?_
                refine R_aload_0 hX dX12_readsTimed_165 ?_
                refine R_getq (v := 156) hX dX12_readsTimed_166 fl_X12_79 o_136 rfl (by omega) ?_
                refine R_aload_0 hX dX12_readsTimed_169 ?_
                refine R_geti hX dX12_readsTimed_170 fl_X12_205 o_136 rfl ?_
                try simp (disch := omega) only [up_i, up_k, up_s]
                refine R_iload_3 hX dX12_readsTimed_173 ?_
                refine R_iast hX dX12_readsTimed_174 a_156 ⟨by omega, by omega⟩ ?_
                refine R_aload_0 hX dX12_readsTimed_175 ?_
                refine R_getq (v := 157) hX dX12_readsTimed_176 fl_X12_82 o_136 rfl (by omega) ?_
                refine R_aload_0 hX dX12_readsTimed_179 ?_
                refine R_geti hX dX12_readsTimed_180 fl_X12_205 o_136 rfl ?_
                try simp (disch := omega) only [up_i, up_k, up_s]
                refine R_iload_4 hX dX12_readsTimed_183 ?_
                refine R_iast hX dX12_readsTimed_185 a_157 ⟨by omega, by omega⟩ ?_
                refine R_aload_0 hX dX12_readsTimed_186 ?_
                refine R_dup hX c1_r dX12_readsTimed_187 ?_
                refine R_geti hX dX12_readsTimed_188 fl_X12_205 o_136 rfl ?_
                try simp (disch := omega) only [up_i, up_k, up_s]
                refine R_iconst hX dX12_readsTimed_191 ?_
                refine R_iadd hX dX12_readsTimed_192 ?_
                refine R_puti hX dX12_readsTimed_193 fl_X12_205 o_136 rfl ?_
                exact R_vret hX dX12_readsTimed_196 (by unfold tmS tmP; rw [if_pos hg0])
              · skip
                exact R_vret hX dX12_readsTimed_144 (by unfold tmS; rw [if_neg (by omega)])
        · skip
          refine R_iload_3 hX dX12_readsTimed_81 ?_
          refine R_iconst hX dX12_readsTimed_82 ?_
          refine R_icmpne (tgt := 90) hX dX12_readsTimed_83 (by decide) (by constructor <;> first | omega | (simp (disch := omega) only [up_k, up_i, up_s]; omega)) (by constructor <;> first | omega | (simp (disch := omega) only [up_k, up_i, up_s]; omega)) (fun c_83 => ?_) (fun c_83 => ?_)
          · skip
            refine R_iconst hX dX12_readsTimed_90 ?_
            refine R_iconst hX dX12_readsTimed_91 ?_
            refine R_v2v hX dX12_readsTimed_92 li_X12_175 mk_X12_must mi_X12_must rfl o_136 (r_must (by have z := (nD.1).2.1; constructor <;> omega) (by have z := (nD.1).2.2.1; constructor <;> omega) (by omega)) ⟨⟨by decide, by decide⟩, by decide, by decide, rfl, Nat.le_of_ble_eq_true rfl, rfl⟩ (fun x_92 F_92 h_92 => ?_)
            subst h_92
            refine R.eq rfl rfl (show _ = mu (stH (tmD F) = 0 ∨ stH (tmD F) = 1 ∨ stH (tmD F) = 4) 1 (tmD F) from mu_iff (by omega)) ?_
            refine R_aload_0 hX dX12_readsTimed_95 ?_
            refine R_v0v hX dX12_readsTimed_96 li_X12_179 mk_X12_scans mi_X12_scans rfl o_136 (r_scans (nD.1.mu (g := stH (tmD F) = 0 ∨ stH (tmD F) = 1 ∨ stH (tmD F) = 4) (c := 1) (by omega)).1 (by have z := (nD.1.mu (g := stH (tmD F) = 0 ∨ stH (tmD F) = 1 ∨ stH (tmD F) = 4) (c := 1) (by omega)).2.1; constructor <;> omega)) ⟨⟨by decide, by decide⟩, by decide, by decide, rfl, Nat.le_of_ble_eq_true rfl, rfl⟩ (fun x_96 F_96 h_96 => ?_)
            subst h_96
            refine R.eq rfl rfl (show _ = tmE F from rfl) ?_
            refine R_aload_0 hX dX12_readsTimed_99 ?_
            refine R_iload_3 hX dX12_readsTimed_100 ?_
            refine R_iconst hX dX12_readsTimed_101 ?_
            refine R_icmpne (tgt := 109) hX dX12_readsTimed_102 (by decide) (by constructor <;> first | omega | (simp (disch := omega) only [up_k, up_i, up_s]; omega)) (by constructor <;> first | omega | (simp (disch := omega) only [up_k, up_i, up_s]; omega)) (fun c_102 => ?_) (fun c_102 => ?_)
            · skip
              refine R_iconst hX dX12_readsTimed_109 ?_
              refine R_iload_3 hX dX12_readsTimed_110 ?_
              refine R_ifne (tgt := 119) hX dX12_readsTimed_111 (by decide) (by constructor <;> first | omega | (simp (disch := omega) only [up_k, up_i, up_s]; omega)) (fun c_111 => ?_) (fun c_111 => ?_)
              · skip
                refine R_iload_3 hX dX12_readsTimed_119 ?_
                refine R_iconst hX dX12_readsTimed_120 ?_
                refine R_icmpne (tgt := 130) hX dX12_readsTimed_121 (by decide) (by constructor <;> first | omega | (simp (disch := omega) only [up_k, up_i, up_s]; omega)) (by constructor <;> first | omega | (simp (disch := omega) only [up_k, up_i, up_s]; omega)) (fun c_121 => ?_) (fun c_121 => ?_)
                · skip
                  refine R_bipush hX dX12_readsTimed_130 (by decide) ?_
                  refine R_v2i hX dX12_readsTimed_132 li_X12_195 mk_X12_readsNumber mi_X12_readsNumber rfl o_136 (r_readsNumber nE.1 (by constructor <;> omega) (by constructor <;> omega)) ⟨⟨by decide, by decide⟩, by decide, by decide, rfl, Nat.le_of_ble_eq_true rfl, rfl⟩ (fun x_132 F_132 h_132 => ?_)
                  obtain ⟨hx, hF⟩ := h_132
                  subst hx
                  subst hF
                  refine R.eq rfl rfl (show _ = tmG F by unfold tmG; first | (rw [if_pos (by omega), if_neg (by omega), if_neg (by omega)]; done) | (rw [if_neg (by omega), if_pos (by omega)]; done) | (rw [if_neg (by omega), if_neg (by omega), if_pos (by omega)]; done) | (rw [if_neg (by omega), if_neg (by omega), if_neg (by omega)]; done) | (exfalso; omega)) ?_
                  refine R_istore_4 hX c1_i dX12_readsTimed_135 ?_
                  refine R_aload_0 hX dX12_readsTimed_137 ?_
                  refine R_v0i hX dX12_readsTimed_138 li_X12_112 mk_X12_isGood mi_X12_isGood rfl o_136 (r_isGood (by have z := nG.1.2.1; constructor <;> omega)) ⟨⟨by decide, by decide⟩, by decide, by decide, rfl, Nat.le_of_ble_eq_true rfl, rfl⟩ (fun x_138 F_138 h_138 => ?_)
                  obtain ⟨h_138, e_138⟩ := h_138; replace e_138 := e_138.symm; subst e_138
                  refine R_ifne (tgt := 145) hX dX12_readsTimed_141 (by decide) (by constructor <;> first | omega | (simp (disch := omega) only [up_k, up_i, up_s]; omega)) (fun c_141 => ?_) (fun c_141 => ?_)
                  · skip
                    have hg0 : tmG F 136 19 = 0 := by omega
                    have h12 := tm_39 h ha hg0
                    have e39 : tmG F 136 39 = F 136 39 := nG.2.2.2.2.1
                    have b39 := nG.1.2.2.2.2.2.2.1
                    refine R_aload_0 hX dX12_readsTimed_145 ?_
                    refine R_getq (v := 154) hX dX12_readsTimed_146 fl_X12_73 o_136 rfl (by omega) ?_
                    refine R_aload_0 hX dX12_readsTimed_149 ?_
                    refine R_geti hX dX12_readsTimed_150 fl_X12_205 o_136 rfl ?_
                    try simp (disch := omega) only [up_i, up_k, up_s]
                    refine R_iload_1 hX dX12_readsTimed_153 ?_
                    refine R_iast hX dX12_readsTimed_154 a_154 ⟨by omega, by omega⟩ ?_
                    refine R_aload_0 hX dX12_readsTimed_155 ?_
                    refine R_getq (v := 155) hX dX12_readsTimed_156 fl_X12_76 o_136 rfl (by omega) ?_
                    refine R_aload_0 hX dX12_readsTimed_159 ?_
                    refine R_geti hX dX12_readsTimed_160 fl_X12_205 o_136 rfl ?_
                    try simp (disch := omega) only [up_i, up_k, up_s]
                    refine R_iload_2 hX dX12_readsTimed_163 ?_
                    refine R_iast hX dX12_readsTimed_164 a_155 ⟨by omega, by omega⟩ ?_
                    refine R_aload_0 hX dX12_readsTimed_165 ?_
                    refine R_getq (v := 156) hX dX12_readsTimed_166 fl_X12_79 o_136 rfl (by omega) ?_
                    refine R_aload_0 hX dX12_readsTimed_169 ?_
                    refine R_geti hX dX12_readsTimed_170 fl_X12_205 o_136 rfl ?_
                    try simp (disch := omega) only [up_i, up_k, up_s]
                    refine R_iload_3 hX dX12_readsTimed_173 ?_
                    refine R_iast hX dX12_readsTimed_174 a_156 ⟨by omega, by omega⟩ ?_
                    refine R_aload_0 hX dX12_readsTimed_175 ?_
                    refine R_getq (v := 157) hX dX12_readsTimed_176 fl_X12_82 o_136 rfl (by omega) ?_
                    refine R_aload_0 hX dX12_readsTimed_179 ?_
                    refine R_geti hX dX12_readsTimed_180 fl_X12_205 o_136 rfl ?_
                    try simp (disch := omega) only [up_i, up_k, up_s]
                    refine R_iload_4 hX dX12_readsTimed_183 ?_
                    refine R_iast hX dX12_readsTimed_185 a_157 ⟨by omega, by omega⟩ ?_
                    refine R_aload_0 hX dX12_readsTimed_186 ?_
                    refine R_dup hX c1_r dX12_readsTimed_187 ?_
                    refine R_geti hX dX12_readsTimed_188 fl_X12_205 o_136 rfl ?_
                    try simp (disch := omega) only [up_i, up_k, up_s]
                    refine R_iconst hX dX12_readsTimed_191 ?_
                    refine R_iadd hX dX12_readsTimed_192 ?_
                    refine R_puti hX dX12_readsTimed_193 fl_X12_205 o_136 rfl ?_
                    exact R_vret hX dX12_readsTimed_196 (by unfold tmS tmP; rw [if_pos hg0])
                  · skip
                    exact R_vret hX dX12_readsTimed_144 (by unfold tmS; rw [if_neg (by omega)])
                · skip
                  refine R_sipush hX dX12_readsTimed_124 (by decide) ?_
                  refine R_goto (tgt := 132) hX dX12_readsTimed_127 (by decide) ?_
                  refine R_v2i hX dX12_readsTimed_132 li_X12_195 mk_X12_readsNumber mi_X12_readsNumber rfl o_136 (r_readsNumber nE.1 (by constructor <;> omega) (by constructor <;> omega)) ⟨⟨by decide, by decide⟩, by decide, by decide, rfl, Nat.le_of_ble_eq_true rfl, rfl⟩ (fun x_132 F_132 h_132 => ?_)
                  obtain ⟨hx, hF⟩ := h_132
                  subst hx
                  subst hF
                  refine R.eq rfl rfl (show _ = tmG F by unfold tmG; first | (rw [if_pos (by omega), if_neg (by omega), if_neg (by omega)]; done) | (rw [if_neg (by omega), if_pos (by omega)]; done) | (rw [if_neg (by omega), if_neg (by omega), if_pos (by omega)]; done) | (rw [if_neg (by omega), if_neg (by omega), if_neg (by omega)]; done) | (exfalso; omega)) ?_
                  refine R_istore_4 hX c1_i dX12_readsTimed_135 ?_
                  refine R_aload_0 hX dX12_readsTimed_137 ?_
                  refine R_v0i hX dX12_readsTimed_138 li_X12_112 mk_X12_isGood mi_X12_isGood rfl o_136 (r_isGood (by have z := nG.1.2.1; constructor <;> omega)) ⟨⟨by decide, by decide⟩, by decide, by decide, rfl, Nat.le_of_ble_eq_true rfl, rfl⟩ (fun x_138 F_138 h_138 => ?_)
                  obtain ⟨h_138, e_138⟩ := h_138; replace e_138 := e_138.symm; subst e_138
                  refine R_ifne (tgt := 145) hX dX12_readsTimed_141 (by decide) (by constructor <;> first | omega | (simp (disch := omega) only [up_k, up_i, up_s]; omega)) (fun c_141 => ?_) (fun c_141 => ?_)
                  · skip
                    have hg0 : tmG F 136 19 = 0 := by omega
                    have h12 := tm_39 h ha hg0
                    have e39 : tmG F 136 39 = F 136 39 := nG.2.2.2.2.1
                    have b39 := nG.1.2.2.2.2.2.2.1
                    refine R_aload_0 hX dX12_readsTimed_145 ?_
                    refine R_getq (v := 154) hX dX12_readsTimed_146 fl_X12_73 o_136 rfl (by omega) ?_
                    refine R_aload_0 hX dX12_readsTimed_149 ?_
                    refine R_geti hX dX12_readsTimed_150 fl_X12_205 o_136 rfl ?_
                    try simp (disch := omega) only [up_i, up_k, up_s]
                    refine R_iload_1 hX dX12_readsTimed_153 ?_
                    refine R_iast hX dX12_readsTimed_154 a_154 ⟨by omega, by omega⟩ ?_
                    refine R_aload_0 hX dX12_readsTimed_155 ?_
                    refine R_getq (v := 155) hX dX12_readsTimed_156 fl_X12_76 o_136 rfl (by omega) ?_
                    refine R_aload_0 hX dX12_readsTimed_159 ?_
                    refine R_geti hX dX12_readsTimed_160 fl_X12_205 o_136 rfl ?_
                    try simp (disch := omega) only [up_i, up_k, up_s]
                    refine R_iload_2 hX dX12_readsTimed_163 ?_
                    refine R_iast hX dX12_readsTimed_164 a_155 ⟨by omega, by omega⟩ ?_
                    refine R_aload_0 hX dX12_readsTimed_165 ?_
                    refine R_getq (v := 156) hX dX12_readsTimed_166 fl_X12_79 o_136 rfl (by omega) ?_
                    refine R_aload_0 hX dX12_readsTimed_169 ?_
                    refine R_geti hX dX12_readsTimed_170 fl_X12_205 o_136 rfl ?_
                    try simp (disch := omega) only [up_i, up_k, up_s]
                    refine R_iload_3 hX dX12_readsTimed_173 ?_
                    refine R_iast hX dX12_readsTimed_174 a_156 ⟨by omega, by omega⟩ ?_
                    refine R_aload_0 hX dX12_readsTimed_175 ?_
                    refine R_getq (v := 157) hX dX12_readsTimed_176 fl_X12_82 o_136 rfl (by omega) ?_
                    refine R_aload_0 hX dX12_readsTimed_179 ?_
                    refine R_geti hX dX12_readsTimed_180 fl_X12_205 o_136 rfl ?_
                    try simp (disch := omega) only [up_i, up_k, up_s]
                    refine R_iload_4 hX dX12_readsTimed_183 ?_
                    refine R_iast hX dX12_readsTimed_185 a_157 ⟨by omega, by omega⟩ ?_
                    refine R_aload_0 hX dX12_readsTimed_186 ?_
                    refine R_dup hX c1_r dX12_readsTimed_187 ?_
                    refine R_geti hX dX12_readsTimed_188 fl_X12_205 o_136 rfl ?_
                    try simp (disch := omega) only [up_i, up_k, up_s]
                    refine R_iconst hX dX12_readsTimed_191 ?_
                    refine R_iadd hX dX12_readsTimed_192 ?_
                    refine R_puti hX dX12_readsTimed_193 fl_X12_205 o_136 rfl ?_
                    exact R_vret hX dX12_readsTimed_196 (by unfold tmS tmP; rw [if_pos hg0])
                  · skip
                    exact R_vret hX dX12_readsTimed_144 (by unfold tmS; rw [if_neg (by omega)])
              · skip
                refine R_bipush hX dX12_readsTimed_114 (by decide) ?_
                refine R_goto (tgt := 132) hX dX12_readsTimed_116 (by decide) ?_
                refine R_v2i hX dX12_readsTimed_132 li_X12_195 mk_X12_readsNumber mi_X12_readsNumber rfl o_136 (r_readsNumber nE.1 (by constructor <;> omega) (by constructor <;> omega)) ⟨⟨by decide, by decide⟩, by decide, by decide, rfl, Nat.le_of_ble_eq_true rfl, rfl⟩ (fun x_132 F_132 h_132 => ?_)
                obtain ⟨hx, hF⟩ := h_132
                subst hx
                subst hF
                refine R.eq rfl rfl (show _ = tmG F by unfold tmG; first | (rw [if_pos (by omega), if_neg (by omega), if_neg (by omega)]; done) | (rw [if_neg (by omega), if_pos (by omega)]; done) | (rw [if_neg (by omega), if_neg (by omega), if_pos (by omega)]; done) | (rw [if_neg (by omega), if_neg (by omega), if_neg (by omega)]; done) | (exfalso; omega)) ?_
                refine R_istore_4 hX c1_i dX12_readsTimed_135 ?_
                refine R_aload_0 hX dX12_readsTimed_137 ?_
                refine R_v0i hX dX12_readsTimed_138 li_X12_112 mk_X12_isGood mi_X12_isGood rfl o_136 (r_isGood (by have z := nG.1.2.1; constructor <;> omega)) ⟨⟨by decide, by decide⟩, by decide, by decide, rfl, Nat.le_of_ble_eq_true rfl, rfl⟩ (fun x_138 F_138 h_138 => ?_)
                obtain ⟨h_138, e_138⟩ := h_138; replace e_138 := e_138.symm; subst e_138
                refine R_ifne (tgt := 145) hX dX12_readsTimed_141 (by decide) (by constructor <;> first | omega | (simp (disch := omega) only [up_k, up_i, up_s]; omega)) (fun c_141 => ?_) (fun c_141 => ?_)
                · skip
                  have hg0 : tmG F 136 19 = 0 := by omega
                  have h12 := tm_39 h ha hg0
                  have e39 : tmG F 136 39 = F 136 39 := nG.2.2.2.2.1
                  have b39 := nG.1.2.2.2.2.2.2.1
                  refine R_aload_0 hX dX12_readsTimed_145 ?_
                  refine R_getq (v := 154) hX dX12_readsTimed_146 fl_X12_73 o_136 rfl (by omega) ?_
                  refine R_aload_0 hX dX12_readsTimed_149 ?_
                  refine R_geti hX dX12_readsTimed_150 fl_X12_205 o_136 rfl ?_
                  try simp (disch := omega) only [up_i, up_k, up_s]
                  refine R_iload_1 hX dX12_readsTimed_153 ?_
                  refine R_iast hX dX12_readsTimed_154 a_154 ⟨by omega, by omega⟩ ?_
                  refine R_aload_0 hX dX12_readsTimed_155 ?_
                  refine R_getq (v := 155) hX dX12_readsTimed_156 fl_X12_76 o_136 rfl (by omega) ?_
                  refine R_aload_0 hX dX12_readsTimed_159 ?_
                  refine R_geti hX dX12_readsTimed_160 fl_X12_205 o_136 rfl ?_
                  try simp (disch := omega) only [up_i, up_k, up_s]
                  refine R_iload_2 hX dX12_readsTimed_163 ?_
                  refine R_iast hX dX12_readsTimed_164 a_155 ⟨by omega, by omega⟩ ?_
                  refine R_aload_0 hX dX12_readsTimed_165 ?_
                  refine R_getq (v := 156) hX dX12_readsTimed_166 fl_X12_79 o_136 rfl (by omega) ?_
                  refine R_aload_0 hX dX12_readsTimed_169 ?_
                  refine R_geti hX dX12_readsTimed_170 fl_X12_205 o_136 rfl ?_
                  try simp (disch := omega) only [up_i, up_k, up_s]
                  refine R_iload_3 hX dX12_readsTimed_173 ?_
                  refine R_iast hX dX12_readsTimed_174 a_156 ⟨by omega, by omega⟩ ?_
                  refine R_aload_0 hX dX12_readsTimed_175 ?_
                  refine R_getq (v := 157) hX dX12_readsTimed_176 fl_X12_82 o_136 rfl (by omega) ?_
                  refine R_aload_0 hX dX12_readsTimed_179 ?_
                  refine R_geti hX dX12_readsTimed_180 fl_X12_205 o_136 rfl ?_
                  try simp (disch := omega) only [up_i, up_k, up_s]
                  refine R_iload_4 hX dX12_readsTimed_183 ?_
                  refine R_iast hX dX12_readsTimed_185 a_157 ⟨by omega, by omega⟩ ?_
                  refine R_aload_0 hX dX12_readsTimed_186 ?_
                  refine R_dup hX c1_r dX12_readsTimed_187 ?_
                  refine R_geti hX dX12_readsTimed_188 fl_X12_205 o_136 rfl ?_
                  try simp (disch := omega) only [up_i, up_k, up_s]
                  refine R_iconst hX dX12_readsTimed_191 ?_
                  refine R_iadd hX dX12_readsTimed_192 ?_
                  refine R_puti hX dX12_readsTimed_193 fl_X12_205 o_136 rfl ?_
                  exact R_vret hX dX12_readsTimed_196 (by unfold tmS tmP; rw [if_pos hg0])
                · skip
                  exact R_vret hX dX12_readsTimed_144 (by unfold tmS; rw [if_neg (by omega)])
            · skip
              refine R_iconst hX dX12_readsTimed_105 ?_
              refine R_goto (tgt := 110) hX dX12_readsTimed_106 (by decide) ?_
              refine R_iload_3 hX dX12_readsTimed_110 ?_
              refine R_ifne (tgt := 119) hX dX12_readsTimed_111 (by decide) (by constructor <;> first | omega | (simp (disch := omega) only [up_k, up_i, up_s]; omega)) (fun c_111 => ?_) (fun c_111 => ?_)
              · skip
                refine R_iload_3 hX dX12_readsTimed_119 ?_
                refine R_iconst hX dX12_readsTimed_120 ?_
                refine R_icmpne (tgt := 130) hX dX12_readsTimed_121 (by decide) (by constructor <;> first | omega | (simp (disch := omega) only [up_k, up_i, up_s]; omega)) (by constructor <;> first | omega | (simp (disch := omega) only [up_k, up_i, up_s]; omega)) (fun c_121 => ?_) (fun c_121 => ?_)
                · skip
                  refine R_bipush hX dX12_readsTimed_130 (by decide) ?_
                  refine R_v2i hX dX12_readsTimed_132 li_X12_195 mk_X12_readsNumber mi_X12_readsNumber rfl o_136 (r_readsNumber nE.1 (by constructor <;> omega) (by constructor <;> omega)) ⟨⟨by decide, by decide⟩, by decide, by decide, rfl, Nat.le_of_ble_eq_true rfl, rfl⟩ (fun x_132 F_132 h_132 => ?_)
                  obtain ⟨hx, hF⟩ := h_132
                  subst hx
                  subst hF
                  refine R.eq rfl rfl (show _ = tmG F by unfold tmG; first | (rw [if_pos (by omega), if_neg (by omega), if_neg (by omega)]; done) | (rw [if_neg (by omega), if_pos (by omega)]; done) | (rw [if_neg (by omega), if_neg (by omega), if_pos (by omega)]; done) | (rw [if_neg (by omega), if_neg (by omega), if_neg (by omega)]; done) | (exfalso; omega)) ?_
                  refine R_istore_4 hX c1_i dX12_readsTimed_135 ?_
                  refine R_aload_0 hX dX12_readsTimed_137 ?_
                  refine R_v0i hX dX12_readsTimed_138 li_X12_112 mk_X12_isGood mi_X12_isGood rfl o_136 (r_isGood (by have z := nG.1.2.1; constructor <;> omega)) ⟨⟨by decide, by decide⟩, by decide, by decide, rfl, Nat.le_of_ble_eq_true rfl, rfl⟩ (fun x_138 F_138 h_138 => ?_)
                  obtain ⟨h_138, e_138⟩ := h_138; replace e_138 := e_138.symm; subst e_138
                  refine R_ifne (tgt := 145) hX dX12_readsTimed_141 (by decide) (by constructor <;> first | omega | (simp (disch := omega) only [up_k, up_i, up_s]; omega)) (fun c_141 => ?_) (fun c_141 => ?_)
                  · skip
                    have hg0 : tmG F 136 19 = 0 := by omega
                    have h12 := tm_39 h ha hg0
                    have e39 : tmG F 136 39 = F 136 39 := nG.2.2.2.2.1
                    have b39 := nG.1.2.2.2.2.2.2.1
                    refine R_aload_0 hX dX12_readsTimed_145 ?_
                    refine R_getq (v := 154) hX dX12_readsTimed_146 fl_X12_73 o_136 rfl (by omega) ?_
                    refine R_aload_0 hX dX12_readsTimed_149 ?_
                    refine R_geti hX dX12_readsTimed_150 fl_X12_205 o_136 rfl ?_
                    try simp (disch := omega) only [up_i, up_k, up_s]
                    refine R_iload_1 hX dX12_readsTimed_153 ?_
                    refine R_iast hX dX12_readsTimed_154 a_154 ⟨by omega, by omega⟩ ?_
                    refine R_aload_0 hX dX12_readsTimed_155 ?_
                    refine R_getq (v := 155) hX dX12_readsTimed_156 fl_X12_76 o_136 rfl (by omega) ?_
                    refine R_aload_0 hX dX12_readsTimed_159 ?_
                    refine R_geti hX dX12_readsTimed_160 fl_X12_205 o_136 rfl ?_
                    try simp (disch := omega) only [up_i, up_k, up_s]
                    refine R_iload_2 hX dX12_readsTimed_163 ?_
                    refine R_iast hX dX12_readsTimed_164 a_155 ⟨by omega, by omega⟩ ?_
                    refine R_aload_0 hX dX12_readsTimed_165 ?_
                    refine R_getq (v := 156) hX dX12_readsTimed_166 fl_X12_79 o_136 rfl (by omega) ?_
                    refine R_aload_0 hX dX12_readsTimed_169 ?_
                    refine R_geti hX dX12_readsTimed_170 fl_X12_205 o_136 rfl ?_
                    try simp (disch := omega) only [up_i, up_k, up_s]
                    refine R_iload_3 hX dX12_readsTimed_173 ?_
                    refine R_iast hX dX12_readsTimed_174 a_156 ⟨by omega, by omega⟩ ?_
                    refine R_aload_0 hX dX12_readsTimed_175 ?_
                    refine R_getq (v := 157) hX dX12_readsTimed_176 fl_X12_82 o_136 rfl (by omega) ?_
                    refine R_aload_0 hX dX12_readsTimed_179 ?_
                    refine R_geti hX dX12_readsTimed_180 fl_X12_205 o_136 rfl ?_
                    try simp (disch := omega) only [up_i, up_k, up_s]
                    refine R_iload_4 hX dX12_readsTimed_183 ?_
                    refine R_iast hX dX12_readsTimed_185 a_157 ⟨by omega, by omega⟩ ?_
                    refine R_aload_0 hX dX12_readsTimed_186 ?_
                    refine R_dup hX c1_r dX12_readsTimed_187 ?_
                    refine R_geti hX dX12_readsTimed_188 fl_X12_205 o_136 rfl ?_
                    try simp (disch := omega) only [up_i, up_k, up_s]
                    refine R_iconst hX dX12_readsTimed_191 ?_
                    refine R_iadd hX dX12_readsTimed_192 ?_
                    refine R_puti hX dX12_readsTimed_193 fl_X12_205 o_136 rfl ?_
                    exact R_vret hX dX12_readsTimed_196 (by unfold tmS tmP; rw [if_pos hg0])
                  · skip
                    exact R_vret hX dX12_readsTimed_144 (by unfold tmS; rw [if_neg (by omega)])
                · skip
                  refine R_sipush hX dX12_readsTimed_124 (by decide) ?_
                  refine R_goto (tgt := 132) hX dX12_readsTimed_127 (by decide) ?_
                  refine R_v2i hX dX12_readsTimed_132 li_X12_195 mk_X12_readsNumber mi_X12_readsNumber rfl o_136 (r_readsNumber nE.1 (by constructor <;> omega) (by constructor <;> omega)) ⟨⟨by decide, by decide⟩, by decide, by decide, rfl, Nat.le_of_ble_eq_true rfl, rfl⟩ (fun x_132 F_132 h_132 => ?_)
                  obtain ⟨hx, hF⟩ := h_132
                  subst hx
                  subst hF
                  refine R.eq rfl rfl (show _ = tmG F by unfold tmG; first | (rw [if_pos (by omega), if_neg (by omega), if_neg (by omega)]; done) | (rw [if_neg (by omega), if_pos (by omega)]; done) | (rw [if_neg (by omega), if_neg (by omega), if_pos (by omega)]; done) | (rw [if_neg (by omega), if_neg (by omega), if_neg (by omega)]; done) | (exfalso; omega)) ?_
                  refine R_istore_4 hX c1_i dX12_readsTimed_135 ?_
                  refine R_aload_0 hX dX12_readsTimed_137 ?_
                  refine R_v0i hX dX12_readsTimed_138 li_X12_112 mk_X12_isGood mi_X12_isGood rfl o_136 (r_isGood (by have z := nG.1.2.1; constructor <;> omega)) ⟨⟨by decide, by decide⟩, by decide, by decide, rfl, Nat.le_of_ble_eq_true rfl, rfl⟩ (fun x_138 F_138 h_138 => ?_)
                  obtain ⟨h_138, e_138⟩ := h_138; replace e_138 := e_138.symm; subst e_138
                  refine R_ifne (tgt := 145) hX dX12_readsTimed_141 (by decide) (by constructor <;> first | omega | (simp (disch := omega) only [up_k, up_i, up_s]; omega)) (fun c_141 => ?_) (fun c_141 => ?_)
                  · skip
                    have hg0 : tmG F 136 19 = 0 := by omega
                    have h12 := tm_39 h ha hg0
                    have e39 : tmG F 136 39 = F 136 39 := nG.2.2.2.2.1
                    have b39 := nG.1.2.2.2.2.2.2.1
                    refine R_aload_0 hX dX12_readsTimed_145 ?_
                    refine R_getq (v := 154) hX dX12_readsTimed_146 fl_X12_73 o_136 rfl (by omega) ?_
                    refine R_aload_0 hX dX12_readsTimed_149 ?_
                    refine R_geti hX dX12_readsTimed_150 fl_X12_205 o_136 rfl ?_
                    try simp (disch := omega) only [up_i, up_k, up_s]
                    refine R_iload_1 hX dX12_readsTimed_153 ?_
                    refine R_iast hX dX12_readsTimed_154 a_154 ⟨by omega, by omega⟩ ?_
                    refine R_aload_0 hX dX12_readsTimed_155 ?_
                    refine R_getq (v := 155) hX dX12_readsTimed_156 fl_X12_76 o_136 rfl (by omega) ?_
                    refine R_aload_0 hX dX12_readsTimed_159 ?_
                    refine R_geti hX dX12_readsTimed_160 fl_X12_205 o_136 rfl ?_
                    try simp (disch := omega) only [up_i, up_k, up_s]
                    refine R_iload_2 hX dX12_readsTimed_163 ?_
                    refine R_iast hX dX12_readsTimed_164 a_155 ⟨by omega, by omega⟩ ?_
                    refine R_aload_0 hX dX12_readsTimed_165 ?_
                    refine R_getq (v := 156) hX dX12_readsTimed_166 fl_X12_79 o_136 rfl (by omega) ?_
                    refine R_aload_0 hX dX12_readsTimed_169 ?_
                    refine R_geti hX dX12_readsTimed_170 fl_X12_205 o_136 rfl ?_
                    try simp (disch := omega) only [up_i, up_k, up_s]
                    refine R_iload_3 hX dX12_readsTimed_173 ?_
                    refine R_iast hX dX12_readsTimed_174 a_156 ⟨by omega, by omega⟩ ?_
                    refine R_aload_0 hX dX12_readsTimed_175 ?_
                    refine R_getq (v := 157) hX dX12_readsTimed_176 fl_X12_82 o_136 rfl (by omega) ?_
                    refine R_aload_0 hX dX12_readsTimed_179 ?_
                    refine R_geti hX dX12_readsTimed_180 fl_X12_205 o_136 rfl ?_
                    try simp (disch := omega) only [up_i, up_k, up_s]
                    refine R_iload_4 hX dX12_readsTimed_183 ?_
                    refine R_iast hX dX12_readsTimed_185 a_157 ⟨by omega, by omega⟩ ?_
                    refine R_aload_0 hX dX12_readsTimed_186 ?_
                    refine R_dup hX c1_r dX12_readsTimed_187 ?_
                    refine R_geti hX dX12_readsTimed_188 fl_X12_205 o_136 rfl ?_
                    try simp (disch := omega) only [up_i, up_k, up_s]
                    refine R_iconst hX dX12_readsTimed_191 ?_
                    refine R_iadd hX dX12_readsTimed_192 ?_
                    refine R_puti hX dX12_readsTimed_193 fl_X12_205 o_136 rfl ?_
                    exact R_vret hX dX12_readsTimed_196 (by unfold tmS tmP; rw [if_pos hg0])
                  · skip
                    exact R_vret hX dX12_readsTimed_144 (by unfold tmS; rw [if_neg (by omega)])
              · skip
                refine R_bipush hX dX12_readsTimed_114 (by decide) ?_
                refine R_goto (tgt := 132) hX dX12_readsTimed_116 (by decide) ?_
                refine R_v2i hX dX12_readsTimed_132 li_X12_195 mk_X12_readsNumber mi_X12_readsNumber rfl o_136 (r_readsNumber nE.1 (by constructor <;> omega) (by constructor <;> omega)) ⟨⟨by decide, by decide⟩, by decide, by decide, rfl, Nat.le_of_ble_eq_true rfl, rfl⟩ (fun x_132 F_132 h_132 => ?_)
                obtain ⟨hx, hF⟩ := h_132
                subst hx
                subst hF
                refine R.eq rfl rfl (show _ = tmG F by unfold tmG; first | (rw [if_pos (by omega), if_neg (by omega), if_neg (by omega)]; done) | (rw [if_neg (by omega), if_pos (by omega)]; done) | (rw [if_neg (by omega), if_neg (by omega), if_pos (by omega)]; done) | (rw [if_neg (by omega), if_neg (by omega), if_neg (by omega)]; done) | (exfalso; omega)) ?_
                refine R_istore_4 hX c1_i dX12_readsTimed_135 ?_
                refine R_aload_0 hX dX12_readsTimed_137 ?_
                refine R_v0i hX dX12_readsTimed_138 li_X12_112 mk_X12_isGood mi_X12_isGood rfl o_136 (r_isGood (by have z := nG.1.2.1; constructor <;> omega)) ⟨⟨by decide, by decide⟩, by decide, by decide, rfl, Nat.le_of_ble_eq_true rfl, rfl⟩ (fun x_138 F_138 h_138 => ?_)
                obtain ⟨h_138, e_138⟩ := h_138; replace e_138 := e_138.symm; subst e_138
                refine R_ifne (tgt := 145) hX dX12_readsTimed_141 (by decide) (by constructor <;> first | omega | (simp (disch := omega) only [up_k, up_i, up_s]; omega)) (fun c_141 => ?_) (fun c_141 => ?_)
                · skip
                  have hg0 : tmG F 136 19 = 0 := by omega
                  have h12 := tm_39 h ha hg0
                  have e39 : tmG F 136 39 = F 136 39 := nG.2.2.2.2.1
                  have b39 := nG.1.2.2.2.2.2.2.1
                  refine R_aload_0 hX dX12_readsTimed_145 ?_
                  refine R_getq (v := 154) hX dX12_readsTimed_146 fl_X12_73 o_136 rfl (by omega) ?_
                  refine R_aload_0 hX dX12_readsTimed_149 ?_
                  refine R_geti hX dX12_readsTimed_150 fl_X12_205 o_136 rfl ?_
                  try simp (disch := omega) only [up_i, up_k, up_s]
                  refine R_iload_1 hX dX12_readsTimed_153 ?_
                  refine R_iast hX dX12_readsTimed_154 a_154 ⟨by omega, by omega⟩ ?_
                  refine R_aload_0 hX dX12_readsTimed_155 ?_
                  refine R_getq (v := 155) hX dX12_readsTimed_156 fl_X12_76 o_136 rfl (by omega) ?_
                  refine R_aload_0 hX dX12_readsTimed_159 ?_
                  refine R_geti hX dX12_readsTimed_160 fl_X12_205 o_136 rfl ?_
                  try simp (disch := omega) only [up_i, up_k, up_s]
                  refine R_iload_2 hX dX12_readsTimed_163 ?_
                  refine R_iast hX dX12_readsTimed_164 a_155 ⟨by omega, by omega⟩ ?_
                  refine R_aload_0 hX dX12_readsTimed_165 ?_
                  refine R_getq (v := 156) hX dX12_readsTimed_166 fl_X12_79 o_136 rfl (by omega) ?_
                  refine R_aload_0 hX dX12_readsTimed_169 ?_
                  refine R_geti hX dX12_readsTimed_170 fl_X12_205 o_136 rfl ?_
                  try simp (disch := omega) only [up_i, up_k, up_s]
                  refine R_iload_3 hX dX12_readsTimed_173 ?_
                  refine R_iast hX dX12_readsTimed_174 a_156 ⟨by omega, by omega⟩ ?_
                  refine R_aload_0 hX dX12_readsTimed_175 ?_
                  refine R_getq (v := 157) hX dX12_readsTimed_176 fl_X12_82 o_136 rfl (by omega) ?_
                  refine R_aload_0 hX dX12_readsTimed_179 ?_
                  refine R_geti hX dX12_readsTimed_180 fl_X12_205 o_136 rfl ?_
                  try simp (disch := omega) only [up_i, up_k, up_s]
                  refine R_iload_4 hX dX12_readsTimed_183 ?_
                  refine R_iast hX dX12_readsTimed_185 a_157 ⟨by omega, by omega⟩ ?_
                  refine R_aload_0 hX dX12_readsTimed_186 ?_
                  refine R_dup hX c1_r dX12_readsTimed_187 ?_
                  refine R_geti hX dX12_readsTimed_188 fl_X12_205 o_136 rfl ?_
                  try simp (disch := omega) only [up_i, up_k, up_s]
                  refine R_iconst hX dX12_readsTimed_191 ?_
                  refine R_iadd hX dX12_readsTimed_192 ?_
                  refine R_puti hX dX12_readsTimed_193 fl_X12_205 o_136 rfl ?_
                  exact R_vret hX dX12_readsTimed_196 (by unfold tmS tmP; rw [if_pos hg0])
                · skip
                  exact R_vret hX dX12_readsTimed_144 (by unfold tmS; rw [if_neg (by omega)])
          · skip
            refine R_iconst hX dX12_readsTimed_86 ?_
            refine R_goto (tgt := 91) hX dX12_readsTimed_87 (by decide) ?_
            refine R_iconst hX dX12_readsTimed_91 ?_
            refine R_v2v hX dX12_readsTimed_92 li_X12_175 mk_X12_must mi_X12_must rfl o_136 (r_must (by have z := (nD.1).2.1; constructor <;> omega) (by have z := (nD.1).2.2.1; constructor <;> omega) (by omega)) ⟨⟨by decide, by decide⟩, by decide, by decide, rfl, Nat.le_of_ble_eq_true rfl, rfl⟩ (fun x_92 F_92 h_92 => ?_)
            subst h_92
            refine R.eq rfl rfl (show _ = mu (stH (tmD F) = 0 ∨ stH (tmD F) = 1 ∨ stH (tmD F) = 4) 1 (tmD F) from mu_iff (by omega)) ?_
            refine R_aload_0 hX dX12_readsTimed_95 ?_
            refine R_v0v hX dX12_readsTimed_96 li_X12_179 mk_X12_scans mi_X12_scans rfl o_136 (r_scans (nD.1.mu (g := stH (tmD F) = 0 ∨ stH (tmD F) = 1 ∨ stH (tmD F) = 4) (c := 1) (by omega)).1 (by have z := (nD.1.mu (g := stH (tmD F) = 0 ∨ stH (tmD F) = 1 ∨ stH (tmD F) = 4) (c := 1) (by omega)).2.1; constructor <;> omega)) ⟨⟨by decide, by decide⟩, by decide, by decide, rfl, Nat.le_of_ble_eq_true rfl, rfl⟩ (fun x_96 F_96 h_96 => ?_)
            subst h_96
            refine R.eq rfl rfl (show _ = tmE F from rfl) ?_
            refine R_aload_0 hX dX12_readsTimed_99 ?_
            refine R_iload_3 hX dX12_readsTimed_100 ?_
            refine R_iconst hX dX12_readsTimed_101 ?_
            refine R_icmpne (tgt := 109) hX dX12_readsTimed_102 (by decide) (by constructor <;> first | omega | (simp (disch := omega) only [up_k, up_i, up_s]; omega)) (by constructor <;> first | omega | (simp (disch := omega) only [up_k, up_i, up_s]; omega)) (fun c_102 => ?_) (fun c_102 => ?_)
            · skip
              refine R_iconst hX dX12_readsTimed_109 ?_
              refine R_iload_3 hX dX12_readsTimed_110 ?_
              refine R_ifne (tgt := 119) hX dX12_readsTimed_111 (by decide) (by constructor <;> first | omega | (simp (disch := omega) only [up_k, up_i, up_s]; omega)) (fun c_111 => ?_) (fun c_111 => ?_)
              · skip
                refine R_iload_3 hX dX12_readsTimed_119 ?_
                refine R_iconst hX dX12_readsTimed_120 ?_
                refine R_icmpne (tgt := 130) hX dX12_readsTimed_121 (by decide) (by constructor <;> first | omega | (simp (disch := omega) only [up_k, up_i, up_s]; omega)) (by constructor <;> first | omega | (simp (disch := omega) only [up_k, up_i, up_s]; omega)) (fun c_121 => ?_) (fun c_121 => ?_)
                · skip
                  refine R_bipush hX dX12_readsTimed_130 (by decide) ?_
                  refine R_v2i hX dX12_readsTimed_132 li_X12_195 mk_X12_readsNumber mi_X12_readsNumber rfl o_136 (r_readsNumber nE.1 (by constructor <;> omega) (by constructor <;> omega)) ⟨⟨by decide, by decide⟩, by decide, by decide, rfl, Nat.le_of_ble_eq_true rfl, rfl⟩ (fun x_132 F_132 h_132 => ?_)
                  obtain ⟨hx, hF⟩ := h_132
                  subst hx
                  subst hF
                  refine R.eq rfl rfl (show _ = tmG F by unfold tmG; first | (rw [if_pos (by omega), if_neg (by omega), if_neg (by omega)]; done) | (rw [if_neg (by omega), if_pos (by omega)]; done) | (rw [if_neg (by omega), if_neg (by omega), if_pos (by omega)]; done) | (rw [if_neg (by omega), if_neg (by omega), if_neg (by omega)]; done) | (exfalso; omega)) ?_
                  refine R_istore_4 hX c1_i dX12_readsTimed_135 ?_
                  refine R_aload_0 hX dX12_readsTimed_137 ?_
                  refine R_v0i hX dX12_readsTimed_138 li_X12_112 mk_X12_isGood mi_X12_isGood rfl o_136 (r_isGood (by have z := nG.1.2.1; constructor <;> omega)) ⟨⟨by decide, by decide⟩, by decide, by decide, rfl, Nat.le_of_ble_eq_true rfl, rfl⟩ (fun x_138 F_138 h_138 => ?_)
                  obtain ⟨h_138, e_138⟩ := h_138; replace e_138 := e_138.symm; subst e_138
                  refine R_ifne (tgt := 145) hX dX12_readsTimed_141 (by decide) (by constructor <;> first | omega | (simp (disch := omega) only [up_k, up_i, up_s]; omega)) (fun c_141 => ?_) (fun c_141 => ?_)
                  · skip
                    have hg0 : tmG F 136 19 = 0 := by omega
                    have h12 := tm_39 h ha hg0
                    have e39 : tmG F 136 39 = F 136 39 := nG.2.2.2.2.1
                    have b39 := nG.1.2.2.2.2.2.2.1
                    refine R_aload_0 hX dX12_readsTimed_145 ?_
                    refine R_getq (v := 154) hX dX12_readsTimed_146 fl_X12_73 o_136 rfl (by omega) ?_
                    refine R_aload_0 hX dX12_readsTimed_149 ?_
                    refine R_geti hX dX12_readsTimed_150 fl_X12_205 o_136 rfl ?_
                    try simp (disch := omega) only [up_i, up_k, up_s]
                    refine R_iload_1 hX dX12_readsTimed_153 ?_
                    refine R_iast hX dX12_readsTimed_154 a_154 ⟨by omega, by omega⟩ ?_
                    refine R_aload_0 hX dX12_readsTimed_155 ?_
                    refine R_getq (v := 155) hX dX12_readsTimed_156 fl_X12_76 o_136 rfl (by omega) ?_
                    refine R_aload_0 hX dX12_readsTimed_159 ?_
                    refine R_geti hX dX12_readsTimed_160 fl_X12_205 o_136 rfl ?_
                    try simp (disch := omega) only [up_i, up_k, up_s]
                    refine R_iload_2 hX dX12_readsTimed_163 ?_
                    refine R_iast hX dX12_readsTimed_164 a_155 ⟨by omega, by omega⟩ ?_
                    refine R_aload_0 hX dX12_readsTimed_165 ?_
                    refine R_getq (v := 156) hX dX12_readsTimed_166 fl_X12_79 o_136 rfl (by omega) ?_
                    refine R_aload_0 hX dX12_readsTimed_169 ?_
                    refine R_geti hX dX12_readsTimed_170 fl_X12_205 o_136 rfl ?_
                    try simp (disch := omega) only [up_i, up_k, up_s]
                    refine R_iload_3 hX dX12_readsTimed_173 ?_
                    refine R_iast hX dX12_readsTimed_174 a_156 ⟨by omega, by omega⟩ ?_
                    refine R_aload_0 hX dX12_readsTimed_175 ?_
                    refine R_getq (v := 157) hX dX12_readsTimed_176 fl_X12_82 o_136 rfl (by omega) ?_
                    refine R_aload_0 hX dX12_readsTimed_179 ?_
                    refine R_geti hX dX12_readsTimed_180 fl_X12_205 o_136 rfl ?_
                    try simp (disch := omega) only [up_i, up_k, up_s]
                    refine R_iload_4 hX dX12_readsTimed_183 ?_
                    refine R_iast hX dX12_readsTimed_185 a_157 ⟨by omega, by omega⟩ ?_
                    refine R_aload_0 hX dX12_readsTimed_186 ?_
                    refine R_dup hX c1_r dX12_readsTimed_187 ?_
                    refine R_geti hX dX12_readsTimed_188 fl_X12_205 o_136 rfl ?_
                    try simp (disch := omega) only [up_i, up_k, up_s]
                    refine R_iconst hX dX12_readsTimed_191 ?_
                    refine R_iadd hX dX12_readsTimed_192 ?_
                    refine R_puti hX dX12_readsTimed_193 fl_X12_205 o_136 rfl ?_
                    exact R_vret hX dX12_readsTimed_196 (by unfold tmS tmP; rw [if_pos hg0])
                  · skip
                    exact R_vret hX dX12_readsTimed_144 (by unfold tmS; rw [if_neg (by omega)])
                · skip
                  refine R_sipush hX dX12_readsTimed_124 (by decide) ?_
                  refine R_goto (tgt := 132) hX dX12_readsTimed_127 (by decide) ?_
                  refine R_v2i hX dX12_readsTimed_132 li_X12_195 mk_X12_readsNumber mi_X12_readsNumber rfl o_136 (r_readsNumber nE.1 (by constructor <;> omega) (by constructor <;> omega)) ⟨⟨by decide, by decide⟩, by decide, by decide, rfl, Nat.le_of_ble_eq_true rfl, rfl⟩ (fun x_132 F_132 h_132 => ?_)
                  obtain ⟨hx, hF⟩ := h_132
                  subst hx
                  subst hF
                  refine R.eq rfl rfl (show _ = tmG F by unfold tmG; first | (rw [if_pos (by omega), if_neg (by omega), if_neg (by omega)]; done) | (rw [if_neg (by omega), if_pos (by omega)]; done) | (rw [if_neg (by omega), if_neg (by omega), if_pos (by omega)]; done) | (rw [if_neg (by omega), if_neg (by omega), if_neg (by omega)]; done) | (exfalso; omega)) ?_
                  refine R_istore_4 hX c1_i dX12_readsTimed_135 ?_
                  refine R_aload_0 hX dX12_readsTimed_137 ?_
                  refine R_v0i hX dX12_readsTimed_138 li_X12_112 mk_X12_isGood mi_X12_isGood rfl o_136 (r_isGood (by have z := nG.1.2.1; constructor <;> omega)) ⟨⟨by decide, by decide⟩, by decide, by decide, rfl, Nat.le_of_ble_eq_true rfl, rfl⟩ (fun x_138 F_138 h_138 => ?_)
                  obtain ⟨h_138, e_138⟩ := h_138; replace e_138 := e_138.symm; subst e_138
                  refine R_ifne (tgt := 145) hX dX12_readsTimed_141 (by decide) (by constructor <;> first | omega | (simp (disch := omega) only [up_k, up_i, up_s]; omega)) (fun c_141 => ?_) (fun c_141 => ?_)
                  · skip
                    have hg0 : tmG F 136 19 = 0 := by omega
                    have h12 := tm_39 h ha hg0
                    have e39 : tmG F 136 39 = F 136 39 := nG.2.2.2.2.1
                    have b39 := nG.1.2.2.2.2.2.2.1
                    refine R_aload_0 hX dX12_readsTimed_145 ?_
                    refine R_getq (v := 154) hX dX12_readsTimed_146 fl_X12_73 o_136 rfl (by omega) ?_
                    refine R_aload_0 hX dX12_readsTimed_149 ?_
                    refine R_geti hX dX12_readsTimed_150 fl_X12_205 o_136 rfl ?_
                    try simp (disch := omega) only [up_i, up_k, up_s]
                    refine R_iload_1 hX dX12_readsTimed_153 ?_
                    refine R_iast hX dX12_readsTimed_154 a_154 ⟨by omega, by omega⟩ ?_
                    refine R_aload_0 hX dX12_readsTimed_155 ?_
                    refine R_getq (v := 155) hX dX12_readsTimed_156 fl_X12_76 o_136 rfl (by omega) ?_
                    refine R_aload_0 hX dX12_readsTimed_159 ?_
                    refine R_geti hX dX12_readsTimed_160 fl_X12_205 o_136 rfl ?_
                    try simp (disch := omega) only [up_i, up_k, up_s]
                    refine R_iload_2 hX dX12_readsTimed_163 ?_
                    refine R_iast hX dX12_readsTimed_164 a_155 ⟨by omega, by omega⟩ ?_
                    refine R_aload_0 hX dX12_readsTimed_165 ?_
                    refine R_getq (v := 156) hX dX12_readsTimed_166 fl_X12_79 o_136 rfl (by omega) ?_
                    refine R_aload_0 hX dX12_readsTimed_169 ?_
                    refine R_geti hX dX12_readsTimed_170 fl_X12_205 o_136 rfl ?_
                    try simp (disch := omega) only [up_i, up_k, up_s]
                    refine R_iload_3 hX dX12_readsTimed_173 ?_
                    refine R_iast hX dX12_readsTimed_174 a_156 ⟨by omega, by omega⟩ ?_
                    refine R_aload_0 hX dX12_readsTimed_175 ?_
                    refine R_getq (v := 157) hX dX12_readsTimed_176 fl_X12_82 o_136 rfl (by omega) ?_
                    refine R_aload_0 hX dX12_readsTimed_179 ?_
                    refine R_geti hX dX12_readsTimed_180 fl_X12_205 o_136 rfl ?_
                    try simp (disch := omega) only [up_i, up_k, up_s]
                    refine R_iload_4 hX dX12_readsTimed_183 ?_
                    refine R_iast hX dX12_readsTimed_185 a_157 ⟨by omega, by omega⟩ ?_
                    refine R_aload_0 hX dX12_readsTimed_186 ?_
                    refine R_dup hX c1_r dX12_readsTimed_187 ?_
                    refine R_geti hX dX12_readsTimed_188 fl_X12_205 o_136 rfl ?_
                    try simp (disch := omega) only [up_i, up_k, up_s]
                    refine R_iconst hX dX12_readsTimed_191 ?_
                    refine R_iadd hX dX12_readsTimed_192 ?_
                    refine R_puti hX dX12_readsTimed_193 fl_X12_205 o_136 rfl ?_
                    exact R_vret hX dX12_readsTimed_196 (by unfold tmS tmP; rw [if_pos hg0])
                  · skip
                    exact R_vret hX dX12_readsTimed_144 (by unfold tmS; rw [if_neg (by omega)])
              · skip
                refine R_bipush hX dX12_readsTimed_114 (by decide) ?_
                refine R_goto (tgt := 132) hX dX12_readsTimed_116 (by decide) ?_
                refine R_v2i hX dX12_readsTimed_132 li_X12_195 mk_X12_readsNumber mi_X12_readsNumber rfl o_136 (r_readsNumber nE.1 (by constructor <;> omega) (by constructor <;> omega)) ⟨⟨by decide, by decide⟩, by decide, by decide, rfl, Nat.le_of_ble_eq_true rfl, rfl⟩ (fun x_132 F_132 h_132 => ?_)
                obtain ⟨hx, hF⟩ := h_132
                subst hx
                subst hF
                refine R.eq rfl rfl (show _ = tmG F by unfold tmG; first | (rw [if_pos (by omega), if_neg (by omega), if_neg (by omega)]; done) | (rw [if_neg (by omega), if_pos (by omega)]; done) | (rw [if_neg (by omega), if_neg (by omega), if_pos (by omega)]; done) | (rw [if_neg (by omega), if_neg (by omega), if_neg (by omega)]; done) | (exfalso; omega)) ?_
                refine R_istore_4 hX c1_i dX12_readsTimed_135 ?_
                refine R_aload_0 hX dX12_readsTimed_137 ?_
                refine R_v0i hX dX12_readsTimed_138 li_X12_112 mk_X12_isGood mi_X12_isGood rfl o_136 (r_isGood (by have z := nG.1.2.1; constructor <;> omega)) ⟨⟨by decide, by decide⟩, by decide, by decide, rfl, Nat.le_of_ble_eq_true rfl, rfl⟩ (fun x_138 F_138 h_138 => ?_)
                obtain ⟨h_138, e_138⟩ := h_138; replace e_138 := e_138.symm; subst e_138
                refine R_ifne (tgt := 145) hX dX12_readsTimed_141 (by decide) (by constructor <;> first | omega | (simp (disch := omega) only [up_k, up_i, up_s]; omega)) (fun c_141 => ?_) (fun c_141 => ?_)
                · skip
                  have hg0 : tmG F 136 19 = 0 := by omega
                  have h12 := tm_39 h ha hg0
                  have e39 : tmG F 136 39 = F 136 39 := nG.2.2.2.2.1
                  have b39 := nG.1.2.2.2.2.2.2.1
                  refine R_aload_0 hX dX12_readsTimed_145 ?_
                  refine R_getq (v := 154) hX dX12_readsTimed_146 fl_X12_73 o_136 rfl (by omega) ?_
                  refine R_aload_0 hX dX12_readsTimed_149 ?_
                  refine R_geti hX dX12_readsTimed_150 fl_X12_205 o_136 rfl ?_
                  try simp (disch := omega) only [up_i, up_k, up_s]
                  refine R_iload_1 hX dX12_readsTimed_153 ?_
                  refine R_iast hX dX12_readsTimed_154 a_154 ⟨by omega, by omega⟩ ?_
                  refine R_aload_0 hX dX12_readsTimed_155 ?_
                  refine R_getq (v := 155) hX dX12_readsTimed_156 fl_X12_76 o_136 rfl (by omega) ?_
                  refine R_aload_0 hX dX12_readsTimed_159 ?_
                  refine R_geti hX dX12_readsTimed_160 fl_X12_205 o_136 rfl ?_
                  try simp (disch := omega) only [up_i, up_k, up_s]
                  refine R_iload_2 hX dX12_readsTimed_163 ?_
                  refine R_iast hX dX12_readsTimed_164 a_155 ⟨by omega, by omega⟩ ?_
                  refine R_aload_0 hX dX12_readsTimed_165 ?_
                  refine R_getq (v := 156) hX dX12_readsTimed_166 fl_X12_79 o_136 rfl (by omega) ?_
                  refine R_aload_0 hX dX12_readsTimed_169 ?_
                  refine R_geti hX dX12_readsTimed_170 fl_X12_205 o_136 rfl ?_
                  try simp (disch := omega) only [up_i, up_k, up_s]
                  refine R_iload_3 hX dX12_readsTimed_173 ?_
                  refine R_iast hX dX12_readsTimed_174 a_156 ⟨by omega, by omega⟩ ?_
                  refine R_aload_0 hX dX12_readsTimed_175 ?_
                  refine R_getq (v := 157) hX dX12_readsTimed_176 fl_X12_82 o_136 rfl (by omega) ?_
                  refine R_aload_0 hX dX12_readsTimed_179 ?_
                  refine R_geti hX dX12_readsTimed_180 fl_X12_205 o_136 rfl ?_
                  try simp (disch := omega) only [up_i, up_k, up_s]
                  refine R_iload_4 hX dX12_readsTimed_183 ?_
                  refine R_iast hX dX12_readsTimed_185 a_157 ⟨by omega, by omega⟩ ?_
                  refine R_aload_0 hX dX12_readsTimed_186 ?_
                  refine R_dup hX c1_r dX12_readsTimed_187 ?_
                  refine R_geti hX dX12_readsTimed_188 fl_X12_205 o_136 rfl ?_
                  try simp (disch := omega) only [up_i, up_k, up_s]
                  refine R_iconst hX dX12_readsTimed_191 ?_
                  refine R_iadd hX dX12_readsTimed_192 ?_
                  refine R_puti hX dX12_readsTimed_193 fl_X12_205 o_136 rfl ?_
                  exact R_vret hX dX12_readsTimed_196 (by unfold tmS tmP; rw [if_pos hg0])
                · skip
                  exact R_vret hX dX12_readsTimed_144 (by unfold tmS; rw [if_neg (by omega)])
            · skip
              refine R_iconst hX dX12_readsTimed_105 ?_
              refine R_goto (tgt := 110) hX dX12_readsTimed_106 (by decide) ?_
              refine R_iload_3 hX dX12_readsTimed_110 ?_
              refine R_ifne (tgt := 119) hX dX12_readsTimed_111 (by decide) (by constructor <;> first | omega | (simp (disch := omega) only [up_k, up_i, up_s]; omega)) (fun c_111 => ?_) (fun c_111 => ?_)
              · skip
                refine R_iload_3 hX dX12_readsTimed_119 ?_
                refine R_iconst hX dX12_readsTimed_120 ?_
                refine R_icmpne (tgt := 130) hX dX12_readsTimed_121 (by decide) (by constructor <;> first | omega | (simp (disch := omega) only [up_k, up_i, up_s]; omega)) (by constructor <;> first | omega | (simp (disch := omega) only [up_k, up_i, up_s]; omega)) (fun c_121 => ?_) (fun c_121 => ?_)
                · skip
                  refine R_bipush hX dX12_readsTimed_130 (by decide) ?_
                  refine R_v2i hX dX12_readsTimed_132 li_X12_195 mk_X12_readsNumber mi_X12_readsNumber rfl o_136 (r_readsNumber nE.1 (by constructor <;> omega) (by constructor <;> omega)) ⟨⟨by decide, by decide⟩, by decide, by decide, rfl, Nat.le_of_ble_eq_true rfl, rfl⟩ (fun x_132 F_132 h_132 => ?_)
                  obtain ⟨hx, hF⟩ := h_132
                  subst hx
                  subst hF
                  refine R.eq rfl rfl (show _ = tmG F by unfold tmG; first | (rw [if_pos (by omega), if_neg (by omega), if_neg (by omega)]; done) | (rw [if_neg (by omega), if_pos (by omega)]; done) | (rw [if_neg (by omega), if_neg (by omega), if_pos (by omega)]; done) | (rw [if_neg (by omega), if_neg (by omega), if_neg (by omega)]; done) | (exfalso; omega)) ?_
                  refine R_istore_4 hX c1_i dX12_readsTimed_135 ?_
                  refine R_aload_0 hX dX12_readsTimed_137 ?_
                  refine R_v0i hX dX12_readsTimed_138 li_X12_112 mk_X12_isGood mi_X12_isGood rfl o_136 (r_isGood (by have z := nG.1.2.1; constructor <;> omega)) ⟨⟨by decide, by decide⟩, by decide, by decide, rfl, Nat.le_of_ble_eq_true rfl, rfl⟩ (fun x_138 F_138 h_138 => ?_)
                  obtain ⟨h_138, e_138⟩ := h_138; replace e_138 := e_138.symm; subst e_138
                  refine R_ifne (tgt := 145) hX dX12_readsTimed_141 (by decide) (by constructor <;> first | omega | (simp (disch := omega) only [up_k, up_i, up_s]; omega)) (fun c_141 => ?_) (fun c_141 => ?_)
                  · skip
                    have hg0 : tmG F 136 19 = 0 := by omega
                    have h12 := tm_39 h ha hg0
                    have e39 : tmG F 136 39 = F 136 39 := nG.2.2.2.2.1
                    have b39 := nG.1.2.2.2.2.2.2.1
                    refine R_aload_0 hX dX12_readsTimed_145 ?_
                    refine R_getq (v := 154) hX dX12_readsTimed_146 fl_X12_73 o_136 rfl (by omega) ?_
                    refine R_aload_0 hX dX12_readsTimed_149 ?_
                    refine R_geti hX dX12_readsTimed_150 fl_X12_205 o_136 rfl ?_
                    try simp (disch := omega) only [up_i, up_k, up_s]
                    refine R_iload_1 hX dX12_readsTimed_153 ?_
                    refine R_iast hX dX12_readsTimed_154 a_154 ⟨by omega, by omega⟩ ?_
                    refine R_aload_0 hX dX12_readsTimed_155 ?_
                    refine R_getq (v := 155) hX dX12_readsTimed_156 fl_X12_76 o_136 rfl (by omega) ?_
                    refine R_aload_0 hX dX12_readsTimed_159 ?_
                    refine R_geti hX dX12_readsTimed_160 fl_X12_205 o_136 rfl ?_
                    try simp (disch := omega) only [up_i, up_k, up_s]
                    refine R_iload_2 hX dX12_readsTimed_163 ?_
                    refine R_iast hX dX12_readsTimed_164 a_155 ⟨by omega, by omega⟩ ?_
                    refine R_aload_0 hX dX12_readsTimed_165 ?_
                    refine R_getq (v := 156) hX dX12_readsTimed_166 fl_X12_79 o_136 rfl (by omega) ?_
                    refine R_aload_0 hX dX12_readsTimed_169 ?_
                    refine R_geti hX dX12_readsTimed_170 fl_X12_205 o_136 rfl ?_
                    try simp (disch := omega) only [up_i, up_k, up_s]
                    refine R_iload_3 hX dX12_readsTimed_173 ?_
                    refine R_iast hX dX12_readsTimed_174 a_156 ⟨by omega, by omega⟩ ?_
                    refine R_aload_0 hX dX12_readsTimed_175 ?_
                    refine R_getq (v := 157) hX dX12_readsTimed_176 fl_X12_82 o_136 rfl (by omega) ?_
                    refine R_aload_0 hX dX12_readsTimed_179 ?_
                    refine R_geti hX dX12_readsTimed_180 fl_X12_205 o_136 rfl ?_
                    try simp (disch := omega) only [up_i, up_k, up_s]
                    refine R_iload_4 hX dX12_readsTimed_183 ?_
                    refine R_iast hX dX12_readsTimed_185 a_157 ⟨by omega, by omega⟩ ?_
                    refine R_aload_0 hX dX12_readsTimed_186 ?_
                    refine R_dup hX c1_r dX12_readsTimed_187 ?_
                    refine R_geti hX dX12_readsTimed_188 fl_X12_205 o_136 rfl ?_
                    try simp (disch := omega) only [up_i, up_k, up_s]
                    refine R_iconst hX dX12_readsTimed_191 ?_
                    refine R_iadd hX dX12_readsTimed_192 ?_
                    refine R_puti hX dX12_readsTimed_193 fl_X12_205 o_136 rfl ?_
                    exact R_vret hX dX12_readsTimed_196 (by unfold tmS tmP; rw [if_pos hg0])
                  · skip
                    exact R_vret hX dX12_readsTimed_144 (by unfold tmS; rw [if_neg (by omega)])
                · skip
                  refine R_sipush hX dX12_readsTimed_124 (by decide) ?_
                  refine R_goto (tgt := 132) hX dX12_readsTimed_127 (by decide) ?_
                  refine R_v2i hX dX12_readsTimed_132 li_X12_195 mk_X12_readsNumber mi_X12_readsNumber rfl o_136 (r_readsNumber nE.1 (by constructor <;> omega) (by constructor <;> omega)) ⟨⟨by decide, by decide⟩, by decide, by decide, rfl, Nat.le_of_ble_eq_true rfl, rfl⟩ (fun x_132 F_132 h_132 => ?_)
                  obtain ⟨hx, hF⟩ := h_132
                  subst hx
                  subst hF
                  refine R.eq rfl rfl (show _ = tmG F by unfold tmG; first | (rw [if_pos (by omega), if_neg (by omega), if_neg (by omega)]; done) | (rw [if_neg (by omega), if_pos (by omega)]; done) | (rw [if_neg (by omega), if_neg (by omega), if_pos (by omega)]; done) | (rw [if_neg (by omega), if_neg (by omega), if_neg (by omega)]; done) | (exfalso; omega)) ?_
                  refine R_istore_4 hX c1_i dX12_readsTimed_135 ?_
                  refine R_aload_0 hX dX12_readsTimed_137 ?_
                  refine R_v0i hX dX12_readsTimed_138 li_X12_112 mk_X12_isGood mi_X12_isGood rfl o_136 (r_isGood (by have z := nG.1.2.1; constructor <;> omega)) ⟨⟨by decide, by decide⟩, by decide, by decide, rfl, Nat.le_of_ble_eq_true rfl, rfl⟩ (fun x_138 F_138 h_138 => ?_)
                  obtain ⟨h_138, e_138⟩ := h_138; replace e_138 := e_138.symm; subst e_138
                  refine R_ifne (tgt := 145) hX dX12_readsTimed_141 (by decide) (by constructor <;> first | omega | (simp (disch := omega) only [up_k, up_i, up_s]; omega)) (fun c_141 => ?_) (fun c_141 => ?_)
                  · skip
                    have hg0 : tmG F 136 19 = 0 := by omega
                    have h12 := tm_39 h ha hg0
                    have e39 : tmG F 136 39 = F 136 39 := nG.2.2.2.2.1
                    have b39 := nG.1.2.2.2.2.2.2.1
                    refine R_aload_0 hX dX12_readsTimed_145 ?_
                    refine R_getq (v := 154) hX dX12_readsTimed_146 fl_X12_73 o_136 rfl (by omega) ?_
                    refine R_aload_0 hX dX12_readsTimed_149 ?_
                    refine R_geti hX dX12_readsTimed_150 fl_X12_205 o_136 rfl ?_
                    try simp (disch := omega) only [up_i, up_k, up_s]
                    refine R_iload_1 hX dX12_readsTimed_153 ?_
                    refine R_iast hX dX12_readsTimed_154 a_154 ⟨by omega, by omega⟩ ?_
                    refine R_aload_0 hX dX12_readsTimed_155 ?_
                    refine R_getq (v := 155) hX dX12_readsTimed_156 fl_X12_76 o_136 rfl (by omega) ?_
                    refine R_aload_0 hX dX12_readsTimed_159 ?_
                    refine R_geti hX dX12_readsTimed_160 fl_X12_205 o_136 rfl ?_
                    try simp (disch := omega) only [up_i, up_k, up_s]
                    refine R_iload_2 hX dX12_readsTimed_163 ?_
                    refine R_iast hX dX12_readsTimed_164 a_155 ⟨by omega, by omega⟩ ?_
                    refine R_aload_0 hX dX12_readsTimed_165 ?_
                    refine R_getq (v := 156) hX dX12_readsTimed_166 fl_X12_79 o_136 rfl (by omega) ?_
                    refine R_aload_0 hX dX12_readsTimed_169 ?_
                    refine R_geti hX dX12_readsTimed_170 fl_X12_205 o_136 rfl ?_
                    try simp (disch := omega) only [up_i, up_k, up_s]
                    refine R_iload_3 hX dX12_readsTimed_173 ?_
                    refine R_iast hX dX12_readsTimed_174 a_156 ⟨by omega, by omega⟩ ?_
                    refine R_aload_0 hX dX12_readsTimed_175 ?_
                    refine R_getq (v := 157) hX dX12_readsTimed_176 fl_X12_82 o_136 rfl (by omega) ?_
                    refine R_aload_0 hX dX12_readsTimed_179 ?_
                    refine R_geti hX dX12_readsTimed_180 fl_X12_205 o_136 rfl ?_
                    try simp (disch := omega) only [up_i, up_k, up_s]
                    refine R_iload_4 hX dX12_readsTimed_183 ?_
                    refine R_iast hX dX12_readsTimed_185 a_157 ⟨by omega, by omega⟩ ?_
                    refine R_aload_0 hX dX12_readsTimed_186 ?_
                    refine R_dup hX c1_r dX12_readsTimed_187 ?_
                    refine R_geti hX dX12_readsTimed_188 fl_X12_205 o_136 rfl ?_
                    try simp (disch := omega) only [up_i, up_k, up_s]
                    refine R_iconst hX dX12_readsTimed_191 ?_
                    refine R_iadd hX dX12_readsTimed_192 ?_
                    refine R_puti hX dX12_readsTimed_193 fl_X12_205 o_136 rfl ?_
                    exact R_vret hX dX12_readsTimed_196 (by unfold tmS tmP; rw [if_pos hg0])
                  · skip
                    exact R_vret hX dX12_readsTimed_144 (by unfold tmS; rw [if_neg (by omega)])
              · skip
                refine R_bipush hX dX12_readsTimed_114 (by decide) ?_
                refine R_goto (tgt := 132) hX dX12_readsTimed_116 (by decide) ?_
                refine R_v2i hX dX12_readsTimed_132 li_X12_195 mk_X12_readsNumber mi_X12_readsNumber rfl o_136 (r_readsNumber nE.1 (by constructor <;> omega) (by constructor <;> omega)) ⟨⟨by decide, by decide⟩, by decide, by decide, rfl, Nat.le_of_ble_eq_true rfl, rfl⟩ (fun x_132 F_132 h_132 => ?_)
                obtain ⟨hx, hF⟩ := h_132
                subst hx
                subst hF
                refine R.eq rfl rfl (show _ = tmG F by unfold tmG; first | (rw [if_pos (by omega), if_neg (by omega), if_neg (by omega)]; done) | (rw [if_neg (by omega), if_pos (by omega)]; done) | (rw [if_neg (by omega), if_neg (by omega), if_pos (by omega)]; done) | (rw [if_neg (by omega), if_neg (by omega), if_neg (by omega)]; done) | (exfalso; omega)) ?_
                refine R_istore_4 hX c1_i dX12_readsTimed_135 ?_
                refine R_aload_0 hX dX12_readsTimed_137 ?_
                refine R_v0i hX dX12_readsTimed_138 li_X12_112 mk_X12_isGood mi_X12_isGood rfl o_136 (r_isGood (by have z := nG.1.2.1; constructor <;> omega)) ⟨⟨by decide, by decide⟩, by decide, by decide, rfl, Nat.le_of_ble_eq_true rfl, rfl⟩ (fun x_138 F_138 h_138 => ?_)
                obtain ⟨h_138, e_138⟩ := h_138; replace e_138 := e_138.symm; subst e_138
                refine R_ifne (tgt := 145) hX dX12_readsTimed_141 (by decide) (by constructor <;> first | omega | (simp (disch := omega) only [up_k, up_i, up_s]; omega)) (fun c_141 => ?_) (fun c_141 => ?_)
                · skip
                  have hg0 : tmG F 136 19 = 0 := by omega
                  have h12 := tm_39 h ha hg0
                  have e39 : tmG F 136 39 = F 136 39 := nG.2.2.2.2.1
                  have b39 := nG.1.2.2.2.2.2.2.1
                  refine R_aload_0 hX dX12_readsTimed_145 ?_
                  refine R_getq (v := 154) hX dX12_readsTimed_146 fl_X12_73 o_136 rfl (by omega) ?_
                  refine R_aload_0 hX dX12_readsTimed_149 ?_
                  refine R_geti hX dX12_readsTimed_150 fl_X12_205 o_136 rfl ?_
                  try simp (disch := omega) only [up_i, up_k, up_s]
                  refine R_iload_1 hX dX12_readsTimed_153 ?_
                  refine R_iast hX dX12_readsTimed_154 a_154 ⟨by omega, by omega⟩ ?_
                  refine R_aload_0 hX dX12_readsTimed_155 ?_
                  refine R_getq (v := 155) hX dX12_readsTimed_156 fl_X12_76 o_136 rfl (by omega) ?_
                  refine R_aload_0 hX dX12_readsTimed_159 ?_
                  refine R_geti hX dX12_readsTimed_160 fl_X12_205 o_136 rfl ?_
                  try simp (disch := omega) only [up_i, up_k, up_s]
                  refine R_iload_2 hX dX12_readsTimed_163 ?_
                  refine R_iast hX dX12_readsTimed_164 a_155 ⟨by omega, by omega⟩ ?_
                  refine R_aload_0 hX dX12_readsTimed_165 ?_
                  refine R_getq (v := 156) hX dX12_readsTimed_166 fl_X12_79 o_136 rfl (by omega) ?_
                  refine R_aload_0 hX dX12_readsTimed_169 ?_
                  refine R_geti hX dX12_readsTimed_170 fl_X12_205 o_136 rfl ?_
                  try simp (disch := omega) only [up_i, up_k, up_s]
                  refine R_iload_3 hX dX12_readsTimed_173 ?_
                  refine R_iast hX dX12_readsTimed_174 a_156 ⟨by omega, by omega⟩ ?_
                  refine R_aload_0 hX dX12_readsTimed_175 ?_
                  refine R_getq (v := 157) hX dX12_readsTimed_176 fl_X12_82 o_136 rfl (by omega) ?_
                  refine R_aload_0 hX dX12_readsTimed_179 ?_
                  refine R_geti hX dX12_readsTimed_180 fl_X12_205 o_136 rfl ?_
                  try simp (disch := omega) only [up_i, up_k, up_s]
                  refine R_iload_4 hX dX12_readsTimed_183 ?_
                  refine R_iast hX dX12_readsTimed_185 a_157 ⟨by omega, by omega⟩ ?_
                  refine R_aload_0 hX dX12_readsTimed_186 ?_
                  refine R_dup hX c1_r dX12_readsTimed_187 ?_
                  refine R_geti hX dX12_readsTimed_188 fl_X12_205 o_136 rfl ?_
                  try simp (disch := omega) only [up_i, up_k, up_s]
                  refine R_iconst hX dX12_readsTimed_191 ?_
                  refine R_iadd hX dX12_readsTimed_192 ?_
                  refine R_puti hX dX12_readsTimed_193 fl_X12_205 o_136 rfl ?_
                  exact R_vret hX dX12_readsTimed_196 (by unfold tmS tmP; rw [if_pos hg0])
                · skip
                  exact R_vret hX dX12_readsTimed_144 (by unfold tmS; rw [if_neg (by omega)])
    · skip
      refine R_iconst hX dX12_readsTimed_53 ?_
      refine R_goto (tgt := 58) hX dX12_readsTimed_54 (by decide) ?_
      refine R_iconst hX dX12_readsTimed_58 ?_
      refine R_v2v hX dX12_readsTimed_59 li_X12_175 mk_X12_must mi_X12_must rfl o_136 (r_must (by have z := (nC.1).2.1; constructor <;> omega) (by have z := (nC.1).2.2.1; constructor <;> omega) (by omega)) ⟨⟨by decide, by decide⟩, by decide, by decide, rfl, Nat.le_of_ble_eq_true rfl, rfl⟩ (fun x_59 F_59 h_59 => ?_)
      subst h_59
      refine R.eq rfl rfl (show _ = mu (¬ hrS (tmC F) = -2) 3 (tmC F) from mu_iff (by omega)) ?_
      refine R_aload_0 hX dX12_readsTimed_62 ?_
      refine R_v0v hX dX12_readsTimed_63 li_X12_179 mk_X12_scans mi_X12_scans rfl o_136 (r_scans (nC.1.mu (g := ¬ hrS (tmC F) = -2) (c := 3) (by omega)).1 (by have z := (nC.1.mu (g := ¬ hrS (tmC F) = -2) (c := 3) (by omega)).2.1; constructor <;> omega)) ⟨⟨by decide, by decide⟩, by decide, by decide, rfl, Nat.le_of_ble_eq_true rfl, rfl⟩ (fun x_63 F_63 h_63 => ?_)
      subst h_63
      refine R.eq rfl rfl (show _ = tmD F from rfl) ?_
      refine R_aload_0 hX dX12_readsTimed_66 ?_
      refine R_v0i hX dX12_readsTimed_67 li_X12_161 mk_X12_settingHere mi_X12_settingHere rfl o_136 (r_settingHere nD.1) ⟨⟨by decide, by decide⟩, by decide, by decide, rfl, Nat.le_of_ble_eq_true rfl, rfl⟩ (fun x_67 F_67 h_67 => ?_)
      obtain ⟨h_67, e_67⟩ := h_67; replace e_67 := e_67.symm; subst e_67
      subst h_67
      refine R_istore_3 hX c1_i dX12_readsTimed_70 ?_
      refine R_aload_0 hX dX12_readsTimed_71 ?_
      refine R_iload_3 hX dX12_readsTimed_72 ?_
      refine R_ifeq (tgt := 86) hX dX12_readsTimed_73 (by decide) (by constructor <;> first | omega | (simp (disch := omega) only [up_k, up_i, up_s]; omega)) (fun c_73 => ?_) (fun c_73 => ?_)
      · skip
        refine R_iconst hX dX12_readsTimed_86 ?_
        refine R_goto (tgt := 91) hX dX12_readsTimed_87 (by decide) ?_
        refine R_iconst hX dX12_readsTimed_91 ?_
        refine R_v2v hX dX12_readsTimed_92 li_X12_175 mk_X12_must mi_X12_must rfl o_136 (r_must (by have z := (nD.1).2.1; constructor <;> omega) (by have z := (nD.1).2.2.1; constructor <;> omega) (by omega)) ⟨⟨by decide, by decide⟩, by decide, by decide, rfl, Nat.le_of_ble_eq_true rfl, rfl⟩ (fun x_92 F_92 h_92 => ?_)
        subst h_92
        refine R.eq rfl rfl (show _ = mu (stH (tmD F) = 0 ∨ stH (tmD F) = 1 ∨ stH (tmD F) = 4) 1 (tmD F) from mu_iff (by omega)) ?_
        refine R_aload_0 hX dX12_readsTimed_95 ?_
        refine R_v0v hX dX12_readsTimed_96 li_X12_179 mk_X12_scans mi_X12_scans rfl o_136 (r_scans (nD.1.mu (g := stH (tmD F) = 0 ∨ stH (tmD F) = 1 ∨ stH (tmD F) = 4) (c := 1) (by omega)).1 (by have z := (nD.1.mu (g := stH (tmD F) = 0 ∨ stH (tmD F) = 1 ∨ stH (tmD F) = 4) (c := 1) (by omega)).2.1; constructor <;> omega)) ⟨⟨by decide, by decide⟩, by decide, by decide, rfl, Nat.le_of_ble_eq_true rfl, rfl⟩ (fun x_96 F_96 h_96 => ?_)
        subst h_96
        refine R.eq rfl rfl (show _ = tmE F from rfl) ?_
        refine R_aload_0 hX dX12_readsTimed_99 ?_
        refine R_iload_3 hX dX12_readsTimed_100 ?_
        refine R_iconst hX dX12_readsTimed_101 ?_
        refine R_icmpne (tgt := 109) hX dX12_readsTimed_102 (by decide) (by constructor <;> first | omega | (simp (disch := omega) only [up_k, up_i, up_s]; omega)) (by constructor <;> first | omega | (simp (disch := omega) only [up_k, up_i, up_s]; omega)) (fun c_102 => ?_) (fun c_102 => ?_)
        · skip
          refine R_iconst hX dX12_readsTimed_109 ?_
          refine R_iload_3 hX dX12_readsTimed_110 ?_
          refine R_ifne (tgt := 119) hX dX12_readsTimed_111 (by decide) (by constructor <;> first | omega | (simp (disch := omega) only [up_k, up_i, up_s]; omega)) (fun c_111 => ?_) (fun c_111 => ?_)
          · skip
            refine R_iload_3 hX dX12_readsTimed_119 ?_
            refine R_iconst hX dX12_readsTimed_120 ?_
            refine R_icmpne (tgt := 130) hX dX12_readsTimed_121 (by decide) (by constructor <;> first | omega | (simp (disch := omega) only [up_k, up_i, up_s]; omega)) (by constructor <;> first | omega | (simp (disch := omega) only [up_k, up_i, up_s]; omega)) (fun c_121 => ?_) (fun c_121 => ?_)
            · skip
              refine R_bipush hX dX12_readsTimed_130 (by decide) ?_
              refine R_v2i hX dX12_readsTimed_132 li_X12_195 mk_X12_readsNumber mi_X12_readsNumber rfl o_136 (r_readsNumber nE.1 (by constructor <;> omega) (by constructor <;> omega)) ⟨⟨by decide, by decide⟩, by decide, by decide, rfl, Nat.le_of_ble_eq_true rfl, rfl⟩ (fun x_132 F_132 h_132 => ?_)
              obtain ⟨hx, hF⟩ := h_132
              subst hx
              subst hF
              refine R.eq rfl rfl (show _ = tmG F by unfold tmG; first | (rw [if_pos (by omega), if_neg (by omega), if_neg (by omega)]; done) | (rw [if_neg (by omega), if_pos (by omega)]; done) | (rw [if_neg (by omega), if_neg (by omega), if_pos (by omega)]; done) | (rw [if_neg (by omega), if_neg (by omega), if_neg (by omega)]; done) | (exfalso; omega)) ?_
              refine R_istore_4 hX c1_i dX12_readsTimed_135 ?_
              refine R_aload_0 hX dX12_readsTimed_137 ?_
              refine R_v0i hX dX12_readsTimed_138 li_X12_112 mk_X12_isGood mi_X12_isGood rfl o_136 (r_isGood (by have z := nG.1.2.1; constructor <;> omega)) ⟨⟨by decide, by decide⟩, by decide, by decide, rfl, Nat.le_of_ble_eq_true rfl, rfl⟩ (fun x_138 F_138 h_138 => ?_)
              obtain ⟨h_138, e_138⟩ := h_138; replace e_138 := e_138.symm; subst e_138
              refine R_ifne (tgt := 145) hX dX12_readsTimed_141 (by decide) (by constructor <;> first | omega | (simp (disch := omega) only [up_k, up_i, up_s]; omega)) (fun c_141 => ?_) (fun c_141 => ?_)
              · skip
                have hg0 : tmG F 136 19 = 0 := by omega
                have h12 := tm_39 h ha hg0
                have e39 : tmG F 136 39 = F 136 39 := nG.2.2.2.2.1
                have b39 := nG.1.2.2.2.2.2.2.1
                refine R_aload_0 hX dX12_readsTimed_145 ?_
                refine R_getq (v := 154) hX dX12_readsTimed_146 fl_X12_73 o_136 rfl (by omega) ?_
                refine R_aload_0 hX dX12_readsTimed_149 ?_
                refine R_geti hX dX12_readsTimed_150 fl_X12_205 o_136 rfl ?_
                try simp (disch := omega) only [up_i, up_k, up_s]
                refine R_iload_1 hX dX12_readsTimed_153 ?_
                refine R_iast hX dX12_readsTimed_154 a_154 ⟨by omega, by omega⟩ ?_
                refine R_aload_0 hX dX12_readsTimed_155 ?_
                refine R_getq (v := 155) hX dX12_readsTimed_156 fl_X12_76 o_136 rfl (by omega) ?_
                refine R_aload_0 hX dX12_readsTimed_159 ?_
                refine R_geti hX dX12_readsTimed_160 fl_X12_205 o_136 rfl ?_
                try simp (disch := omega) only [up_i, up_k, up_s]
                refine R_iload_2 hX dX12_readsTimed_163 ?_
                refine R_iast hX dX12_readsTimed_164 a_155 ⟨by omega, by omega⟩ ?_
                refine R_aload_0 hX dX12_readsTimed_165 ?_
                refine R_getq (v := 156) hX dX12_readsTimed_166 fl_X12_79 o_136 rfl (by omega) ?_
                refine R_aload_0 hX dX12_readsTimed_169 ?_
                refine R_geti hX dX12_readsTimed_170 fl_X12_205 o_136 rfl ?_
                try simp (disch := omega) only [up_i, up_k, up_s]
                refine R_iload_3 hX dX12_readsTimed_173 ?_
                refine R_iast hX dX12_readsTimed_174 a_156 ⟨by omega, by omega⟩ ?_
                refine R_aload_0 hX dX12_readsTimed_175 ?_
                refine R_getq (v := 157) hX dX12_readsTimed_176 fl_X12_82 o_136 rfl (by omega) ?_
                refine R_aload_0 hX dX12_readsTimed_179 ?_
                refine R_geti hX dX12_readsTimed_180 fl_X12_205 o_136 rfl ?_
                try simp (disch := omega) only [up_i, up_k, up_s]
                refine R_iload_4 hX dX12_readsTimed_183 ?_
                refine R_iast hX dX12_readsTimed_185 a_157 ⟨by omega, by omega⟩ ?_
                refine R_aload_0 hX dX12_readsTimed_186 ?_
                refine R_dup hX c1_r dX12_readsTimed_187 ?_
                refine R_geti hX dX12_readsTimed_188 fl_X12_205 o_136 rfl ?_
                try simp (disch := omega) only [up_i, up_k, up_s]
                refine R_iconst hX dX12_readsTimed_191 ?_
                refine R_iadd hX dX12_readsTimed_192 ?_
                refine R_puti hX dX12_readsTimed_193 fl_X12_205 o_136 rfl ?_
                exact R_vret hX dX12_readsTimed_196 (by unfold tmS tmP; rw [if_pos hg0])
              · skip
                exact R_vret hX dX12_readsTimed_144 (by unfold tmS; rw [if_neg (by omega)])
            · skip
              refine R_sipush hX dX12_readsTimed_124 (by decide) ?_
              refine R_goto (tgt := 132) hX dX12_readsTimed_127 (by decide) ?_
              refine R_v2i hX dX12_readsTimed_132 li_X12_195 mk_X12_readsNumber mi_X12_readsNumber rfl o_136 (r_readsNumber nE.1 (by constructor <;> omega) (by constructor <;> omega)) ⟨⟨by decide, by decide⟩, by decide, by decide, rfl, Nat.le_of_ble_eq_true rfl, rfl⟩ (fun x_132 F_132 h_132 => ?_)
              obtain ⟨hx, hF⟩ := h_132
              subst hx
              subst hF
              refine R.eq rfl rfl (show _ = tmG F by unfold tmG; first | (rw [if_pos (by omega), if_neg (by omega), if_neg (by omega)]; done) | (rw [if_neg (by omega), if_pos (by omega)]; done) | (rw [if_neg (by omega), if_neg (by omega), if_pos (by omega)]; done) | (rw [if_neg (by omega), if_neg (by omega), if_neg (by omega)]; done) | (exfalso; omega)) ?_
              refine R_istore_4 hX c1_i dX12_readsTimed_135 ?_
              refine R_aload_0 hX dX12_readsTimed_137 ?_
              refine R_v0i hX dX12_readsTimed_138 li_X12_112 mk_X12_isGood mi_X12_isGood rfl o_136 (r_isGood (by have z := nG.1.2.1; constructor <;> omega)) ⟨⟨by decide, by decide⟩, by decide, by decide, rfl, Nat.le_of_ble_eq_true rfl, rfl⟩ (fun x_138 F_138 h_138 => ?_)
              obtain ⟨h_138, e_138⟩ := h_138; replace e_138 := e_138.symm; subst e_138
              refine R_ifne (tgt := 145) hX dX12_readsTimed_141 (by decide) (by constructor <;> first | omega | (simp (disch := omega) only [up_k, up_i, up_s]; omega)) (fun c_141 => ?_) (fun c_141 => ?_)
              · skip
                have hg0 : tmG F 136 19 = 0 := by omega
                have h12 := tm_39 h ha hg0
                have e39 : tmG F 136 39 = F 136 39 := nG.2.2.2.2.1
                have b39 := nG.1.2.2.2.2.2.2.1
                refine R_aload_0 hX dX12_readsTimed_145 ?_
                refine R_getq (v := 154) hX dX12_readsTimed_146 fl_X12_73 o_136 rfl (by omega) ?_
                refine R_aload_0 hX dX12_readsTimed_149 ?_
                refine R_geti hX dX12_readsTimed_150 fl_X12_205 o_136 rfl ?_
                try simp (disch := omega) only [up_i, up_k, up_s]
                refine R_iload_1 hX dX12_readsTimed_153 ?_
                refine R_iast hX dX12_readsTimed_154 a_154 ⟨by omega, by omega⟩ ?_
                refine R_aload_0 hX dX12_readsTimed_155 ?_
                refine R_getq (v := 155) hX dX12_readsTimed_156 fl_X12_76 o_136 rfl (by omega) ?_
                refine R_aload_0 hX dX12_readsTimed_159 ?_
                refine R_geti hX dX12_readsTimed_160 fl_X12_205 o_136 rfl ?_
                try simp (disch := omega) only [up_i, up_k, up_s]
                refine R_iload_2 hX dX12_readsTimed_163 ?_
                refine R_iast hX dX12_readsTimed_164 a_155 ⟨by omega, by omega⟩ ?_
                refine R_aload_0 hX dX12_readsTimed_165 ?_
                refine R_getq (v := 156) hX dX12_readsTimed_166 fl_X12_79 o_136 rfl (by omega) ?_
                refine R_aload_0 hX dX12_readsTimed_169 ?_
                refine R_geti hX dX12_readsTimed_170 fl_X12_205 o_136 rfl ?_
                try simp (disch := omega) only [up_i, up_k, up_s]
                refine R_iload_3 hX dX12_readsTimed_173 ?_
                refine R_iast hX dX12_readsTimed_174 a_156 ⟨by omega, by omega⟩ ?_
                refine R_aload_0 hX dX12_readsTimed_175 ?_
                refine R_getq (v := 157) hX dX12_readsTimed_176 fl_X12_82 o_136 rfl (by omega) ?_
                refine R_aload_0 hX dX12_readsTimed_179 ?_
                refine R_geti hX dX12_readsTimed_180 fl_X12_205 o_136 rfl ?_
                try simp (disch := omega) only [up_i, up_k, up_s]
                refine R_iload_4 hX dX12_readsTimed_183 ?_
                refine R_iast hX dX12_readsTimed_185 a_157 ⟨by omega, by omega⟩ ?_
                refine R_aload_0 hX dX12_readsTimed_186 ?_
                refine R_dup hX c1_r dX12_readsTimed_187 ?_
                refine R_geti hX dX12_readsTimed_188 fl_X12_205 o_136 rfl ?_
                try simp (disch := omega) only [up_i, up_k, up_s]
                refine R_iconst hX dX12_readsTimed_191 ?_
                refine R_iadd hX dX12_readsTimed_192 ?_
                refine R_puti hX dX12_readsTimed_193 fl_X12_205 o_136 rfl ?_
                exact R_vret hX dX12_readsTimed_196 (by unfold tmS tmP; rw [if_pos hg0])
              · skip
                exact R_vret hX dX12_readsTimed_144 (by unfold tmS; rw [if_neg (by omega)])
          · skip
            refine R_bipush hX dX12_readsTimed_114 (by decide) ?_
            refine R_goto (tgt := 132) hX dX12_readsTimed_116 (by decide) ?_
            refine R_v2i hX dX12_readsTimed_132 li_X12_195 mk_X12_readsNumber mi_X12_readsNumber rfl o_136 (r_readsNumber nE.1 (by constructor <;> omega) (by constructor <;> omega)) ⟨⟨by decide, by decide⟩, by decide, by decide, rfl, Nat.le_of_ble_eq_true rfl, rfl⟩ (fun x_132 F_132 h_132 => ?_)
            obtain ⟨hx, hF⟩ := h_132
            subst hx
            subst hF
            refine R.eq rfl rfl (show _ = tmG F by unfold tmG; first | (rw [if_pos (by omega), if_neg (by omega), if_neg (by omega)]; done) | (rw [if_neg (by omega), if_pos (by omega)]; done) | (rw [if_neg (by omega), if_neg (by omega), if_pos (by omega)]; done) | (rw [if_neg (by omega), if_neg (by omega), if_neg (by omega)]; done) | (exfalso; omega)) ?_
            refine R_istore_4 hX c1_i dX12_readsTimed_135 ?_
            refine R_aload_0 hX dX12_readsTimed_137 ?_
            refine R_v0i hX dX12_readsTimed_138 li_X12_112 mk_X12_isGood mi_X12_isGood rfl o_136 (r_isGood (by have z := nG.1.2.1; constructor <;> omega)) ⟨⟨by decide, by decide⟩, by decide, by decide, rfl, Nat.le_of_ble_eq_true rfl, rfl⟩ (fun x_138 F_138 h_138 => ?_)
            obtain ⟨h_138, e_138⟩ := h_138; replace e_138 := e_138.symm; subst e_138
            refine R_ifne (tgt := 145) hX dX12_readsTimed_141 (by decide) (by constructor <;> first | omega | (simp (disch := omega) only [up_k, up_i, up_s]; omega)) (fun c_141 => ?_) (fun c_141 => ?_)
            · skip
              have hg0 : tmG F 136 19 = 0 := by omega
              have h12 := tm_39 h ha hg0
              have e39 : tmG F 136 39 = F 136 39 := nG.2.2.2.2.1
              have b39 := nG.1.2.2.2.2.2.2.1
              refine R_aload_0 hX dX12_readsTimed_145 ?_
              refine R_getq (v := 154) hX dX12_readsTimed_146 fl_X12_73 o_136 rfl (by omega) ?_
              refine R_aload_0 hX dX12_readsTimed_149 ?_
              refine R_geti hX dX12_readsTimed_150 fl_X12_205 o_136 rfl ?_
              try simp (disch := omega) only [up_i, up_k, up_s]
              refine R_iload_1 hX dX12_readsTimed_153 ?_
              refine R_iast hX dX12_readsTimed_154 a_154 ⟨by omega, by omega⟩ ?_
              refine R_aload_0 hX dX12_readsTimed_155 ?_
              refine R_getq (v := 155) hX dX12_readsTimed_156 fl_X12_76 o_136 rfl (by omega) ?_
              refine R_aload_0 hX dX12_readsTimed_159 ?_
              refine R_geti hX dX12_readsTimed_160 fl_X12_205 o_136 rfl ?_
              try simp (disch := omega) only [up_i, up_k, up_s]
              refine R_iload_2 hX dX12_readsTimed_163 ?_
              refine R_iast hX dX12_readsTimed_164 a_155 ⟨by omega, by omega⟩ ?_
              refine R_aload_0 hX dX12_readsTimed_165 ?_
              refine R_getq (v := 156) hX dX12_readsTimed_166 fl_X12_79 o_136 rfl (by omega) ?_
              refine R_aload_0 hX dX12_readsTimed_169 ?_
              refine R_geti hX dX12_readsTimed_170 fl_X12_205 o_136 rfl ?_
              try simp (disch := omega) only [up_i, up_k, up_s]
              refine R_iload_3 hX dX12_readsTimed_173 ?_
              refine R_iast hX dX12_readsTimed_174 a_156 ⟨by omega, by omega⟩ ?_
              refine R_aload_0 hX dX12_readsTimed_175 ?_
              refine R_getq (v := 157) hX dX12_readsTimed_176 fl_X12_82 o_136 rfl (by omega) ?_
              refine R_aload_0 hX dX12_readsTimed_179 ?_
              refine R_geti hX dX12_readsTimed_180 fl_X12_205 o_136 rfl ?_
              try simp (disch := omega) only [up_i, up_k, up_s]
              refine R_iload_4 hX dX12_readsTimed_183 ?_
              refine R_iast hX dX12_readsTimed_185 a_157 ⟨by omega, by omega⟩ ?_
              refine R_aload_0 hX dX12_readsTimed_186 ?_
              refine R_dup hX c1_r dX12_readsTimed_187 ?_
              refine R_geti hX dX12_readsTimed_188 fl_X12_205 o_136 rfl ?_
              try simp (disch := omega) only [up_i, up_k, up_s]
              refine R_iconst hX dX12_readsTimed_191 ?_
              refine R_iadd hX dX12_readsTimed_192 ?_
              refine R_puti hX dX12_readsTimed_193 fl_X12_205 o_136 rfl ?_
              exact R_vret hX dX12_readsTimed_196 (by unfold tmS tmP; rw [if_pos hg0])
            · skip
              exact R_vret hX dX12_readsTimed_144 (by unfold tmS; rw [if_neg (by omega)])
        · skip
          refine R_iconst hX dX12_readsTimed_105 ?_
          refine R_goto (tgt := 110) hX dX12_readsTimed_106 (by decide) ?_
          refine R_iload_3 hX dX12_readsTimed_110 ?_
          refine R_ifne (tgt := 119) hX dX12_readsTimed_111 (by decide) (by constructor <;> first | omega | (simp (disch := omega) only [up_k, up_i, up_s]; omega)) (fun c_111 => ?_) (fun c_111 => ?_)
          · skip
            refine R_iload_3 hX dX12_readsTimed_119 ?_
            refine R_iconst hX dX12_readsTimed_120 ?_
            refine R_icmpne (tgt := 130) hX dX12_readsTimed_121 (by decide) (by constructor <;> first | omega | (simp (disch := omega) only [up_k, up_i, up_s]; omega)) (by constructor <;> first | omega | (simp (disch := omega) only [up_k, up_i, up_s]; omega)) (fun c_121 => ?_) (fun c_121 => ?_)
            · skip
              refine R_bipush hX dX12_readsTimed_130 (by decide) ?_
              refine R_v2i hX dX12_readsTimed_132 li_X12_195 mk_X12_readsNumber mi_X12_readsNumber rfl o_136 (r_readsNumber nE.1 (by constructor <;> omega) (by constructor <;> omega)) ⟨⟨by decide, by decide⟩, by decide, by decide, rfl, Nat.le_of_ble_eq_true rfl, rfl⟩ (fun x_132 F_132 h_132 => ?_)
              obtain ⟨hx, hF⟩ := h_132
              subst hx
              subst hF
              refine R.eq rfl rfl (show _ = tmG F by unfold tmG; first | (rw [if_pos (by omega), if_neg (by omega), if_neg (by omega)]; done) | (rw [if_neg (by omega), if_pos (by omega)]; done) | (rw [if_neg (by omega), if_neg (by omega), if_pos (by omega)]; done) | (rw [if_neg (by omega), if_neg (by omega), if_neg (by omega)]; done) | (exfalso; omega)) ?_
              refine R_istore_4 hX c1_i dX12_readsTimed_135 ?_
              refine R_aload_0 hX dX12_readsTimed_137 ?_
              refine R_v0i hX dX12_readsTimed_138 li_X12_112 mk_X12_isGood mi_X12_isGood rfl o_136 (r_isGood (by have z := nG.1.2.1; constructor <;> omega)) ⟨⟨by decide, by decide⟩, by decide, by decide, rfl, Nat.le_of_ble_eq_true rfl, rfl⟩ (fun x_138 F_138 h_138 => ?_)
              obtain ⟨h_138, e_138⟩ := h_138; replace e_138 := e_138.symm; subst e_138
              refine R_ifne (tgt := 145) hX dX12_readsTimed_141 (by decide) (by constructor <;> first | omega | (simp (disch := omega) only [up_k, up_i, up_s]; omega)) (fun c_141 => ?_) (fun c_141 => ?_)
              · skip
                have hg0 : tmG F 136 19 = 0 := by omega
                have h12 := tm_39 h ha hg0
                have e39 : tmG F 136 39 = F 136 39 := nG.2.2.2.2.1
                have b39 := nG.1.2.2.2.2.2.2.1
                refine R_aload_0 hX dX12_readsTimed_145 ?_
                refine R_getq (v := 154) hX dX12_readsTimed_146 fl_X12_73 o_136 rfl (by omega) ?_
                refine R_aload_0 hX dX12_readsTimed_149 ?_
                refine R_geti hX dX12_readsTimed_150 fl_X12_205 o_136 rfl ?_
                try simp (disch := omega) only [up_i, up_k, up_s]
                refine R_iload_1 hX dX12_readsTimed_153 ?_
                refine R_iast hX dX12_readsTimed_154 a_154 ⟨by omega, by omega⟩ ?_
                refine R_aload_0 hX dX12_readsTimed_155 ?_
                refine R_getq (v := 155) hX dX12_readsTimed_156 fl_X12_76 o_136 rfl (by omega) ?_
                refine R_aload_0 hX dX12_readsTimed_159 ?_
                refine R_geti hX dX12_readsTimed_160 fl_X12_205 o_136 rfl ?_
                try simp (disch := omega) only [up_i, up_k, up_s]
                refine R_iload_2 hX dX12_readsTimed_163 ?_
                refine R_iast hX dX12_readsTimed_164 a_155 ⟨by omega, by omega⟩ ?_
                refine R_aload_0 hX dX12_readsTimed_165 ?_
                refine R_getq (v := 156) hX dX12_readsTimed_166 fl_X12_79 o_136 rfl (by omega) ?_
                refine R_aload_0 hX dX12_readsTimed_169 ?_
                refine R_geti hX dX12_readsTimed_170 fl_X12_205 o_136 rfl ?_
                try simp (disch := omega) only [up_i, up_k, up_s]
                refine R_iload_3 hX dX12_readsTimed_173 ?_
                refine R_iast hX dX12_readsTimed_174 a_156 ⟨by omega, by omega⟩ ?_
                refine R_aload_0 hX dX12_readsTimed_175 ?_
                refine R_getq (v := 157) hX dX12_readsTimed_176 fl_X12_82 o_136 rfl (by omega) ?_
                refine R_aload_0 hX dX12_readsTimed_179 ?_
                refine R_geti hX dX12_readsTimed_180 fl_X12_205 o_136 rfl ?_
                try simp (disch := omega) only [up_i, up_k, up_s]
                refine R_iload_4 hX dX12_readsTimed_183 ?_
                refine R_iast hX dX12_readsTimed_185 a_157 ⟨by omega, by omega⟩ ?_
                refine R_aload_0 hX dX12_readsTimed_186 ?_
                refine R_dup hX c1_r dX12_readsTimed_187 ?_
                refine R_geti hX dX12_readsTimed_188 fl_X12_205 o_136 rfl ?_
                try simp (disch := omega) only [up_i, up_k, up_s]
                refine R_iconst hX dX12_readsTimed_191 ?_
                refine R_iadd hX dX12_readsTimed_192 ?_
                refine R_puti hX dX12_readsTimed_193 fl_X12_205 o_136 rfl ?_
                exact R_vret hX dX12_readsTimed_196 (by unfold tmS tmP; rw [if_pos hg0])
              · skip
                exact R_vret hX dX12_readsTimed_144 (by unfold tmS; rw [if_neg (by omega)])
            · skip
              refine R_sipush hX dX12_readsTimed_124 (by decide) ?_
              refine R_goto (tgt := 132) hX dX12_readsTimed_127 (by decide) ?_
              refine R_v2i hX dX12_readsTimed_132 li_X12_195 mk_X12_readsNumber mi_X12_readsNumber rfl o_136 (r_readsNumber nE.1 (by constructor <;> omega) (by constructor <;> omega)) ⟨⟨by decide, by decide⟩, by decide, by decide, rfl, Nat.le_of_ble_eq_true rfl, rfl⟩ (fun x_132 F_132 h_132 => ?_)
              obtain ⟨hx, hF⟩ := h_132
              subst hx
              subst hF
              refine R.eq rfl rfl (show _ = tmG F by unfold tmG; first | (rw [if_pos (by omega), if_neg (by omega), if_neg (by omega)]; done) | (rw [if_neg (by omega), if_pos (by omega)]; done) | (rw [if_neg (by omega), if_neg (by omega), if_pos (by omega)]; done) | (rw [if_neg (by omega), if_neg (by omega), if_neg (by omega)]; done) | (exfalso; omega)) ?_
              refine R_istore_4 hX c1_i dX12_readsTimed_135 ?_
              refine R_aload_0 hX dX12_readsTimed_137 ?_
              refine R_v0i hX dX12_readsTimed_138 li_X12_112 mk_X12_isGood mi_X12_isGood rfl o_136 (r_isGood (by have z := nG.1.2.1; constructor <;> omega)) ⟨⟨by decide, by decide⟩, by decide, by decide, rfl, Nat.le_of_ble_eq_true rfl, rfl⟩ (fun x_138 F_138 h_138 => ?_)
              obtain ⟨h_138, e_138⟩ := h_138; replace e_138 := e_138.symm; subst e_138
              refine R_ifne (tgt := 145) hX dX12_readsTimed_141 (by decide) (by constructor <;> first | omega | (simp (disch := omega) only [up_k, up_i, up_s]; omega)) (fun c_141 => ?_) (fun c_141 => ?_)
              · skip
                have hg0 : tmG F 136 19 = 0 := by omega
                have h12 := tm_39 h ha hg0
                have e39 : tmG F 136 39 = F 136 39 := nG.2.2.2.2.1
                have b39 := nG.1.2.2.2.2.2.2.1
                refine R_aload_0 hX dX12_readsTimed_145 ?_
                refine R_getq (v := 154) hX dX12_readsTimed_146 fl_X12_73 o_136 rfl (by omega) ?_
                refine R_aload_0 hX dX12_readsTimed_149 ?_
                refine R_geti hX dX12_readsTimed_150 fl_X12_205 o_136 rfl ?_
                try simp (disch := omega) only [up_i, up_k, up_s]
                refine R_iload_1 hX dX12_readsTimed_153 ?_
                refine R_iast hX dX12_readsTimed_154 a_154 ⟨by omega, by omega⟩ ?_
                refine R_aload_0 hX dX12_readsTimed_155 ?_
                refine R_getq (v := 155) hX dX12_readsTimed_156 fl_X12_76 o_136 rfl (by omega) ?_
                refine R_aload_0 hX dX12_readsTimed_159 ?_
                refine R_geti hX dX12_readsTimed_160 fl_X12_205 o_136 rfl ?_
                try simp (disch := omega) only [up_i, up_k, up_s]
                refine R_iload_2 hX dX12_readsTimed_163 ?_
                refine R_iast hX dX12_readsTimed_164 a_155 ⟨by omega, by omega⟩ ?_
                refine R_aload_0 hX dX12_readsTimed_165 ?_
                refine R_getq (v := 156) hX dX12_readsTimed_166 fl_X12_79 o_136 rfl (by omega) ?_
                refine R_aload_0 hX dX12_readsTimed_169 ?_
                refine R_geti hX dX12_readsTimed_170 fl_X12_205 o_136 rfl ?_
                try simp (disch := omega) only [up_i, up_k, up_s]
                refine R_iload_3 hX dX12_readsTimed_173 ?_
                refine R_iast hX dX12_readsTimed_174 a_156 ⟨by omega, by omega⟩ ?_
                refine R_aload_0 hX dX12_readsTimed_175 ?_
                refine R_getq (v := 157) hX dX12_readsTimed_176 fl_X12_82 o_136 rfl (by omega) ?_
                refine R_aload_0 hX dX12_readsTimed_179 ?_
                refine R_geti hX dX12_readsTimed_180 fl_X12_205 o_136 rfl ?_
                try simp (disch := omega) only [up_i, up_k, up_s]
                refine R_iload_4 hX dX12_readsTimed_183 ?_
                refine R_iast hX dX12_readsTimed_185 a_157 ⟨by omega, by omega⟩ ?_
                refine R_aload_0 hX dX12_readsTimed_186 ?_
                refine R_dup hX c1_r dX12_readsTimed_187 ?_
                refine R_geti hX dX12_readsTimed_188 fl_X12_205 o_136 rfl ?_
                try simp (disch := omega) only [up_i, up_k, up_s]
                refine R_iconst hX dX12_readsTimed_191 ?_
                refine R_iadd hX dX12_readsTimed_192 ?_
                refine R_puti hX dX12_readsTimed_193 fl_X12_205 o_136 rfl ?_
                exact R_vret hX dX12_readsTimed_196 (by unfold tmS tmP; rw [if_pos hg0])
              · skip
                exact R_vret hX dX12_readsTimed_144 (by unfold tmS; rw [if_neg (by omega)])
          · skip
            refine R_bipush hX dX12_readsTimed_114 (by decide) ?_
            refine R_goto (tgt := 132) hX dX12_readsTimed_116 (by decide) ?_
            refine R_v2i hX dX12_readsTimed_132 li_X12_195 mk_X12_readsNumber mi_X12_readsNumber rfl o_136 (r_readsNumber nE.1 (by constructor <;> omega) (by constructor <;> omega)) ⟨⟨by decide, by decide⟩, by decide, by decide, rfl, Nat.le_of_ble_eq_true rfl, rfl⟩ (fun x_132 F_132 h_132 => ?_)
            obtain ⟨hx, hF⟩ := h_132
            subst hx
            subst hF
            refine R.eq rfl rfl (show _ = tmG F by unfold tmG; first | (rw [if_pos (by omega), if_neg (by omega), if_neg (by omega)]; done) | (rw [if_neg (by omega), if_pos (by omega)]; done) | (rw [if_neg (by omega), if_neg (by omega), if_pos (by omega)]; done) | (rw [if_neg (by omega), if_neg (by omega), if_neg (by omega)]; done) | (exfalso; omega)) ?_
            refine R_istore_4 hX c1_i dX12_readsTimed_135 ?_
            refine R_aload_0 hX dX12_readsTimed_137 ?_
            refine R_v0i hX dX12_readsTimed_138 li_X12_112 mk_X12_isGood mi_X12_isGood rfl o_136 (r_isGood (by have z := nG.1.2.1; constructor <;> omega)) ⟨⟨by decide, by decide⟩, by decide, by decide, rfl, Nat.le_of_ble_eq_true rfl, rfl⟩ (fun x_138 F_138 h_138 => ?_)
            obtain ⟨h_138, e_138⟩ := h_138; replace e_138 := e_138.symm; subst e_138
            refine R_ifne (tgt := 145) hX dX12_readsTimed_141 (by decide) (by constructor <;> first | omega | (simp (disch := omega) only [up_k, up_i, up_s]; omega)) (fun c_141 => ?_) (fun c_141 => ?_)
            · skip
              have hg0 : tmG F 136 19 = 0 := by omega
              have h12 := tm_39 h ha hg0
              have e39 : tmG F 136 39 = F 136 39 := nG.2.2.2.2.1
              have b39 := nG.1.2.2.2.2.2.2.1
              refine R_aload_0 hX dX12_readsTimed_145 ?_
              refine R_getq (v := 154) hX dX12_readsTimed_146 fl_X12_73 o_136 rfl (by omega) ?_
              refine R_aload_0 hX dX12_readsTimed_149 ?_
              refine R_geti hX dX12_readsTimed_150 fl_X12_205 o_136 rfl ?_
              try simp (disch := omega) only [up_i, up_k, up_s]
              refine R_iload_1 hX dX12_readsTimed_153 ?_
              refine R_iast hX dX12_readsTimed_154 a_154 ⟨by omega, by omega⟩ ?_
              refine R_aload_0 hX dX12_readsTimed_155 ?_
              refine R_getq (v := 155) hX dX12_readsTimed_156 fl_X12_76 o_136 rfl (by omega) ?_
              refine R_aload_0 hX dX12_readsTimed_159 ?_
              refine R_geti hX dX12_readsTimed_160 fl_X12_205 o_136 rfl ?_
              try simp (disch := omega) only [up_i, up_k, up_s]
              refine R_iload_2 hX dX12_readsTimed_163 ?_
              refine R_iast hX dX12_readsTimed_164 a_155 ⟨by omega, by omega⟩ ?_
              refine R_aload_0 hX dX12_readsTimed_165 ?_
              refine R_getq (v := 156) hX dX12_readsTimed_166 fl_X12_79 o_136 rfl (by omega) ?_
              refine R_aload_0 hX dX12_readsTimed_169 ?_
              refine R_geti hX dX12_readsTimed_170 fl_X12_205 o_136 rfl ?_
              try simp (disch := omega) only [up_i, up_k, up_s]
              refine R_iload_3 hX dX12_readsTimed_173 ?_
              refine R_iast hX dX12_readsTimed_174 a_156 ⟨by omega, by omega⟩ ?_
              refine R_aload_0 hX dX12_readsTimed_175 ?_
              refine R_getq (v := 157) hX dX12_readsTimed_176 fl_X12_82 o_136 rfl (by omega) ?_
              refine R_aload_0 hX dX12_readsTimed_179 ?_
              refine R_geti hX dX12_readsTimed_180 fl_X12_205 o_136 rfl ?_
              try simp (disch := omega) only [up_i, up_k, up_s]
              refine R_iload_4 hX dX12_readsTimed_183 ?_
              refine R_iast hX dX12_readsTimed_185 a_157 ⟨by omega, by omega⟩ ?_
              refine R_aload_0 hX dX12_readsTimed_186 ?_
              refine R_dup hX c1_r dX12_readsTimed_187 ?_
              refine R_geti hX dX12_readsTimed_188 fl_X12_205 o_136 rfl ?_
              try simp (disch := omega) only [up_i, up_k, up_s]
              refine R_iconst hX dX12_readsTimed_191 ?_
              refine R_iadd hX dX12_readsTimed_192 ?_
              refine R_puti hX dX12_readsTimed_193 fl_X12_205 o_136 rfl ?_
              exact R_vret hX dX12_readsTimed_196 (by unfold tmS tmP; rw [if_pos hg0])
            · skip
              exact R_vret hX dX12_readsTimed_144 (by unfold tmS; rw [if_neg (by omega)])
      · skip
        refine R_iload_3 hX dX12_readsTimed_76 ?_
        refine R_iconst hX dX12_readsTimed_77 ?_
        refine R_icmpeq (tgt := 86) hX dX12_readsTimed_78 (by decide) (by constructor <;> first | omega | (simp (disch := omega) only [up_k, up_i, up_s]; omega)) (by constructor <;> first | omega | (simp (disch := omega) only [up_k, up_i, up_s]; omega)) (fun c_78 => ?_) (fun c_78 => ?_)
        · skip
          refine R_iconst hX dX12_readsTimed_86 ?_
          refine R_goto (tgt := 91) hX dX12_readsTimed_87 (by decide) ?_
          refine R_iconst hX dX12_readsTimed_91 ?_
          refine R_v2v hX dX12_readsTimed_92 li_X12_175 mk_X12_must mi_X12_must rfl o_136 (r_must (by have z := (nD.1).2.1; constructor <;> omega) (by have z := (nD.1).2.2.1; constructor <;> omega) (by omega)) ⟨⟨by decide, by decide⟩, by decide, by decide, rfl, Nat.le_of_ble_eq_true rfl, rfl⟩ (fun x_92 F_92 h_92 => ?_)
          subst h_92
          refine R.eq rfl rfl (show _ = mu (stH (tmD F) = 0 ∨ stH (tmD F) = 1 ∨ stH (tmD F) = 4) 1 (tmD F) from mu_iff (by omega)) ?_
          refine R_aload_0 hX dX12_readsTimed_95 ?_
          refine R_v0v hX dX12_readsTimed_96 li_X12_179 mk_X12_scans mi_X12_scans rfl o_136 (r_scans (nD.1.mu (g := stH (tmD F) = 0 ∨ stH (tmD F) = 1 ∨ stH (tmD F) = 4) (c := 1) (by omega)).1 (by have z := (nD.1.mu (g := stH (tmD F) = 0 ∨ stH (tmD F) = 1 ∨ stH (tmD F) = 4) (c := 1) (by omega)).2.1; constructor <;> omega)) ⟨⟨by decide, by decide⟩, by decide, by decide, rfl, Nat.le_of_ble_eq_true rfl, rfl⟩ (fun x_96 F_96 h_96 => ?_)
          subst h_96
          refine R.eq rfl rfl (show _ = tmE F from rfl) ?_
          refine R_aload_0 hX dX12_readsTimed_99 ?_
          refine R_iload_3 hX dX12_readsTimed_100 ?_
          refine R_iconst hX dX12_readsTimed_101 ?_
          refine R_icmpne (tgt := 109) hX dX12_readsTimed_102 (by decide) (by constructor <;> first | omega | (simp (disch := omega) only [up_k, up_i, up_s]; omega)) (by constructor <;> first | omega | (simp (disch := omega) only [up_k, up_i, up_s]; omega)) (fun c_102 => ?_) (fun c_102 => ?_)
          · skip
            refine R_iconst hX dX12_readsTimed_109 ?_
            refine R_iload_3 hX dX12_readsTimed_110 ?_
            refine R_ifne (tgt := 119) hX dX12_readsTimed_111 (by decide) (by constructor <;> first | omega | (simp (disch := omega) only [up_k, up_i, up_s]; omega)) (fun c_111 => ?_) (fun c_111 => ?_)
            · skip
              refine R_iload_3 hX dX12_readsTimed_119 ?_
              refine R_iconst hX dX12_readsTimed_120 ?_
              refine R_icmpne (tgt := 130) hX dX12_readsTimed_121 (by decide) (by constructor <;> first | omega | (simp (disch := omega) only [up_k, up_i, up_s]; omega)) (by constructor <;> first | omega | (simp (disch := omega) only [up_k, up_i, up_s]; omega)) (fun c_121 => ?_) (fun c_121 => ?_)
              · skip
                refine R_bipush hX dX12_readsTimed_130 (by decide) ?_
                refine R_v2i hX dX12_readsTimed_132 li_X12_195 mk_X12_readsNumber mi_X12_readsNumber rfl o_136 (r_readsNumber nE.1 (by constructor <;> omega) (by constructor <;> omega)) ⟨⟨by decide, by decide⟩, by decide, by decide, rfl, Nat.le_of_ble_eq_true rfl, rfl⟩ (fun x_132 F_132 h_132 => ?_)
                obtain ⟨hx, hF⟩ := h_132
                subst hx
                subst hF
                refine R.eq rfl rfl (show _ = tmG F by unfold tmG; first | (rw [if_pos (by omega), if_neg (by omega), if_neg (by omega)]; done) | (rw [if_neg (by omega), if_pos (by omega)]; done) | (rw [if_neg (by omega), if_neg (by omega), if_pos (by omega)]; done) | (rw [if_neg (by omega), if_neg (by omega), if_neg (by omega)]; done) | (exfalso; omega)) ?_
                refine R_istore_4 hX c1_i dX12_readsTimed_135 ?_
                refine R_aload_0 hX dX12_readsTimed_137 ?_
                refine R_v0i hX dX12_readsTimed_138 li_X12_112 mk_X12_isGood mi_X12_isGood rfl o_136 (r_isGood (by have z := nG.1.2.1; constructor <;> omega)) ⟨⟨by decide, by decide⟩, by decide, by decide, rfl, Nat.le_of_ble_eq_true rfl, rfl⟩ (fun x_138 F_138 h_138 => ?_)
                obtain ⟨h_138, e_138⟩ := h_138; replace e_138 := e_138.symm; subst e_138
                refine R_ifne (tgt := 145) hX dX12_readsTimed_141 (by decide) (by constructor <;> first | omega | (simp (disch := omega) only [up_k, up_i, up_s]; omega)) (fun c_141 => ?_) (fun c_141 => ?_)
                · skip
                  have hg0 : tmG F 136 19 = 0 := by omega
                  have h12 := tm_39 h ha hg0
                  have e39 : tmG F 136 39 = F 136 39 := nG.2.2.2.2.1
                  have b39 := nG.1.2.2.2.2.2.2.1
                  refine R_aload_0 hX dX12_readsTimed_145 ?_
                  refine R_getq (v := 154) hX dX12_readsTimed_146 fl_X12_73 o_136 rfl (by omega) ?_
                  refine R_aload_0 hX dX12_readsTimed_149 ?_
                  refine R_geti hX dX12_readsTimed_150 fl_X12_205 o_136 rfl ?_
                  try simp (disch := omega) only [up_i, up_k, up_s]
                  refine R_iload_1 hX dX12_readsTimed_153 ?_
                  refine R_iast hX dX12_readsTimed_154 a_154 ⟨by omega, by omega⟩ ?_
                  refine R_aload_0 hX dX12_readsTimed_155 ?_
                  refine R_getq (v := 155) hX dX12_readsTimed_156 fl_X12_76 o_136 rfl (by omega) ?_
                  refine R_aload_0 hX dX12_readsTimed_159 ?_
                  refine R_geti hX dX12_readsTimed_160 fl_X12_205 o_136 rfl ?_
                  try simp (disch := omega) only [up_i, up_k, up_s]
                  refine R_iload_2 hX dX12_readsTimed_163 ?_
                  refine R_iast hX dX12_readsTimed_164 a_155 ⟨by omega, by omega⟩ ?_
                  refine R_aload_0 hX dX12_readsTimed_165 ?_
                  refine R_getq (v := 156) hX dX12_readsTimed_166 fl_X12_79 o_136 rfl (by omega) ?_
                  refine R_aload_0 hX dX12_readsTimed_169 ?_
                  refine R_geti hX dX12_readsTimed_170 fl_X12_205 o_136 rfl ?_
                  try simp (disch := omega) only [up_i, up_k, up_s]
                  refine R_iload_3 hX dX12_readsTimed_173 ?_
                  refine R_iast hX dX12_readsTimed_174 a_156 ⟨by omega, by omega⟩ ?_
                  refine R_aload_0 hX dX12_readsTimed_175 ?_
                  refine R_getq (v := 157) hX dX12_readsTimed_176 fl_X12_82 o_136 rfl (by omega) ?_
                  refine R_aload_0 hX dX12_readsTimed_179 ?_
                  refine R_geti hX dX12_readsTimed_180 fl_X12_205 o_136 rfl ?_
                  try simp (disch := omega) only [up_i, up_k, up_s]
                  refine R_iload_4 hX dX12_readsTimed_183 ?_
                  refine R_iast hX dX12_readsTimed_185 a_157 ⟨by omega, by omega⟩ ?_
                  refine R_aload_0 hX dX12_readsTimed_186 ?_
                  refine R_dup hX c1_r dX12_readsTimed_187 ?_
                  refine R_geti hX dX12_readsTimed_188 fl_X12_205 o_136 rfl ?_
                  try simp (disch := omega) only [up_i, up_k, up_s]
                  refine R_iconst hX dX12_readsTimed_191 ?_
                  refine R_iadd hX dX12_readsTimed_192 ?_
                  refine R_puti hX dX12_readsTimed_193 fl_X12_205 o_136 rfl ?_
                  exact R_vret hX dX12_readsTimed_196 (by unfold tmS tmP; rw [if_pos hg0])
                · skip
                  exact R_vret hX dX12_readsTimed_144 (by unfold tmS; rw [if_neg (by omega)])
              · skip
                refine R_sipush hX dX12_readsTimed_124 (by decide) ?_
                refine R_goto (tgt := 132) hX dX12_readsTimed_127 (by decide) ?_
                refine R_v2i hX dX12_readsTimed_132 li_X12_195 mk_X12_readsNumber mi_X12_readsNumber rfl o_136 (r_readsNumber nE.1 (by constructor <;> omega) (by constructor <;> omega)) ⟨⟨by decide, by decide⟩, by decide, by decide, rfl, Nat.le_of_ble_eq_true rfl, rfl⟩ (fun x_132 F_132 h_132 => ?_)
                obtain ⟨hx, hF⟩ := h_132
                subst hx
                subst hF
                refine R.eq rfl rfl (show _ = tmG F by unfold tmG; first | (rw [if_pos (by omega), if_neg (by omega), if_neg (by omega)]; done) | (rw [if_neg (by omega), if_pos (by omega)]; done) | (rw [if_neg (by omega), if_neg (by omega), if_pos (by omega)]; done) | (rw [if_neg (by omega), if_neg (by omega), if_neg (by omega)]; done) | (exfalso; omega)) ?_
                refine R_istore_4 hX c1_i dX12_readsTimed_135 ?_
                refine R_aload_0 hX dX12_readsTimed_137 ?_
                refine R_v0i hX dX12_readsTimed_138 li_X12_112 mk_X12_isGood mi_X12_isGood rfl o_136 (r_isGood (by have z := nG.1.2.1; constructor <;> omega)) ⟨⟨by decide, by decide⟩, by decide, by decide, rfl, Nat.le_of_ble_eq_true rfl, rfl⟩ (fun x_138 F_138 h_138 => ?_)
                obtain ⟨h_138, e_138⟩ := h_138; replace e_138 := e_138.symm; subst e_138
                refine R_ifne (tgt := 145) hX dX12_readsTimed_141 (by decide) (by constructor <;> first | omega | (simp (disch := omega) only [up_k, up_i, up_s]; omega)) (fun c_141 => ?_) (fun c_141 => ?_)
                · skip
                  have hg0 : tmG F 136 19 = 0 := by omega
                  have h12 := tm_39 h ha hg0
                  have e39 : tmG F 136 39 = F 136 39 := nG.2.2.2.2.1
                  have b39 := nG.1.2.2.2.2.2.2.1
                  refine R_aload_0 hX dX12_readsTimed_145 ?_
                  refine R_getq (v := 154) hX dX12_readsTimed_146 fl_X12_73 o_136 rfl (by omega) ?_
                  refine R_aload_0 hX dX12_readsTimed_149 ?_
                  refine R_geti hX dX12_readsTimed_150 fl_X12_205 o_136 rfl ?_
                  try simp (disch := omega) only [up_i, up_k, up_s]
                  refine R_iload_1 hX dX12_readsTimed_153 ?_
                  refine R_iast hX dX12_readsTimed_154 a_154 ⟨by omega, by omega⟩ ?_
                  refine R_aload_0 hX dX12_readsTimed_155 ?_
                  refine R_getq (v := 155) hX dX12_readsTimed_156 fl_X12_76 o_136 rfl (by omega) ?_
                  refine R_aload_0 hX dX12_readsTimed_159 ?_
                  refine R_geti hX dX12_readsTimed_160 fl_X12_205 o_136 rfl ?_
                  try simp (disch := omega) only [up_i, up_k, up_s]
                  refine R_iload_2 hX dX12_readsTimed_163 ?_
                  refine R_iast hX dX12_readsTimed_164 a_155 ⟨by omega, by omega⟩ ?_
                  refine R_aload_0 hX dX12_readsTimed_165 ?_
                  refine R_getq (v := 156) hX dX12_readsTimed_166 fl_X12_79 o_136 rfl (by omega) ?_
                  refine R_aload_0 hX dX12_readsTimed_169 ?_
                  refine R_geti hX dX12_readsTimed_170 fl_X12_205 o_136 rfl ?_
                  try simp (disch := omega) only [up_i, up_k, up_s]
                  refine R_iload_3 hX dX12_readsTimed_173 ?_
                  refine R_iast hX dX12_readsTimed_174 a_156 ⟨by omega, by omega⟩ ?_
                  refine R_aload_0 hX dX12_readsTimed_175 ?_
                  refine R_getq (v := 157) hX dX12_readsTimed_176 fl_X12_82 o_136 rfl (by omega) ?_
                  refine R_aload_0 hX dX12_readsTimed_179 ?_
                  refine R_geti hX dX12_readsTimed_180 fl_X12_205 o_136 rfl ?_
                  try simp (disch := omega) only [up_i, up_k, up_s]
                  refine R_iload_4 hX dX12_readsTimed_183 ?_
                  refine R_iast hX dX12_readsTimed_185 a_157 ⟨by omega, by omega⟩ ?_
                  refine R_aload_0 hX dX12_readsTimed_186 ?_
                  refine R_dup hX c1_r dX12_readsTimed_187 ?_
                  refine R_geti hX dX12_readsTimed_188 fl_X12_205 o_136 rfl ?_
                  try simp (disch := omega) only [up_i, up_k, up_s]
                  refine R_iconst hX dX12_readsTimed_191 ?_
                  refine R_iadd hX dX12_readsTimed_192 ?_
                  refine R_puti hX dX12_readsTimed_193 fl_X12_205 o_136 rfl ?_
                  exact R_vret hX dX12_readsTimed_196 (by unfold tmS tmP; rw [if_pos hg0])
                · skip
                  exact R_vret hX dX12_readsTimed_144 (by unfold tmS; rw [if_neg (by omega)])
            · skip
              refine R_bipush hX dX12_readsTimed_114 (by decide) ?_
              refine R_goto (tgt := 132) hX dX12_readsTimed_116 (by decide) ?_
              refine R_v2i hX dX12_readsTimed_132 li_X12_195 mk_X12_readsNumber mi_X12_readsNumber rfl o_136 (r_readsNumber nE.1 (by constructor <;> omega) (by constructor <;> omega)) ⟨⟨by decide, by decide⟩, by decide, by decide, rfl, Nat.le_of_ble_eq_true rfl, rfl⟩ (fun x_132 F_132 h_132 => ?_)
              obtain ⟨hx, hF⟩ := h_132
              subst hx
              subst hF
              refine R.eq rfl rfl (show _ = tmG F by unfold tmG; first | (rw [if_pos (by omega), if_neg (by omega), if_neg (by omega)]; done) | (rw [if_neg (by omega), if_pos (by omega)]; done) | (rw [if_neg (by omega), if_neg (by omega), if_pos (by omega)]; done) | (rw [if_neg (by omega), if_neg (by omega), if_neg (by omega)]; done) | (exfalso; omega)) ?_
              refine R_istore_4 hX c1_i dX12_readsTimed_135 ?_
              refine R_aload_0 hX dX12_readsTimed_137 ?_
              refine R_v0i hX dX12_readsTimed_138 li_X12_112 mk_X12_isGood mi_X12_isGood rfl o_136 (r_isGood (by have z := nG.1.2.1; constructor <;> omega)) ⟨⟨by decide, by decide⟩, by decide, by decide, rfl, Nat.le_of_ble_eq_true rfl, rfl⟩ (fun x_138 F_138 h_138 => ?_)
              obtain ⟨h_138, e_138⟩ := h_138; replace e_138 := e_138.symm; subst e_138
              refine R_ifne (tgt := 145) hX dX12_readsTimed_141 (by decide) (by constructor <;> first | omega | (simp (disch := omega) only [up_k, up_i, up_s]; omega)) (fun c_141 => ?_) (fun c_141 => ?_)
              · skip
                have hg0 : tmG F 136 19 = 0 := by omega
                have h12 := tm_39 h ha hg0
                have e39 : tmG F 136 39 = F 136 39 := nG.2.2.2.2.1
                have b39 := nG.1.2.2.2.2.2.2.1
                refine R_aload_0 hX dX12_readsTimed_145 ?_
                refine R_getq (v := 154) hX dX12_readsTimed_146 fl_X12_73 o_136 rfl (by omega) ?_
                refine R_aload_0 hX dX12_readsTimed_149 ?_
                refine R_geti hX dX12_readsTimed_150 fl_X12_205 o_136 rfl ?_
                try simp (disch := omega) only [up_i, up_k, up_s]
                refine R_iload_1 hX dX12_readsTimed_153 ?_
                refine R_iast hX dX12_readsTimed_154 a_154 ⟨by omega, by omega⟩ ?_
                refine R_aload_0 hX dX12_readsTimed_155 ?_
                refine R_getq (v := 155) hX dX12_readsTimed_156 fl_X12_76 o_136 rfl (by omega) ?_
                refine R_aload_0 hX dX12_readsTimed_159 ?_
                refine R_geti hX dX12_readsTimed_160 fl_X12_205 o_136 rfl ?_
                try simp (disch := omega) only [up_i, up_k, up_s]
                refine R_iload_2 hX dX12_readsTimed_163 ?_
                refine R_iast hX dX12_readsTimed_164 a_155 ⟨by omega, by omega⟩ ?_
                refine R_aload_0 hX dX12_readsTimed_165 ?_
                refine R_getq (v := 156) hX dX12_readsTimed_166 fl_X12_79 o_136 rfl (by omega) ?_
                refine R_aload_0 hX dX12_readsTimed_169 ?_
                refine R_geti hX dX12_readsTimed_170 fl_X12_205 o_136 rfl ?_
                try simp (disch := omega) only [up_i, up_k, up_s]
                refine R_iload_3 hX dX12_readsTimed_173 ?_
                refine R_iast hX dX12_readsTimed_174 a_156 ⟨by omega, by omega⟩ ?_
                refine R_aload_0 hX dX12_readsTimed_175 ?_
                refine R_getq (v := 157) hX dX12_readsTimed_176 fl_X12_82 o_136 rfl (by omega) ?_
                refine R_aload_0 hX dX12_readsTimed_179 ?_
                refine R_geti hX dX12_readsTimed_180 fl_X12_205 o_136 rfl ?_
                try simp (disch := omega) only [up_i, up_k, up_s]
                refine R_iload_4 hX dX12_readsTimed_183 ?_
                refine R_iast hX dX12_readsTimed_185 a_157 ⟨by omega, by omega⟩ ?_
                refine R_aload_0 hX dX12_readsTimed_186 ?_
                refine R_dup hX c1_r dX12_readsTimed_187 ?_
                refine R_geti hX dX12_readsTimed_188 fl_X12_205 o_136 rfl ?_
                try simp (disch := omega) only [up_i, up_k, up_s]
                refine R_iconst hX dX12_readsTimed_191 ?_
                refine R_iadd hX dX12_readsTimed_192 ?_
                refine R_puti hX dX12_readsTimed_193 fl_X12_205 o_136 rfl ?_
                exact R_vret hX dX12_readsTimed_196 (by unfold tmS tmP; rw [if_pos hg0])
              · skip
                exact R_vret hX dX12_readsTimed_144 (by unfold tmS; rw [if_neg (by omega)])
          · skip
            refine R_iconst hX dX12_readsTimed_105 ?_
            refine R_goto (tgt := 110) hX dX12_readsTimed_106 (by decide) ?_
            refine R_iload_3 hX dX12_readsTimed_110 ?_
            refine R_ifne (tgt := 119) hX dX12_readsTimed_111 (by decide) (by constructor <;> first | omega | (simp (disch := omega) only [up_k, up_i, up_s]; omega)) (fun c_111 => ?_) (fun c_111 => ?_)
            · skip
              refine R_iload_3 hX dX12_readsTimed_119 ?_
              refine R_iconst hX dX12_readsTimed_120 ?_
              refine R_icmpne (tgt := 130) hX dX12_readsTimed_121 (by decide) (by constructor <;> first | omega | (simp (disch := omega) only [up_k, up_i, up_s]; omega)) (by constructor <;> first | omega | (simp (disch := omega) only [up_k, up_i, up_s]; omega)) (fun c_121 => ?_) (fun c_121 => ?_)
              · skip
                refine R_bipush hX dX12_readsTimed_130 (by decide) ?_
                refine R_v2i hX dX12_readsTimed_132 li_X12_195 mk_X12_readsNumber mi_X12_readsNumber rfl o_136 (r_readsNumber nE.1 (by constructor <;> omega) (by constructor <;> omega)) ⟨⟨by decide, by decide⟩, by decide, by decide, rfl, Nat.le_of_ble_eq_true rfl, rfl⟩ (fun x_132 F_132 h_132 => ?_)
                obtain ⟨hx, hF⟩ := h_132
                subst hx
                subst hF
                refine R.eq rfl rfl (show _ = tmG F by unfold tmG; first | (rw [if_pos (by omega), if_neg (by omega), if_neg (by omega)]; done) | (rw [if_neg (by omega), if_pos (by omega)]; done) | (rw [if_neg (by omega), if_neg (by omega), if_pos (by omega)]; done) | (rw [if_neg (by omega), if_neg (by omega), if_neg (by omega)]; done) | (exfalso; omega)) ?_
                refine R_istore_4 hX c1_i dX12_readsTimed_135 ?_
                refine R_aload_0 hX dX12_readsTimed_137 ?_
                refine R_v0i hX dX12_readsTimed_138 li_X12_112 mk_X12_isGood mi_X12_isGood rfl o_136 (r_isGood (by have z := nG.1.2.1; constructor <;> omega)) ⟨⟨by decide, by decide⟩, by decide, by decide, rfl, Nat.le_of_ble_eq_true rfl, rfl⟩ (fun x_138 F_138 h_138 => ?_)
                obtain ⟨h_138, e_138⟩ := h_138; replace e_138 := e_138.symm; subst e_138
                refine R_ifne (tgt := 145) hX dX12_readsTimed_141 (by decide) (by constructor <;> first | omega | (simp (disch := omega) only [up_k, up_i, up_s]; omega)) (fun c_141 => ?_) (fun c_141 => ?_)
                · skip
                  have hg0 : tmG F 136 19 = 0 := by omega
                  have h12 := tm_39 h ha hg0
                  have e39 : tmG F 136 39 = F 136 39 := nG.2.2.2.2.1
                  have b39 := nG.1.2.2.2.2.2.2.1
                  refine R_aload_0 hX dX12_readsTimed_145 ?_
                  refine R_getq (v := 154) hX dX12_readsTimed_146 fl_X12_73 o_136 rfl (by omega) ?_
                  refine R_aload_0 hX dX12_readsTimed_149 ?_
                  refine R_geti hX dX12_readsTimed_150 fl_X12_205 o_136 rfl ?_
                  try simp (disch := omega) only [up_i, up_k, up_s]
                  refine R_iload_1 hX dX12_readsTimed_153 ?_
                  refine R_iast hX dX12_readsTimed_154 a_154 ⟨by omega, by omega⟩ ?_
                  refine R_aload_0 hX dX12_readsTimed_155 ?_
                  refine R_getq (v := 155) hX dX12_readsTimed_156 fl_X12_76 o_136 rfl (by omega) ?_
                  refine R_aload_0 hX dX12_readsTimed_159 ?_
                  refine R_geti hX dX12_readsTimed_160 fl_X12_205 o_136 rfl ?_
                  try simp (disch := omega) only [up_i, up_k, up_s]
                  refine R_iload_2 hX dX12_readsTimed_163 ?_
                  refine R_iast hX dX12_readsTimed_164 a_155 ⟨by omega, by omega⟩ ?_
                  refine R_aload_0 hX dX12_readsTimed_165 ?_
                  refine R_getq (v := 156) hX dX12_readsTimed_166 fl_X12_79 o_136 rfl (by omega) ?_
                  refine R_aload_0 hX dX12_readsTimed_169 ?_
                  refine R_geti hX dX12_readsTimed_170 fl_X12_205 o_136 rfl ?_
                  try simp (disch := omega) only [up_i, up_k, up_s]
                  refine R_iload_3 hX dX12_readsTimed_173 ?_
                  refine R_iast hX dX12_readsTimed_174 a_156 ⟨by omega, by omega⟩ ?_
                  refine R_aload_0 hX dX12_readsTimed_175 ?_
                  refine R_getq (v := 157) hX dX12_readsTimed_176 fl_X12_82 o_136 rfl (by omega) ?_
                  refine R_aload_0 hX dX12_readsTimed_179 ?_
                  refine R_geti hX dX12_readsTimed_180 fl_X12_205 o_136 rfl ?_
                  try simp (disch := omega) only [up_i, up_k, up_s]
                  refine R_iload_4 hX dX12_readsTimed_183 ?_
                  refine R_iast hX dX12_readsTimed_185 a_157 ⟨by omega, by omega⟩ ?_
                  refine R_aload_0 hX dX12_readsTimed_186 ?_
                  refine R_dup hX c1_r dX12_readsTimed_187 ?_
                  refine R_geti hX dX12_readsTimed_188 fl_X12_205 o_136 rfl ?_
                  try simp (disch := omega) only [up_i, up_k, up_s]
                  refine R_iconst hX dX12_readsTimed_191 ?_
                  refine R_iadd hX dX12_readsTimed_192 ?_
                  refine R_puti hX dX12_readsTimed_193 fl_X12_205 o_136 rfl ?_
                  exact R_vret hX dX12_readsTimed_196 (by unfold tmS tmP; rw [if_pos hg0])
                · skip
                  exact R_vret hX dX12_readsTimed_144 (by unfold tmS; rw [if_neg (by omega)])
              · skip
                refine R_sipush hX dX12_readsTimed_124 (by decide) ?_
                refine R_goto (tgt := 132) hX dX12_readsTimed_127 (by decide) ?_
                refine R_v2i hX dX12_readsTimed_132 li_X12_195 mk_X12_readsNumber mi_X12_readsNumber rfl o_136 (r_readsNumber nE.1 (by constructor <;> omega) (by constructor <;> omega)) ⟨⟨by decide, by decide⟩, by decide, by decide, rfl, Nat.le_of_ble_eq_true rfl, rfl⟩ (fun x_132 F_132 h_132 => ?_)
                obtain ⟨hx, hF⟩ := h_132
                subst hx
                subst hF
                refine R.eq rfl rfl (show _ = tmG F by unfold tmG; first | (rw [if_pos (by omega), if_neg (by omega), if_neg (by omega)]; done) | (rw [if_neg (by omega), if_pos (by omega)]; done) | (rw [if_neg (by omega), if_neg (by omega), if_pos (by omega)]; done) | (rw [if_neg (by omega), if_neg (by omega), if_neg (by omega)]; done) | (exfalso; omega)) ?_
                refine R_istore_4 hX c1_i dX12_readsTimed_135 ?_
                refine R_aload_0 hX dX12_readsTimed_137 ?_
                refine R_v0i hX dX12_readsTimed_138 li_X12_112 mk_X12_isGood mi_X12_isGood rfl o_136 (r_isGood (by have z := nG.1.2.1; constructor <;> omega)) ⟨⟨by decide, by decide⟩, by decide, by decide, rfl, Nat.le_of_ble_eq_true rfl, rfl⟩ (fun x_138 F_138 h_138 => ?_)
                obtain ⟨h_138, e_138⟩ := h_138; replace e_138 := e_138.symm; subst e_138
                refine R_ifne (tgt := 145) hX dX12_readsTimed_141 (by decide) (by constructor <;> first | omega | (simp (disch := omega) only [up_k, up_i, up_s]; omega)) (fun c_141 => ?_) (fun c_141 => ?_)
                · skip
                  have hg0 : tmG F 136 19 = 0 := by omega
                  have h12 := tm_39 h ha hg0
                  have e39 : tmG F 136 39 = F 136 39 := nG.2.2.2.2.1
                  have b39 := nG.1.2.2.2.2.2.2.1
                  refine R_aload_0 hX dX12_readsTimed_145 ?_
                  refine R_getq (v := 154) hX dX12_readsTimed_146 fl_X12_73 o_136 rfl (by omega) ?_
                  refine R_aload_0 hX dX12_readsTimed_149 ?_
                  refine R_geti hX dX12_readsTimed_150 fl_X12_205 o_136 rfl ?_
                  try simp (disch := omega) only [up_i, up_k, up_s]
                  refine R_iload_1 hX dX12_readsTimed_153 ?_
                  refine R_iast hX dX12_readsTimed_154 a_154 ⟨by omega, by omega⟩ ?_
                  refine R_aload_0 hX dX12_readsTimed_155 ?_
                  refine R_getq (v := 155) hX dX12_readsTimed_156 fl_X12_76 o_136 rfl (by omega) ?_
                  refine R_aload_0 hX dX12_readsTimed_159 ?_
                  refine R_geti hX dX12_readsTimed_160 fl_X12_205 o_136 rfl ?_
                  try simp (disch := omega) only [up_i, up_k, up_s]
                  refine R_iload_2 hX dX12_readsTimed_163 ?_
                  refine R_iast hX dX12_readsTimed_164 a_155 ⟨by omega, by omega⟩ ?_
                  refine R_aload_0 hX dX12_readsTimed_165 ?_
                  refine R_getq (v := 156) hX dX12_readsTimed_166 fl_X12_79 o_136 rfl (by omega) ?_
                  refine R_aload_0 hX dX12_readsTimed_169 ?_
                  refine R_geti hX dX12_readsTimed_170 fl_X12_205 o_136 rfl ?_
                  try simp (disch := omega) only [up_i, up_k, up_s]
                  refine R_iload_3 hX dX12_readsTimed_173 ?_
                  refine R_iast hX dX12_readsTimed_174 a_156 ⟨by omega, by omega⟩ ?_
                  refine R_aload_0 hX dX12_readsTimed_175 ?_
                  refine R_getq (v := 157) hX dX12_readsTimed_176 fl_X12_82 o_136 rfl (by omega) ?_
                  refine R_aload_0 hX dX12_readsTimed_179 ?_
                  refine R_geti hX dX12_readsTimed_180 fl_X12_205 o_136 rfl ?_
                  try simp (disch := omega) only [up_i, up_k, up_s]
                  refine R_iload_4 hX dX12_readsTimed_183 ?_
                  refine R_iast hX dX12_readsTimed_185 a_157 ⟨by omega, by omega⟩ ?_
                  refine R_aload_0 hX dX12_readsTimed_186 ?_
                  refine R_dup hX c1_r dX12_readsTimed_187 ?_
                  refine R_geti hX dX12_readsTimed_188 fl_X12_205 o_136 rfl ?_
                  try simp (disch := omega) only [up_i, up_k, up_s]
                  refine R_iconst hX dX12_readsTimed_191 ?_
                  refine R_iadd hX dX12_readsTimed_192 ?_
                  refine R_puti hX dX12_readsTimed_193 fl_X12_205 o_136 rfl ?_
                  exact R_vret hX dX12_readsTimed_196 (by unfold tmS tmP; rw [if_pos hg0])
                · skip
                  exact R_vret hX dX12_readsTimed_144 (by unfold tmS; rw [if_neg (by omega)])
            · skip
              refine R_bipush hX dX12_readsTimed_114 (by decide) ?_
              refine R_goto (tgt := 132) hX dX12_readsTimed_116 (by decide) ?_
              refine R_v2i hX dX12_readsTimed_132 li_X12_195 mk_X12_readsNumber mi_X12_readsNumber rfl o_136 (r_readsNumber nE.1 (by constructor <;> omega) (by constructor <;> omega)) ⟨⟨by decide, by decide⟩, by decide, by decide, rfl, Nat.le_of_ble_eq_true rfl, rfl⟩ (fun x_132 F_132 h_132 => ?_)
              obtain ⟨hx, hF⟩ := h_132
              subst hx
              subst hF
              refine R.eq rfl rfl (show _ = tmG F by unfold tmG; first | (rw [if_pos (by omega), if_neg (by omega), if_neg (by omega)]; done) | (rw [if_neg (by omega), if_pos (by omega)]; done) | (rw [if_neg (by omega), if_neg (by omega), if_pos (by omega)]; done) | (rw [if_neg (by omega), if_neg (by omega), if_neg (by omega)]; done) | (exfalso; omega)) ?_
              refine R_istore_4 hX c1_i dX12_readsTimed_135 ?_
              refine R_aload_0 hX dX12_readsTimed_137 ?_
              refine R_v0i hX dX12_readsTimed_138 li_X12_112 mk_X12_isGood mi_X12_isGood rfl o_136 (r_isGood (by have z := nG.1.2.1; constructor <;> omega)) ⟨⟨by decide, by decide⟩, by decide, by decide, rfl, Nat.le_of_ble_eq_true rfl, rfl⟩ (fun x_138 F_138 h_138 => ?_)
              obtain ⟨h_138, e_138⟩ := h_138; replace e_138 := e_138.symm; subst e_138
              refine R_ifne (tgt := 145) hX dX12_readsTimed_141 (by decide) (by constructor <;> first | omega | (simp (disch := omega) only [up_k, up_i, up_s]; omega)) (fun c_141 => ?_) (fun c_141 => ?_)
              · skip
                have hg0 : tmG F 136 19 = 0 := by omega
                have h12 := tm_39 h ha hg0
                have e39 : tmG F 136 39 = F 136 39 := nG.2.2.2.2.1
                have b39 := nG.1.2.2.2.2.2.2.1
                refine R_aload_0 hX dX12_readsTimed_145 ?_
                refine R_getq (v := 154) hX dX12_readsTimed_146 fl_X12_73 o_136 rfl (by omega) ?_
                refine R_aload_0 hX dX12_readsTimed_149 ?_
                refine R_geti hX dX12_readsTimed_150 fl_X12_205 o_136 rfl ?_
                try simp (disch := omega) only [up_i, up_k, up_s]
                refine R_iload_1 hX dX12_readsTimed_153 ?_
                refine R_iast hX dX12_readsTimed_154 a_154 ⟨by omega, by omega⟩ ?_
                refine R_aload_0 hX dX12_readsTimed_155 ?_
                refine R_getq (v := 155) hX dX12_readsTimed_156 fl_X12_76 o_136 rfl (by omega) ?_
                refine R_aload_0 hX dX12_readsTimed_159 ?_
                refine R_geti hX dX12_readsTimed_160 fl_X12_205 o_136 rfl ?_
                try simp (disch := omega) only [up_i, up_k, up_s]
                refine R_iload_2 hX dX12_readsTimed_163 ?_
                refine R_iast hX dX12_readsTimed_164 a_155 ⟨by omega, by omega⟩ ?_
                refine R_aload_0 hX dX12_readsTimed_165 ?_
                refine R_getq (v := 156) hX dX12_readsTimed_166 fl_X12_79 o_136 rfl (by omega) ?_
                refine R_aload_0 hX dX12_readsTimed_169 ?_
                refine R_geti hX dX12_readsTimed_170 fl_X12_205 o_136 rfl ?_
                try simp (disch := omega) only [up_i, up_k, up_s]
                refine R_iload_3 hX dX12_readsTimed_173 ?_
                refine R_iast hX dX12_readsTimed_174 a_156 ⟨by omega, by omega⟩ ?_
                refine R_aload_0 hX dX12_readsTimed_175 ?_
                refine R_getq (v := 157) hX dX12_readsTimed_176 fl_X12_82 o_136 rfl (by omega) ?_
                refine R_aload_0 hX dX12_readsTimed_179 ?_
                refine R_geti hX dX12_readsTimed_180 fl_X12_205 o_136 rfl ?_
                try simp (disch := omega) only [up_i, up_k, up_s]
                refine R_iload_4 hX dX12_readsTimed_183 ?_
                refine R_iast hX dX12_readsTimed_185 a_157 ⟨by omega, by omega⟩ ?_
                refine R_aload_0 hX dX12_readsTimed_186 ?_
                refine R_dup hX c1_r dX12_readsTimed_187 ?_
                refine R_geti hX dX12_readsTimed_188 fl_X12_205 o_136 rfl ?_
                try simp (disch := omega) only [up_i, up_k, up_s]
                refine R_iconst hX dX12_readsTimed_191 ?_
                refine R_iadd hX dX12_readsTimed_192 ?_
                refine R_puti hX dX12_readsTimed_193 fl_X12_205 o_136 rfl ?_
                exact R_vret hX dX12_readsTimed_196 (by unfold tmS tmP; rw [if_pos hg0])
              · skip
                exact R_vret hX dX12_readsTimed_144 (by unfold tmS; rw [if_neg (by omega)])
        · skip
          refine R_iload_3 hX dX12_readsTimed_81 ?_
          refine R_iconst hX dX12_readsTimed_82 ?_
          refine R_icmpne (tgt := 90) hX dX12_readsTimed_83 (by decide) (by constructor <;> first | omega | (simp (disch := omega) only [up_k, up_i, up_s]; omega)) (by constructor <;> first | omega | (simp (disch := omega) only [up_k, up_i, up_s]; omega)) (fun c_83 => ?_) (fun c_83 => ?_)
          · skip
            refine R_iconst hX dX12_readsTimed_90 ?_
            refine R_iconst hX dX12_readsTimed_91 ?_
            refine R_v2v hX dX12_readsTimed_92 li_X12_175 mk_X12_must mi_X12_must rfl o_136 (r_must (by have z := (nD.1).2.1; constructor <;> omega) (by have z := (nD.1).2.2.1; constructor <;> omega) (by omega)) ⟨⟨by decide, by decide⟩, by decide, by decide, rfl, Nat.le_of_ble_eq_true rfl, rfl⟩ (fun x_92 F_92 h_92 => ?_)
            subst h_92
            refine R.eq rfl rfl (show _ = mu (stH (tmD F) = 0 ∨ stH (tmD F) = 1 ∨ stH (tmD F) = 4) 1 (tmD F) from mu_iff (by omega)) ?_
            refine R_aload_0 hX dX12_readsTimed_95 ?_
            refine R_v0v hX dX12_readsTimed_96 li_X12_179 mk_X12_scans mi_X12_scans rfl o_136 (r_scans (nD.1.mu (g := stH (tmD F) = 0 ∨ stH (tmD F) = 1 ∨ stH (tmD F) = 4) (c := 1) (by omega)).1 (by have z := (nD.1.mu (g := stH (tmD F) = 0 ∨ stH (tmD F) = 1 ∨ stH (tmD F) = 4) (c := 1) (by omega)).2.1; constructor <;> omega)) ⟨⟨by decide, by decide⟩, by decide, by decide, rfl, Nat.le_of_ble_eq_true rfl, rfl⟩ (fun x_96 F_96 h_96 => ?_)
            subst h_96
            refine R.eq rfl rfl (show _ = tmE F from rfl) ?_
            refine R_aload_0 hX dX12_readsTimed_99 ?_
            refine R_iload_3 hX dX12_readsTimed_100 ?_
            refine R_iconst hX dX12_readsTimed_101 ?_
            refine R_icmpne (tgt := 109) hX dX12_readsTimed_102 (by decide) (by constructor <;> first | omega | (simp (disch := omega) only [up_k, up_i, up_s]; omega)) (by constructor <;> first | omega | (simp (disch := omega) only [up_k, up_i, up_s]; omega)) (fun c_102 => ?_) (fun c_102 => ?_)
            · skip
              refine R_iconst hX dX12_readsTimed_109 ?_
              refine R_iload_3 hX dX12_readsTimed_110 ?_
              refine R_ifne (tgt := 119) hX dX12_readsTimed_111 (by decide) (by constructor <;> first | omega | (simp (disch := omega) only [up_k, up_i, up_s]; omega)) (fun c_111 => ?_) (fun c_111 => ?_)
              · skip
                refine R_iload_3 hX dX12_readsTimed_119 ?_
                refine R_iconst hX dX12_readsTimed_120 ?_
                refine R_icmpne (tgt := 130) hX dX12_readsTimed_121 (by decide) (by constructor <;> first | omega | (simp (disch := omega) only [up_k, up_i, up_s]; omega)) (by constructor <;> first | omega | (simp (disch := omega) only [up_k, up_i, up_s]; omega)) (fun c_121 => ?_) (fun c_121 => ?_)
                · skip
                  refine R_bipush hX dX12_readsTimed_130 (by decide) ?_
                  refine R_v2i hX dX12_readsTimed_132 li_X12_195 mk_X12_readsNumber mi_X12_readsNumber rfl o_136 (r_readsNumber nE.1 (by constructor <;> omega) (by constructor <;> omega)) ⟨⟨by decide, by decide⟩, by decide, by decide, rfl, Nat.le_of_ble_eq_true rfl, rfl⟩ (fun x_132 F_132 h_132 => ?_)
                  obtain ⟨hx, hF⟩ := h_132
                  subst hx
                  subst hF
                  refine R.eq rfl rfl (show _ = tmG F by unfold tmG; first | (rw [if_pos (by omega), if_neg (by omega), if_neg (by omega)]; done) | (rw [if_neg (by omega), if_pos (by omega)]; done) | (rw [if_neg (by omega), if_neg (by omega), if_pos (by omega)]; done) | (rw [if_neg (by omega), if_neg (by omega), if_neg (by omega)]; done) | (exfalso; omega)) ?_
                  refine R_istore_4 hX c1_i dX12_readsTimed_135 ?_
                  refine R_aload_0 hX dX12_readsTimed_137 ?_
                  refine R_v0i hX dX12_readsTimed_138 li_X12_112 mk_X12_isGood mi_X12_isGood rfl o_136 (r_isGood (by have z := nG.1.2.1; constructor <;> omega)) ⟨⟨by decide, by decide⟩, by decide, by decide, rfl, Nat.le_of_ble_eq_true rfl, rfl⟩ (fun x_138 F_138 h_138 => ?_)
                  obtain ⟨h_138, e_138⟩ := h_138; replace e_138 := e_138.symm; subst e_138
                  refine R_ifne (tgt := 145) hX dX12_readsTimed_141 (by decide) (by constructor <;> first | omega | (simp (disch := omega) only [up_k, up_i, up_s]; omega)) (fun c_141 => ?_) (fun c_141 => ?_)
                  · skip
                    have hg0 : tmG F 136 19 = 0 := by omega
                    have h12 := tm_39 h ha hg0
                    have e39 : tmG F 136 39 = F 136 39 := nG.2.2.2.2.1
                    have b39 := nG.1.2.2.2.2.2.2.1
                    refine R_aload_0 hX dX12_readsTimed_145 ?_
                    refine R_getq (v := 154) hX dX12_readsTimed_146 fl_X12_73 o_136 rfl (by omega) ?_
                    refine R_aload_0 hX dX12_readsTimed_149 ?_
                    refine R_geti hX dX12_readsTimed_150 fl_X12_205 o_136 rfl ?_
                    try simp (disch := omega) only [up_i, up_k, up_s]
                    refine R_iload_1 hX dX12_readsTimed_153 ?_
                    refine R_iast hX dX12_readsTimed_154 a_154 ⟨by omega, by omega⟩ ?_
                    refine R_aload_0 hX dX12_readsTimed_155 ?_
                    refine R_getq (v := 155) hX dX12_readsTimed_156 fl_X12_76 o_136 rfl (by omega) ?_
                    refine R_aload_0 hX dX12_readsTimed_159 ?_
                    refine R_geti hX dX12_readsTimed_160 fl_X12_205 o_136 rfl ?_
                    try simp (disch := omega) only [up_i, up_k, up_s]
                    refine R_iload_2 hX dX12_readsTimed_163 ?_
                    refine R_iast hX dX12_readsTimed_164 a_155 ⟨by omega, by omega⟩ ?_
                    refine R_aload_0 hX dX12_readsTimed_165 ?_
                    refine R_getq (v := 156) hX dX12_readsTimed_166 fl_X12_79 o_136 rfl (by omega) ?_
                    refine R_aload_0 hX dX12_readsTimed_169 ?_
                    refine R_geti hX dX12_readsTimed_170 fl_X12_205 o_136 rfl ?_
                    try simp (disch := omega) only [up_i, up_k, up_s]
                    refine R_iload_3 hX dX12_readsTimed_173 ?_
                    refine R_iast hX dX12_readsTimed_174 a_156 ⟨by omega, by omega⟩ ?_
                    refine R_aload_0 hX dX12_readsTimed_175 ?_
                    refine R_getq (v := 157) hX dX12_readsTimed_176 fl_X12_82 o_136 rfl (by omega) ?_
                    refine R_aload_0 hX dX12_readsTimed_179 ?_
                    refine R_geti hX dX12_readsTimed_180 fl_X12_205 o_136 rfl ?_
                    try simp (disch := omega) only [up_i, up_k, up_s]
                    refine R_iload_4 hX dX12_readsTimed_183 ?_
                    refine R_iast hX dX12_readsTimed_185 a_157 ⟨by omega, by omega⟩ ?_
                    refine R_aload_0 hX dX12_readsTimed_186 ?_
                    refine R_dup hX c1_r dX12_readsTimed_187 ?_
                    refine R_geti hX dX12_readsTimed_188 fl_X12_205 o_136 rfl ?_
                    try simp (disch := omega) only [up_i, up_k, up_s]
                    refine R_iconst hX dX12_readsTimed_191 ?_
                    refine R_iadd hX dX12_readsTimed_192 ?_
                    refine R_puti hX dX12_readsTimed_193 fl_X12_205 o_136 rfl ?_
                    exact R_vret hX dX12_readsTimed_196 (by unfold tmS tmP; rw [if_pos hg0])
                  · skip
                    exact R_vret hX dX12_readsTimed_144 (by unfold tmS; rw [if_neg (by omega)])
                · skip
                  refine R_sipush hX dX12_readsTimed_124 (by decide) ?_
                  refine R_goto (tgt := 132) hX dX12_readsTimed_127 (by decide) ?_
                  refine R_v2i hX dX12_readsTimed_132 li_X12_195 mk_X12_readsNumber mi_X12_readsNumber rfl o_136 (r_readsNumber nE.1 (by constructor <;> omega) (by constructor <;> omega)) ⟨⟨by decide, by decide⟩, by decide, by decide, rfl, Nat.le_of_ble_eq_true rfl, rfl⟩ (fun x_132 F_132 h_132 => ?_)
                  obtain ⟨hx, hF⟩ := h_132
                  subst hx
                  subst hF
                  refine R.eq rfl rfl (show _ = tmG F by unfold tmG; first | (rw [if_pos (by omega), if_neg (by omega), if_neg (by omega)]; done) | (rw [if_neg (by omega), if_pos (by omega)]; done) | (rw [if_neg (by omega), if_neg (by omega), if_pos (by omega)]; done) | (rw [if_neg (by omega), if_neg (by omega), if_neg (by omega)]; done) | (exfalso; omega)) ?_
                  refine R_istore_4 hX c1_i dX12_readsTimed_135 ?_
                  refine R_aload_0 hX dX12_readsTimed_137 ?_
                  refine R_v0i hX dX12_readsTimed_138 li_X12_112 mk_X12_isGood mi_X12_isGood rfl o_136 (r_isGood (by have z := nG.1.2.1; constructor <;> omega)) ⟨⟨by decide, by decide⟩, by decide, by decide, rfl, Nat.le_of_ble_eq_true rfl, rfl⟩ (fun x_138 F_138 h_138 => ?_)
                  obtain ⟨h_138, e_138⟩ := h_138; replace e_138 := e_138.symm; subst e_138
                  refine R_ifne (tgt := 145) hX dX12_readsTimed_141 (by decide) (by constructor <;> first | omega | (simp (disch := omega) only [up_k, up_i, up_s]; omega)) (fun c_141 => ?_) (fun c_141 => ?_)
                  · skip
                    have hg0 : tmG F 136 19 = 0 := by omega
                    have h12 := tm_39 h ha hg0
                    have e39 : tmG F 136 39 = F 136 39 := nG.2.2.2.2.1
                    have b39 := nG.1.2.2.2.2.2.2.1
                    refine R_aload_0 hX dX12_readsTimed_145 ?_
                    refine R_getq (v := 154) hX dX12_readsTimed_146 fl_X12_73 o_136 rfl (by omega) ?_
                    refine R_aload_0 hX dX12_readsTimed_149 ?_
                    refine R_geti hX dX12_readsTimed_150 fl_X12_205 o_136 rfl ?_
                    try simp (disch := omega) only [up_i, up_k, up_s]
                    refine R_iload_1 hX dX12_readsTimed_153 ?_
                    refine R_iast hX dX12_readsTimed_154 a_154 ⟨by omega, by omega⟩ ?_
                    refine R_aload_0 hX dX12_readsTimed_155 ?_
                    refine R_getq (v := 155) hX dX12_readsTimed_156 fl_X12_76 o_136 rfl (by omega) ?_
                    refine R_aload_0 hX dX12_readsTimed_159 ?_
                    refine R_geti hX dX12_readsTimed_160 fl_X12_205 o_136 rfl ?_
                    try simp (disch := omega) only [up_i, up_k, up_s]
                    refine R_iload_2 hX dX12_readsTimed_163 ?_
                    refine R_iast hX dX12_readsTimed_164 a_155 ⟨by omega, by omega⟩ ?_
                    refine R_aload_0 hX dX12_readsTimed_165 ?_
                    refine R_getq (v := 156) hX dX12_readsTimed_166 fl_X12_79 o_136 rfl (by omega) ?_
                    refine R_aload_0 hX dX12_readsTimed_169 ?_
                    refine R_geti hX dX12_readsTimed_170 fl_X12_205 o_136 rfl ?_
                    try simp (disch := omega) only [up_i, up_k, up_s]
                    refine R_iload_3 hX dX12_readsTimed_173 ?_
                    refine R_iast hX dX12_readsTimed_174 a_156 ⟨by omega, by omega⟩ ?_
                    refine R_aload_0 hX dX12_readsTimed_175 ?_
                    refine R_getq (v := 157) hX dX12_readsTimed_176 fl_X12_82 o_136 rfl (by omega) ?_
                    refine R_aload_0 hX dX12_readsTimed_179 ?_
                    refine R_geti hX dX12_readsTimed_180 fl_X12_205 o_136 rfl ?_
                    try simp (disch := omega) only [up_i, up_k, up_s]
                    refine R_iload_4 hX dX12_readsTimed_183 ?_
                    refine R_iast hX dX12_readsTimed_185 a_157 ⟨by omega, by omega⟩ ?_
                    refine R_aload_0 hX dX12_readsTimed_186 ?_
                    refine R_dup hX c1_r dX12_readsTimed_187 ?_
                    refine R_geti hX dX12_readsTimed_188 fl_X12_205 o_136 rfl ?_
                    try simp (disch := omega) only [up_i, up_k, up_s]
                    refine R_iconst hX dX12_readsTimed_191 ?_
                    refine R_iadd hX dX12_readsTimed_192 ?_
                    refine R_puti hX dX12_readsTimed_193 fl_X12_205 o_136 rfl ?_
                    exact R_vret hX dX12_readsTimed_196 (by unfold tmS tmP; rw [if_pos hg0])
                  · skip
                    exact R_vret hX dX12_readsTimed_144 (by unfold tmS; rw [if_neg (by omega)])
              · skip
                refine R_bipush hX dX12_readsTimed_114 (by decide) ?_
                refine R_goto (tgt := 132) hX dX12_readsTimed_116 (by decide) ?_
                refine R_v2i hX dX12_readsTimed_132 li_X12_195 mk_X12_readsNumber mi_X12_readsNumber rfl o_136 (r_readsNumber nE.1 (by constructor <;> omega) (by constructor <;> omega)) ⟨⟨by decide, by decide⟩, by decide, by decide, rfl, Nat.le_of_ble_eq_true rfl, rfl⟩ (fun x_132 F_132 h_132 => ?_)
                obtain ⟨hx, hF⟩ := h_132
                subst hx
                subst hF
                refine R.eq rfl rfl (show _ = tmG F by unfold tmG; first | (rw [if_pos (by omega), if_neg (by omega), if_neg (by omega)]; done) | (rw [if_neg (by omega), if_pos (by omega)]; done) | (rw [if_neg (by omega), if_neg (by omega), if_pos (by omega)]; done) | (rw [if_neg (by omega), if_neg (by omega), if_neg (by omega)]; done) | (exfalso; omega)) ?_
                refine R_istore_4 hX c1_i dX12_readsTimed_135 ?_
                refine R_aload_0 hX dX12_readsTimed_137 ?_
                refine R_v0i hX dX12_readsTimed_138 li_X12_112 mk_X12_isGood mi_X12_isGood rfl o_136 (r_isGood (by have z := nG.1.2.1; constructor <;> omega)) ⟨⟨by decide, by decide⟩, by decide, by decide, rfl, Nat.le_of_ble_eq_true rfl, rfl⟩ (fun x_138 F_138 h_138 => ?_)
                obtain ⟨h_138, e_138⟩ := h_138; replace e_138 := e_138.symm; subst e_138
                refine R_ifne (tgt := 145) hX dX12_readsTimed_141 (by decide) (by constructor <;> first | omega | (simp (disch := omega) only [up_k, up_i, up_s]; omega)) (fun c_141 => ?_) (fun c_141 => ?_)
                · skip
                  have hg0 : tmG F 136 19 = 0 := by omega
                  have h12 := tm_39 h ha hg0
                  have e39 : tmG F 136 39 = F 136 39 := nG.2.2.2.2.1
                  have b39 := nG.1.2.2.2.2.2.2.1
                  refine R_aload_0 hX dX12_readsTimed_145 ?_
                  refine R_getq (v := 154) hX dX12_readsTimed_146 fl_X12_73 o_136 rfl (by omega) ?_
                  refine R_aload_0 hX dX12_readsTimed_149 ?_
                  refine R_geti hX dX12_readsTimed_150 fl_X12_205 o_136 rfl ?_
                  try simp (disch := omega) only [up_i, up_k, up_s]
                  refine R_iload_1 hX dX12_readsTimed_153 ?_
                  refine R_iast hX dX12_readsTimed_154 a_154 ⟨by omega, by omega⟩ ?_
                  refine R_aload_0 hX dX12_readsTimed_155 ?_
                  refine R_getq (v := 155) hX dX12_readsTimed_156 fl_X12_76 o_136 rfl (by omega) ?_
                  refine R_aload_0 hX dX12_readsTimed_159 ?_
                  refine R_geti hX dX12_readsTimed_160 fl_X12_205 o_136 rfl ?_
                  try simp (disch := omega) only [up_i, up_k, up_s]
                  refine R_iload_2 hX dX12_readsTimed_163 ?_
                  refine R_iast hX dX12_readsTimed_164 a_155 ⟨by omega, by omega⟩ ?_
                  refine R_aload_0 hX dX12_readsTimed_165 ?_
                  refine R_getq (v := 156) hX dX12_readsTimed_166 fl_X12_79 o_136 rfl (by omega) ?_
                  refine R_aload_0 hX dX12_readsTimed_169 ?_
                  refine R_geti hX dX12_readsTimed_170 fl_X12_205 o_136 rfl ?_
                  try simp (disch := omega) only [up_i, up_k, up_s]
                  refine R_iload_3 hX dX12_readsTimed_173 ?_
                  refine R_iast hX dX12_readsTimed_174 a_156 ⟨by omega, by omega⟩ ?_
                  refine R_aload_0 hX dX12_readsTimed_175 ?_
                  refine R_getq (v := 157) hX dX12_readsTimed_176 fl_X12_82 o_136 rfl (by omega) ?_
                  refine R_aload_0 hX dX12_readsTimed_179 ?_
                  refine R_geti hX dX12_readsTimed_180 fl_X12_205 o_136 rfl ?_
                  try simp (disch := omega) only [up_i, up_k, up_s]
                  refine R_iload_4 hX dX12_readsTimed_183 ?_
                  refine R_iast hX dX12_readsTimed_185 a_157 ⟨by omega, by omega⟩ ?_
                  refine R_aload_0 hX dX12_readsTimed_186 ?_
                  refine R_dup hX c1_r dX12_readsTimed_187 ?_
                  refine R_geti hX dX12_readsTimed_188 fl_X12_205 o_136 rfl ?_
                  try simp (disch := omega) only [up_i, up_k, up_s]
                  refine R_iconst hX dX12_readsTimed_191 ?_
                  refine R_iadd hX dX12_readsTimed_192 ?_
                  refine R_puti hX dX12_readsTimed_193 fl_X12_205 o_136 rfl ?_
                  exact R_vret hX dX12_readsTimed_196 (by unfold tmS tmP; rw [if_pos hg0])
                · skip
                  exact R_vret hX dX12_readsTimed_144 (by unfold tmS; rw [if_neg (by omega)])
            · skip
              refine R_iconst hX dX12_readsTimed_105 ?_
              refine R_goto (tgt := 110) hX dX12_readsTimed_106 (by decide) ?_
              refine R_iload_3 hX dX12_readsTimed_110 ?_
              refine R_ifne (tgt := 119) hX dX12_readsTimed_111 (by decide) (by constructor <;> first | omega | (simp (disch := omega) only [up_k, up_i, up_s]; omega)) (fun c_111 => ?_) (fun c_111 => ?_)
              · skip
                refine R_iload_3 hX dX12_readsTimed_119 ?_
                refine R_iconst hX dX12_readsTimed_120 ?_
                refine R_icmpne (tgt := 130) hX dX12_readsTimed_121 (by decide) (by constructor <;> first | omega | (simp (disch := omega) only [up_k, up_i, up_s]; omega)) (by constructor <;> first | omega | (simp (disch := omega) only [up_k, up_i, up_s]; omega)) (fun c_121 => ?_) (fun c_121 => ?_)
                · skip
                  refine R_bipush hX dX12_readsTimed_130 (by decide) ?_
                  refine R_v2i hX dX12_readsTimed_132 li_X12_195 mk_X12_readsNumber mi_X12_readsNumber rfl o_136 (r_readsNumber nE.1 (by constructor <;> omega) (by constructor <;> omega)) ⟨⟨by decide, by decide⟩, by decide, by decide, rfl, Nat.le_of_ble_eq_true rfl, rfl⟩ (fun x_132 F_132 h_132 => ?_)
                  obtain ⟨hx, hF⟩ := h_132
                  subst hx
                  subst hF
                  refine R.eq rfl rfl (show _ = tmG F by unfold tmG; first | (rw [if_pos (by omega), if_neg (by omega), if_neg (by omega)]; done) | (rw [if_neg (by omega), if_pos (by omega)]; done) | (rw [if_neg (by omega), if_neg (by omega), if_pos (by omega)]; done) | (rw [if_neg (by omega), if_neg (by omega), if_neg (by omega)]; done) | (exfalso; omega)) ?_
                  refine R_istore_4 hX c1_i dX12_readsTimed_135 ?_
                  refine R_aload_0 hX dX12_readsTimed_137 ?_
                  refine R_v0i hX dX12_readsTimed_138 li_X12_112 mk_X12_isGood mi_X12_isGood rfl o_136 (r_isGood (by have z := nG.1.2.1; constructor <;> omega)) ⟨⟨by decide, by decide⟩, by decide, by decide, rfl, Nat.le_of_ble_eq_true rfl, rfl⟩ (fun x_138 F_138 h_138 => ?_)
                  obtain ⟨h_138, e_138⟩ := h_138; replace e_138 := e_138.symm; subst e_138
                  refine R_ifne (tgt := 145) hX dX12_readsTimed_141 (by decide) (by constructor <;> first | omega | (simp (disch := omega) only [up_k, up_i, up_s]; omega)) (fun c_141 => ?_) (fun c_141 => ?_)
                  · skip
                    have hg0 : tmG F 136 19 = 0 := by omega
                    have h12 := tm_39 h ha hg0
                    have e39 : tmG F 136 39 = F 136 39 := nG.2.2.2.2.1
                    have b39 := nG.1.2.2.2.2.2.2.1
                    refine R_aload_0 hX dX12_readsTimed_145 ?_
                    refine R_getq (v := 154) hX dX12_readsTimed_146 fl_X12_73 o_136 rfl (by omega) ?_
                    refine R_aload_0 hX dX12_readsTimed_149 ?_
                    refine R_geti hX dX12_readsTimed_150 fl_X12_205 o_136 rfl ?_
                    try simp (disch := omega) only [up_i, up_k, up_s]
                    refine R_iload_1 hX dX12_readsTimed_153 ?_
                    refine R_iast hX dX12_readsTimed_154 a_154 ⟨by omega, by omega⟩ ?_
                    refine R_aload_0 hX dX12_readsTimed_155 ?_
                    refine R_getq (v := 155) hX dX12_readsTimed_156 fl_X12_76 o_136 rfl (by omega) ?_
                    refine R_aload_0 hX dX12_readsTimed_159 ?_
                    refine R_geti hX dX12_readsTimed_160 fl_X12_205 o_136 rfl ?_
                    try simp (disch := omega) only [up_i, up_k, up_s]
                    refine R_iload_2 hX dX12_readsTimed_163 ?_
                    refine R_iast hX dX12_readsTimed_164 a_155 ⟨by omega, by omega⟩ ?_
                    refine R_aload_0 hX dX12_readsTimed_165 ?_
                    refine R_getq (v := 156) hX dX12_readsTimed_166 fl_X12_79 o_136 rfl (by omega) ?_
                    refine R_aload_0 hX dX12_readsTimed_169 ?_
                    refine R_geti hX dX12_readsTimed_170 fl_X12_205 o_136 rfl ?_
                    try simp (disch := omega) only [up_i, up_k, up_s]
                    refine R_iload_3 hX dX12_readsTimed_173 ?_
                    refine R_iast hX dX12_readsTimed_174 a_156 ⟨by omega, by omega⟩ ?_
                    refine R_aload_0 hX dX12_readsTimed_175 ?_
                    refine R_getq (v := 157) hX dX12_readsTimed_176 fl_X12_82 o_136 rfl (by omega) ?_
                    refine R_aload_0 hX dX12_readsTimed_179 ?_
                    refine R_geti hX dX12_readsTimed_180 fl_X12_205 o_136 rfl ?_
                    try simp (disch := omega) only [up_i, up_k, up_s]
                    refine R_iload_4 hX dX12_readsTimed_183 ?_
                    refine R_iast hX dX12_readsTimed_185 a_157 ⟨by omega, by omega⟩ ?_
                    refine R_aload_0 hX dX12_readsTimed_186 ?_
                    refine R_dup hX c1_r dX12_readsTimed_187 ?_
                    refine R_geti hX dX12_readsTimed_188 fl_X12_205 o_136 rfl ?_
                    try simp (disch := omega) only [up_i, up_k, up_s]
                    refine R_iconst hX dX12_readsTimed_191 ?_
                    refine R_iadd hX dX12_readsTimed_192 ?_
                    refine R_puti hX dX12_readsTimed_193 fl_X12_205 o_136 rfl ?_
                    exact R_vret hX dX12_readsTimed_196 (by unfold tmS tmP; rw [if_pos hg0])
                  · skip
                    exact R_vret hX dX12_readsTimed_144 (by unfold tmS; rw [if_neg (by omega)])
                · skip
                  refine R_sipush hX dX12_readsTimed_124 (by decide) ?_
                  refine R_goto (tgt := 132) hX dX12_readsTimed_127 (by decide) ?_
                  refine R_v2i hX dX12_readsTimed_132 li_X12_195 mk_X12_readsNumber mi_X12_readsNumber rfl o_136 (r_readsNumber nE.1 (by constructor <;> omega) (by constructor <;> omega)) ⟨⟨by decide, by decide⟩, by decide, by decide, rfl, Nat.le_of_ble_eq_true rfl, rfl⟩ (fun x_132 F_132 h_132 => ?_)
                  obtain ⟨hx, hF⟩ := h_132
                  subst hx
                  subst hF
                  refine R.eq rfl rfl (show _ = tmG F by unfold tmG; first | (rw [if_pos (by omega), if_neg (by omega), if_neg (by omega)]; done) | (rw [if_neg (by omega), if_pos (by omega)]; done) | (rw [if_neg (by omega), if_neg (by omega), if_pos (by omega)]; done) | (rw [if_neg (by omega), if_neg (by omega), if_neg (by omega)]; done) | (exfalso; omega)) ?_
                  refine R_istore_4 hX c1_i dX12_readsTimed_135 ?_
                  refine R_aload_0 hX dX12_readsTimed_137 ?_
                  refine R_v0i hX dX12_readsTimed_138 li_X12_112 mk_X12_isGood mi_X12_isGood rfl o_136 (r_isGood (by have z := nG.1.2.1; constructor <;> omega)) ⟨⟨by decide, by decide⟩, by decide, by decide, rfl, Nat.le_of_ble_eq_true rfl, rfl⟩ (fun x_138 F_138 h_138 => ?_)
                  obtain ⟨h_138, e_138⟩ := h_138; replace e_138 := e_138.symm; subst e_138
                  refine R_ifne (tgt := 145) hX dX12_readsTimed_141 (by decide) (by constructor <;> first | omega | (simp (disch := omega) only [up_k, up_i, up_s]; omega)) (fun c_141 => ?_) (fun c_141 => ?_)
                  · skip
                    have hg0 : tmG F 136 19 = 0 := by omega
                    have h12 := tm_39 h ha hg0
                    have e39 : tmG F 136 39 = F 136 39 := nG.2.2.2.2.1
                    have b39 := nG.1.2.2.2.2.2.2.1
                    refine R_aload_0 hX dX12_readsTimed_145 ?_
                    refine R_getq (v := 154) hX dX12_readsTimed_146 fl_X12_73 o_136 rfl (by omega) ?_
                    refine R_aload_0 hX dX12_readsTimed_149 ?_
                    refine R_geti hX dX12_readsTimed_150 fl_X12_205 o_136 rfl ?_
                    try simp (disch := omega) only [up_i, up_k, up_s]
                    refine R_iload_1 hX dX12_readsTimed_153 ?_
                    refine R_iast hX dX12_readsTimed_154 a_154 ⟨by omega, by omega⟩ ?_
                    refine R_aload_0 hX dX12_readsTimed_155 ?_
                    refine R_getq (v := 155) hX dX12_readsTimed_156 fl_X12_76 o_136 rfl (by omega) ?_
                    refine R_aload_0 hX dX12_readsTimed_159 ?_
                    refine R_geti hX dX12_readsTimed_160 fl_X12_205 o_136 rfl ?_
                    try simp (disch := omega) only [up_i, up_k, up_s]
                    refine R_iload_2 hX dX12_readsTimed_163 ?_
                    refine R_iast hX dX12_readsTimed_164 a_155 ⟨by omega, by omega⟩ ?_
                    refine R_aload_0 hX dX12_readsTimed_165 ?_
                    refine R_getq (v := 156) hX dX12_readsTimed_166 fl_X12_79 o_136 rfl (by omega) ?_
                    refine R_aload_0 hX dX12_readsTimed_169 ?_
                    refine R_geti hX dX12_readsTimed_170 fl_X12_205 o_136 rfl ?_
                    try simp (disch := omega) only [up_i, up_k, up_s]
                    refine R_iload_3 hX dX12_readsTimed_173 ?_
                    refine R_iast hX dX12_readsTimed_174 a_156 ⟨by omega, by omega⟩ ?_
                    refine R_aload_0 hX dX12_readsTimed_175 ?_
                    refine R_getq (v := 157) hX dX12_readsTimed_176 fl_X12_82 o_136 rfl (by omega) ?_
                    refine R_aload_0 hX dX12_readsTimed_179 ?_
                    refine R_geti hX dX12_readsTimed_180 fl_X12_205 o_136 rfl ?_
                    try simp (disch := omega) only [up_i, up_k, up_s]
                    refine R_iload_4 hX dX12_readsTimed_183 ?_
                    refine R_iast hX dX12_readsTimed_185 a_157 ⟨by omega, by omega⟩ ?_
                    refine R_aload_0 hX dX12_readsTimed_186 ?_
                    refine R_dup hX c1_r dX12_readsTimed_187 ?_
                    refine R_geti hX dX12_readsTimed_188 fl_X12_205 o_136 rfl ?_
                    try simp (disch := omega) only [up_i, up_k, up_s]
                    refine R_iconst hX dX12_readsTimed_191 ?_
                    refine R_iadd hX dX12_readsTimed_192 ?_
                    refine R_puti hX dX12_readsTimed_193 fl_X12_205 o_136 rfl ?_
                    exact R_vret hX dX12_readsTimed_196 (by unfold tmS tmP; rw [if_pos hg0])
                  · skip
                    exact R_vret hX dX12_readsTimed_144 (by unfold tmS; rw [if_neg (by omega)])
              · skip
                refine R_bipush hX dX12_readsTimed_114 (by decide) ?_
                refine R_goto (tgt := 132) hX dX12_readsTimed_116 (by decide) ?_
                refine R_v2i hX dX12_readsTimed_132 li_X12_195 mk_X12_readsNumber mi_X12_readsNumber rfl o_136 (r_readsNumber nE.1 (by constructor <;> omega) (by constructor <;> omega)) ⟨⟨by decide, by decide⟩, by decide, by decide, rfl, Nat.le_of_ble_eq_true rfl, rfl⟩ (fun x_132 F_132 h_132 => ?_)
                obtain ⟨hx, hF⟩ := h_132
                subst hx
                subst hF
                refine R.eq rfl rfl (show _ = tmG F by unfold tmG; first | (rw [if_pos (by omega), if_neg (by omega), if_neg (by omega)]; done) | (rw [if_neg (by omega), if_pos (by omega)]; done) | (rw [if_neg (by omega), if_neg (by omega), if_pos (by omega)]; done) | (rw [if_neg (by omega), if_neg (by omega), if_neg (by omega)]; done) | (exfalso; omega)) ?_
                refine R_istore_4 hX c1_i dX12_readsTimed_135 ?_
                refine R_aload_0 hX dX12_readsTimed_137 ?_
                refine R_v0i hX dX12_readsTimed_138 li_X12_112 mk_X12_isGood mi_X12_isGood rfl o_136 (r_isGood (by have z := nG.1.2.1; constructor <;> omega)) ⟨⟨by decide, by decide⟩, by decide, by decide, rfl, Nat.le_of_ble_eq_true rfl, rfl⟩ (fun x_138 F_138 h_138 => ?_)
                obtain ⟨h_138, e_138⟩ := h_138; replace e_138 := e_138.symm; subst e_138
                refine R_ifne (tgt := 145) hX dX12_readsTimed_141 (by decide) (by constructor <;> first | omega | (simp (disch := omega) only [up_k, up_i, up_s]; omega)) (fun c_141 => ?_) (fun c_141 => ?_)
                · skip
                  have hg0 : tmG F 136 19 = 0 := by omega
                  have h12 := tm_39 h ha hg0
                  have e39 : tmG F 136 39 = F 136 39 := nG.2.2.2.2.1
                  have b39 := nG.1.2.2.2.2.2.2.1
                  refine R_aload_0 hX dX12_readsTimed_145 ?_
                  refine R_getq (v := 154) hX dX12_readsTimed_146 fl_X12_73 o_136 rfl (by omega) ?_
                  refine R_aload_0 hX dX12_readsTimed_149 ?_
                  refine R_geti hX dX12_readsTimed_150 fl_X12_205 o_136 rfl ?_
                  try simp (disch := omega) only [up_i, up_k, up_s]
                  refine R_iload_1 hX dX12_readsTimed_153 ?_
                  refine R_iast hX dX12_readsTimed_154 a_154 ⟨by omega, by omega⟩ ?_
                  refine R_aload_0 hX dX12_readsTimed_155 ?_
                  refine R_getq (v := 155) hX dX12_readsTimed_156 fl_X12_76 o_136 rfl (by omega) ?_
                  refine R_aload_0 hX dX12_readsTimed_159 ?_
                  refine R_geti hX dX12_readsTimed_160 fl_X12_205 o_136 rfl ?_
                  try simp (disch := omega) only [up_i, up_k, up_s]
                  refine R_iload_2 hX dX12_readsTimed_163 ?_
                  refine R_iast hX dX12_readsTimed_164 a_155 ⟨by omega, by omega⟩ ?_
                  refine R_aload_0 hX dX12_readsTimed_165 ?_
                  refine R_getq (v := 156) hX dX12_readsTimed_166 fl_X12_79 o_136 rfl (by omega) ?_
                  refine R_aload_0 hX dX12_readsTimed_169 ?_
                  refine R_geti hX dX12_readsTimed_170 fl_X12_205 o_136 rfl ?_
                  try simp (disch := omega) only [up_i, up_k, up_s]
                  refine R_iload_3 hX dX12_readsTimed_173 ?_
                  refine R_iast hX dX12_readsTimed_174 a_156 ⟨by omega, by omega⟩ ?_
                  refine R_aload_0 hX dX12_readsTimed_175 ?_
                  refine R_getq (v := 157) hX dX12_readsTimed_176 fl_X12_82 o_136 rfl (by omega) ?_
                  refine R_aload_0 hX dX12_readsTimed_179 ?_
                  refine R_geti hX dX12_readsTimed_180 fl_X12_205 o_136 rfl ?_
                  try simp (disch := omega) only [up_i, up_k, up_s]
                  refine R_iload_4 hX dX12_readsTimed_183 ?_
                  refine R_iast hX dX12_readsTimed_185 a_157 ⟨by omega, by omega⟩ ?_
                  refine R_aload_0 hX dX12_readsTimed_186 ?_
                  refine R_dup hX c1_r dX12_readsTimed_187 ?_
                  refine R_geti hX dX12_readsTimed_188 fl_X12_205 o_136 rfl ?_
                  try simp (disch := omega) only [up_i, up_k, up_s]
                  refine R_iconst hX dX12_readsTimed_191 ?_
                  refine R_iadd hX dX12_readsTimed_192 ?_
                  refine R_puti hX dX12_readsTimed_193 fl_X12_205 o_136 rfl ?_
                  exact R_vret hX dX12_readsTimed_196 (by unfold tmS tmP; rw [if_pos hg0])
                · skip
                  exact R_vret hX dX12_readsTimed_144 (by unfold tmS; rw [if_neg (by omega)])
          · skip
            refine R_iconst hX dX12_readsTimed_86 ?_
            refine R_goto (tgt := 91) hX dX12_readsTimed_87 (by decide) ?_
            refine R_iconst hX dX12_readsTimed_91 ?_
            refine R_v2v hX dX12_readsTimed_92 li_X12_175 mk_X12_must mi_X12_must rfl o_136 (r_must (by have z := (nD.1).2.1; constructor <;> omega) (by have z := (nD.1).2.2.1; constructor <;> omega) (by omega)) ⟨⟨by decide, by decide⟩, by decide, by decide, rfl, Nat.le_of_ble_eq_true rfl, rfl⟩ (fun x_92 F_92 h_92 => ?_)
            subst h_92
            refine R.eq rfl rfl (show _ = mu (stH (tmD F) = 0 ∨ stH (tmD F) = 1 ∨ stH (tmD F) = 4) 1 (tmD F) from mu_iff (by omega)) ?_
            refine R_aload_0 hX dX12_readsTimed_95 ?_
            refine R_v0v hX dX12_readsTimed_96 li_X12_179 mk_X12_scans mi_X12_scans rfl o_136 (r_scans (nD.1.mu (g := stH (tmD F) = 0 ∨ stH (tmD F) = 1 ∨ stH (tmD F) = 4) (c := 1) (by omega)).1 (by have z := (nD.1.mu (g := stH (tmD F) = 0 ∨ stH (tmD F) = 1 ∨ stH (tmD F) = 4) (c := 1) (by omega)).2.1; constructor <;> omega)) ⟨⟨by decide, by decide⟩, by decide, by decide, rfl, Nat.le_of_ble_eq_true rfl, rfl⟩ (fun x_96 F_96 h_96 => ?_)
            subst h_96
            refine R.eq rfl rfl (show _ = tmE F from rfl) ?_
            refine R_aload_0 hX dX12_readsTimed_99 ?_
            refine R_iload_3 hX dX12_readsTimed_100 ?_
            refine R_iconst hX dX12_readsTimed_101 ?_
            refine R_icmpne (tgt := 109) hX dX12_readsTimed_102 (by decide) (by constructor <;> first | omega | (simp (disch := omega) only [up_k, up_i, up_s]; omega)) (by constructor <;> first | omega | (simp (disch := omega) only [up_k, up_i, up_s]; omega)) (fun c_102 => ?_) (fun c_102 => ?_)
            · skip
              refine R_iconst hX dX12_readsTimed_109 ?_
              refine R_iload_3 hX dX12_readsTimed_110 ?_
              refine R_ifne (tgt := 119) hX dX12_readsTimed_111 (by decide) (by constructor <;> first | omega | (simp (disch := omega) only [up_k, up_i, up_s]; omega)) (fun c_111 => ?_) (fun c_111 => ?_)
              · skip
                refine R_iload_3 hX dX12_readsTimed_119 ?_
                refine R_iconst hX dX12_readsTimed_120 ?_
                refine R_icmpne (tgt := 130) hX dX12_readsTimed_121 (by decide) (by constructor <;> first | omega | (simp (disch := omega) only [up_k, up_i, up_s]; omega)) (by constructor <;> first | omega | (simp (disch := omega) only [up_k, up_i, up_s]; omega)) (fun c_121 => ?_) (fun c_121 => ?_)
                · skip
                  refine R_bipush hX dX12_readsTimed_130 (by decide) ?_
                  refine R_v2i hX dX12_readsTimed_132 li_X12_195 mk_X12_readsNumber mi_X12_readsNumber rfl o_136 (r_readsNumber nE.1 (by constructor <;> omega) (by constructor <;> omega)) ⟨⟨by decide, by decide⟩, by decide, by decide, rfl, Nat.le_of_ble_eq_true rfl, rfl⟩ (fun x_132 F_132 h_132 => ?_)
                  obtain ⟨hx, hF⟩ := h_132
                  subst hx
                  subst hF
                  refine R.eq rfl rfl (show _ = tmG F by unfold tmG; first | (rw [if_pos (by omega), if_neg (by omega), if_neg (by omega)]; done) | (rw [if_neg (by omega), if_pos (by omega)]; done) | (rw [if_neg (by omega), if_neg (by omega), if_pos (by omega)]; done) | (rw [if_neg (by omega), if_neg (by omega), if_neg (by omega)]; done) | (exfalso; omega)) ?_
                  refine R_istore_4 hX c1_i dX12_readsTimed_135 ?_
                  refine R_aload_0 hX dX12_readsTimed_137 ?_
                  refine R_v0i hX dX12_readsTimed_138 li_X12_112 mk_X12_isGood mi_X12_isGood rfl o_136 (r_isGood (by have z := nG.1.2.1; constructor <;> omega)) ⟨⟨by decide, by decide⟩, by decide, by decide, rfl, Nat.le_of_ble_eq_true rfl, rfl⟩ (fun x_138 F_138 h_138 => ?_)
                  obtain ⟨h_138, e_138⟩ := h_138; replace e_138 := e_138.symm; subst e_138
                  refine R_ifne (tgt := 145) hX dX12_readsTimed_141 (by decide) (by constructor <;> first | omega | (simp (disch := omega) only [up_k, up_i, up_s]; omega)) (fun c_141 => ?_) (fun c_141 => ?_)
                  · skip
                    have hg0 : tmG F 136 19 = 0 := by omega
                    have h12 := tm_39 h ha hg0
                    have e39 : tmG F 136 39 = F 136 39 := nG.2.2.2.2.1
                    have b39 := nG.1.2.2.2.2.2.2.1
                    refine R_aload_0 hX dX12_readsTimed_145 ?_
                    refine R_getq (v := 154) hX dX12_readsTimed_146 fl_X12_73 o_136 rfl (by omega) ?_
                    refine R_aload_0 hX dX12_readsTimed_149 ?_
                    refine R_geti hX dX12_readsTimed_150 fl_X12_205 o_136 rfl ?_
                    try simp (disch := omega) only [up_i, up_k, up_s]
                    refine R_iload_1 hX dX12_readsTimed_153 ?_
                    refine R_iast hX dX12_readsTimed_154 a_154 ⟨by omega, by omega⟩ ?_
                    refine R_aload_0 hX dX12_readsTimed_155 ?_
                    refine R_getq (v := 155) hX dX12_readsTimed_156 fl_X12_76 o_136 rfl (by omega) ?_
                    refine R_aload_0 hX dX12_readsTimed_159 ?_
                    refine R_geti hX dX12_readsTimed_160 fl_X12_205 o_136 rfl ?_
                    try simp (disch := omega) only [up_i, up_k, up_s]
                    refine R_iload_2 hX dX12_readsTimed_163 ?_
                    refine R_iast hX dX12_readsTimed_164 a_155 ⟨by omega, by omega⟩ ?_
                    refine R_aload_0 hX dX12_readsTimed_165 ?_
                    refine R_getq (v := 156) hX dX12_readsTimed_166 fl_X12_79 o_136 rfl (by omega) ?_
                    refine R_aload_0 hX dX12_readsTimed_169 ?_
                    refine R_geti hX dX12_readsTimed_170 fl_X12_205 o_136 rfl ?_
                    try simp (disch := omega) only [up_i, up_k, up_s]
                    refine R_iload_3 hX dX12_readsTimed_173 ?_
                    refine R_iast hX dX12_readsTimed_174 a_156 ⟨by omega, by omega⟩ ?_
                    refine R_aload_0 hX dX12_readsTimed_175 ?_
                    refine R_getq (v := 157) hX dX12_readsTimed_176 fl_X12_82 o_136 rfl (by omega) ?_
                    refine R_aload_0 hX dX12_readsTimed_179 ?_
                    refine R_geti hX dX12_readsTimed_180 fl_X12_205 o_136 rfl ?_
                    try simp (disch := omega) only [up_i, up_k, up_s]
                    refine R_iload_4 hX dX12_readsTimed_183 ?_
                    refine R_iast hX dX12_readsTimed_185 a_157 ⟨by omega, by omega⟩ ?_
                    refine R_aload_0 hX dX12_readsTimed_186 ?_
                    refine R_dup hX c1_r dX12_readsTimed_187 ?_
                    refine R_geti hX dX12_readsTimed_188 fl_X12_205 o_136 rfl ?_
                    try simp (disch := omega) only [up_i, up_k, up_s]
                    refine R_iconst hX dX12_readsTimed_191 ?_
                    refine R_iadd hX dX12_readsTimed_192 ?_
                    refine R_puti hX dX12_readsTimed_193 fl_X12_205 o_136 rfl ?_
                    exact R_vret hX dX12_readsTimed_196 (by unfold tmS tmP; rw [if_pos hg0])
                  · skip
                    exact R_vret hX dX12_readsTimed_144 (by unfold tmS; rw [if_neg (by omega)])
                · skip
                  refine R_sipush hX dX12_readsTimed_124 (by decide) ?_
                  refine R_goto (tgt := 132) hX dX12_readsTimed_127 (by decide) ?_
                  refine R_v2i hX dX12_readsTimed_132 li_X12_195 mk_X12_readsNumber mi_X12_readsNumber rfl o_136 (r_readsNumber nE.1 (by constructor <;> omega) (by constructor <;> omega)) ⟨⟨by decide, by decide⟩, by decide, by decide, rfl, Nat.le_of_ble_eq_true rfl, rfl⟩ (fun x_132 F_132 h_132 => ?_)
                  obtain ⟨hx, hF⟩ := h_132
                  subst hx
                  subst hF
                  refine R.eq rfl rfl (show _ = tmG F by unfold tmG; first | (rw [if_pos (by omega), if_neg (by omega), if_neg (by omega)]; done) | (rw [if_neg (by omega), if_pos (by omega)]; done) | (rw [if_neg (by omega), if_neg (by omega), if_pos (by omega)]; done) | (rw [if_neg (by omega), if_neg (by omega), if_neg (by omega)]; done) | (exfalso; omega)) ?_
                  refine R_istore_4 hX c1_i dX12_readsTimed_135 ?_
                  refine R_aload_0 hX dX12_readsTimed_137 ?_
                  refine R_v0i hX dX12_readsTimed_138 li_X12_112 mk_X12_isGood mi_X12_isGood rfl o_136 (r_isGood (by have z := nG.1.2.1; constructor <;> omega)) ⟨⟨by decide, by decide⟩, by decide, by decide, rfl, Nat.le_of_ble_eq_true rfl, rfl⟩ (fun x_138 F_138 h_138 => ?_)
                  obtain ⟨h_138, e_138⟩ := h_138; replace e_138 := e_138.symm; subst e_138
                  refine R_ifne (tgt := 145) hX dX12_readsTimed_141 (by decide) (by constructor <;> first | omega | (simp (disch := omega) only [up_k, up_i, up_s]; omega)) (fun c_141 => ?_) (fun c_141 => ?_)
                  · skip
                    have hg0 : tmG F 136 19 = 0 := by omega
                    have h12 := tm_39 h ha hg0
                    have e39 : tmG F 136 39 = F 136 39 := nG.2.2.2.2.1
                    have b39 := nG.1.2.2.2.2.2.2.1
                    refine R_aload_0 hX dX12_readsTimed_145 ?_
                    refine R_getq (v := 154) hX dX12_readsTimed_146 fl_X12_73 o_136 rfl (by omega) ?_
                    refine R_aload_0 hX dX12_readsTimed_149 ?_
                    refine R_geti hX dX12_readsTimed_150 fl_X12_205 o_136 rfl ?_
                    try simp (disch := omega) only [up_i, up_k, up_s]
                    refine R_iload_1 hX dX12_readsTimed_153 ?_
                    refine R_iast hX dX12_readsTimed_154 a_154 ⟨by omega, by omega⟩ ?_
                    refine R_aload_0 hX dX12_readsTimed_155 ?_
                    refine R_getq (v := 155) hX dX12_readsTimed_156 fl_X12_76 o_136 rfl (by omega) ?_
                    refine R_aload_0 hX dX12_readsTimed_159 ?_
                    refine R_geti hX dX12_readsTimed_160 fl_X12_205 o_136 rfl ?_
                    try simp (disch := omega) only [up_i, up_k, up_s]
                    refine R_iload_2 hX dX12_readsTimed_163 ?_
                    refine R_iast hX dX12_readsTimed_164 a_155 ⟨by omega, by omega⟩ ?_
                    refine R_aload_0 hX dX12_readsTimed_165 ?_
                    refine R_getq (v := 156) hX dX12_readsTimed_166 fl_X12_79 o_136 rfl (by omega) ?_
                    refine R_aload_0 hX dX12_readsTimed_169 ?_
                    refine R_geti hX dX12_readsTimed_170 fl_X12_205 o_136 rfl ?_
                    try simp (disch := omega) only [up_i, up_k, up_s]
                    refine R_iload_3 hX dX12_readsTimed_173 ?_
                    refine R_iast hX dX12_readsTimed_174 a_156 ⟨by omega, by omega⟩ ?_
                    refine R_aload_0 hX dX12_readsTimed_175 ?_
                    refine R_getq (v := 157) hX dX12_readsTimed_176 fl_X12_82 o_136 rfl (by omega) ?_
                    refine R_aload_0 hX dX12_readsTimed_179 ?_
                    refine R_geti hX dX12_readsTimed_180 fl_X12_205 o_136 rfl ?_
                    try simp (disch := omega) only [up_i, up_k, up_s]
                    refine R_iload_4 hX dX12_readsTimed_183 ?_
                    refine R_iast hX dX12_readsTimed_185 a_157 ⟨by omega, by omega⟩ ?_
                    refine R_aload_0 hX dX12_readsTimed_186 ?_
                    refine R_dup hX c1_r dX12_readsTimed_187 ?_
                    refine R_geti hX dX12_readsTimed_188 fl_X12_205 o_136 rfl ?_
                    try simp (disch := omega) only [up_i, up_k, up_s]
                    refine R_iconst hX dX12_readsTimed_191 ?_
                    refine R_iadd hX dX12_readsTimed_192 ?_
                    refine R_puti hX dX12_readsTimed_193 fl_X12_205 o_136 rfl ?_
                    exact R_vret hX dX12_readsTimed_196 (by unfold tmS tmP; rw [if_pos hg0])
                  · skip
                    exact R_vret hX dX12_readsTimed_144 (by unfold tmS; rw [if_neg (by omega)])
              · skip
                refine R_bipush hX dX12_readsTimed_114 (by decide) ?_
                refine R_goto (tgt := 132) hX dX12_readsTimed_116 (by decide) ?_
                refine R_v2i hX dX12_readsTimed_132 li_X12_195 mk_X12_readsNumber mi_X12_readsNumber rfl o_136 (r_readsNumber nE.1 (by constructor <;> omega) (by constructor <;> omega)) ⟨⟨by decide, by decide⟩, by decide, by decide, rfl, Nat.le_of_ble_eq_true rfl, rfl⟩ (fun x_132 F_132 h_132 => ?_)
                obtain ⟨hx, hF⟩ := h_132
                subst hx
                subst hF
                refine R.eq rfl rfl (show _ = tmG F by unfold tmG; first | (rw [if_pos (by omega), if_neg (by omega), if_neg (by omega)]; done) | (rw [if_neg (by omega), if_pos (by omega)]; done) | (rw [if_neg (by omega), if_neg (by omega), if_pos (by omega)]; done) | (rw [if_neg (by omega), if_neg (by omega), if_neg (by omega)]; done) | (exfalso; omega)) ?_
                refine R_istore_4 hX c1_i dX12_readsTimed_135 ?_
                refine R_aload_0 hX dX12_readsTimed_137 ?_
                refine R_v0i hX dX12_readsTimed_138 li_X12_112 mk_X12_isGood mi_X12_isGood rfl o_136 (r_isGood (by have z := nG.1.2.1; constructor <;> omega)) ⟨⟨by decide, by decide⟩, by decide, by decide, rfl, Nat.le_of_ble_eq_true rfl, rfl⟩ (fun x_138 F_138 h_138 => ?_)
                obtain ⟨h_138, e_138⟩ := h_138; replace e_138 := e_138.symm; subst e_138
                refine R_ifne (tgt := 145) hX dX12_readsTimed_141 (by decide) (by constructor <;> first | omega | (simp (disch := omega) only [up_k, up_i, up_s]; omega)) (fun c_141 => ?_) (fun c_141 => ?_)
                · skip
                  have hg0 : tmG F 136 19 = 0 := by omega
                  have h12 := tm_39 h ha hg0
                  have e39 : tmG F 136 39 = F 136 39 := nG.2.2.2.2.1
                  have b39 := nG.1.2.2.2.2.2.2.1
                  refine R_aload_0 hX dX12_readsTimed_145 ?_
                  refine R_getq (v := 154) hX dX12_readsTimed_146 fl_X12_73 o_136 rfl (by omega) ?_
                  refine R_aload_0 hX dX12_readsTimed_149 ?_
                  refine R_geti hX dX12_readsTimed_150 fl_X12_205 o_136 rfl ?_
                  try simp (disch := omega) only [up_i, up_k, up_s]
                  refine R_iload_1 hX dX12_readsTimed_153 ?_
                  refine R_iast hX dX12_readsTimed_154 a_154 ⟨by omega, by omega⟩ ?_
                  refine R_aload_0 hX dX12_readsTimed_155 ?_
                  refine R_getq (v := 155) hX dX12_readsTimed_156 fl_X12_76 o_136 rfl (by omega) ?_
                  refine R_aload_0 hX dX12_readsTimed_159 ?_
                  refine R_geti hX dX12_readsTimed_160 fl_X12_205 o_136 rfl ?_
                  try simp (disch := omega) only [up_i, up_k, up_s]
                  refine R_iload_2 hX dX12_readsTimed_163 ?_
                  refine R_iast hX dX12_readsTimed_164 a_155 ⟨by omega, by omega⟩ ?_
                  refine R_aload_0 hX dX12_readsTimed_165 ?_
                  refine R_getq (v := 156) hX dX12_readsTimed_166 fl_X12_79 o_136 rfl (by omega) ?_
                  refine R_aload_0 hX dX12_readsTimed_169 ?_
                  refine R_geti hX dX12_readsTimed_170 fl_X12_205 o_136 rfl ?_
                  try simp (disch := omega) only [up_i, up_k, up_s]
                  refine R_iload_3 hX dX12_readsTimed_173 ?_
                  refine R_iast hX dX12_readsTimed_174 a_156 ⟨by omega, by omega⟩ ?_
                  refine R_aload_0 hX dX12_readsTimed_175 ?_
                  refine R_getq (v := 157) hX dX12_readsTimed_176 fl_X12_82 o_136 rfl (by omega) ?_
                  refine R_aload_0 hX dX12_readsTimed_179 ?_
                  refine R_geti hX dX12_readsTimed_180 fl_X12_205 o_136 rfl ?_
                  try simp (disch := omega) only [up_i, up_k, up_s]
                  refine R_iload_4 hX dX12_readsTimed_183 ?_
                  refine R_iast hX dX12_readsTimed_185 a_157 ⟨by omega, by omega⟩ ?_
                  refine R_aload_0 hX dX12_readsTimed_186 ?_
                  refine R_dup hX c1_r dX12_readsTimed_187 ?_
                  refine R_geti hX dX12_readsTimed_188 fl_X12_205 o_136 rfl ?_
                  try simp (disch := omega) only [up_i, up_k, up_s]
                  refine R_iconst hX dX12_readsTimed_191 ?_
                  refine R_iadd hX dX12_readsTimed_192 ?_
                  refine R_puti hX dX12_readsTimed_193 fl_X12_205 o_136 rfl ?_
                  exact R_vret hX dX12_readsTimed_196 (by unfold tmS tmP; rw [if_pos hg0])
                · skip
                  exact R_vret hX dX12_readsTimed_144 (by unfold tmS; rw [if_neg (by omega)])
            · skip
              refine R_iconst hX dX12_readsTimed_105 ?_
              refine R_goto (tgt := 110) hX dX12_readsTimed_106 (by decide) ?_
              refine R_iload_3 hX dX12_readsTimed_110 ?_
              refine R_ifne (tgt := 119) hX dX12_readsTimed_111 (by decide) (by constructor <;> first | omega | (simp (disch := omega) only [up_k, up_i, up_s]; omega)) (fun c_111 => ?_) (fun c_111 => ?_)
              · skip
                refine R_iload_3 hX dX12_readsTimed_119 ?_
                refine R_iconst hX dX12_readsTimed_120 ?_
                refine R_icmpne (tgt := 130) hX dX12_readsTimed_121 (by decide) (by constructor <;> first | omega | (simp (disch := omega) only [up_k, up_i, up_s]; omega)) (by constructor <;> first | omega | (simp (disch := omega) only [up_k, up_i, up_s]; omega)) (fun c_121 => ?_) (fun c_121 => ?_)
                · skip
                  refine R_bipush hX dX12_readsTimed_130 (by decide) ?_
                  refine R_v2i hX dX12_readsTimed_132 li_X12_195 mk_X12_readsNumber mi_X12_readsNumber rfl o_136 (r_readsNumber nE.1 (by constructor <;> omega) (by constructor <;> omega)) ⟨⟨by decide, by decide⟩, by decide, by decide, rfl, Nat.le_of_ble_eq_true rfl, rfl⟩ (fun x_132 F_132 h_132 => ?_)
                  obtain ⟨hx, hF⟩ := h_132
                  subst hx
                  subst hF
                  refine R.eq rfl rfl (show _ = tmG F by unfold tmG; first | (rw [if_pos (by omega), if_neg (by omega), if_neg (by omega)]; done) | (rw [if_neg (by omega), if_pos (by omega)]; done) | (rw [if_neg (by omega), if_neg (by omega), if_pos (by omega)]; done) | (rw [if_neg (by omega), if_neg (by omega), if_neg (by omega)]; done) | (exfalso; omega)) ?_
                  refine R_istore_4 hX c1_i dX12_readsTimed_135 ?_
                  refine R_aload_0 hX dX12_readsTimed_137 ?_
                  refine R_v0i hX dX12_readsTimed_138 li_X12_112 mk_X12_isGood mi_X12_isGood rfl o_136 (r_isGood (by have z := nG.1.2.1; constructor <;> omega)) ⟨⟨by decide, by decide⟩, by decide, by decide, rfl, Nat.le_of_ble_eq_true rfl, rfl⟩ (fun x_138 F_138 h_138 => ?_)
                  obtain ⟨h_138, e_138⟩ := h_138; replace e_138 := e_138.symm; subst e_138
                  refine R_ifne (tgt := 145) hX dX12_readsTimed_141 (by decide) (by constructor <;> first | omega | (simp (disch := omega) only [up_k, up_i, up_s]; omega)) (fun c_141 => ?_) (fun c_141 => ?_)
                  · skip
                    have hg0 : tmG F 136 19 = 0 := by omega
                    have h12 := tm_39 h ha hg0
                    have e39 : tmG F 136 39 = F 136 39 := nG.2.2.2.2.1
                    have b39 := nG.1.2.2.2.2.2.2.1
                    refine R_aload_0 hX dX12_readsTimed_145 ?_
                    refine R_getq (v := 154) hX dX12_readsTimed_146 fl_X12_73 o_136 rfl (by omega) ?_
                    refine R_aload_0 hX dX12_readsTimed_149 ?_
                    refine R_geti hX dX12_readsTimed_150 fl_X12_205 o_136 rfl ?_
                    try simp (disch := omega) only [up_i, up_k, up_s]
                    refine R_iload_1 hX dX12_readsTimed_153 ?_
                    refine R_iast hX dX12_readsTimed_154 a_154 ⟨by omega, by omega⟩ ?_
                    refine R_aload_0 hX dX12_readsTimed_155 ?_
                    refine R_getq (v := 155) hX dX12_readsTimed_156 fl_X12_76 o_136 rfl (by omega) ?_
                    refine R_aload_0 hX dX12_readsTimed_159 ?_
                    refine R_geti hX dX12_readsTimed_160 fl_X12_205 o_136 rfl ?_
                    try simp (disch := omega) only [up_i, up_k, up_s]
                    refine R_iload_2 hX dX12_readsTimed_163 ?_
                    refine R_iast hX dX12_readsTimed_164 a_155 ⟨by omega, by omega⟩ ?_
                    refine R_aload_0 hX dX12_readsTimed_165 ?_
                    refine R_getq (v := 156) hX dX12_readsTimed_166 fl_X12_79 o_136 rfl (by omega) ?_
                    refine R_aload_0 hX dX12_readsTimed_169 ?_
                    refine R_geti hX dX12_readsTimed_170 fl_X12_205 o_136 rfl ?_
                    try simp (disch := omega) only [up_i, up_k, up_s]
                    refine R_iload_3 hX dX12_readsTimed_173 ?_
                    refine R_iast hX dX12_readsTimed_174 a_156 ⟨by omega, by omega⟩ ?_
                    refine R_aload_0 hX dX12_readsTimed_175 ?_
                    refine R_getq (v := 157) hX dX12_readsTimed_176 fl_X12_82 o_136 rfl (by omega) ?_
                    refine R_aload_0 hX dX12_readsTimed_179 ?_
                    refine R_geti hX dX12_readsTimed_180 fl_X12_205 o_136 rfl ?_
                    try simp (disch := omega) only [up_i, up_k, up_s]
                    refine R_iload_4 hX dX12_readsTimed_183 ?_
                    refine R_iast hX dX12_readsTimed_185 a_157 ⟨by omega, by omega⟩ ?_
                    refine R_aload_0 hX dX12_readsTimed_186 ?_
                    refine R_dup hX c1_r dX12_readsTimed_187 ?_
                    refine R_geti hX dX12_readsTimed_188 fl_X12_205 o_136 rfl ?_
                    try simp (disch := omega) only [up_i, up_k, up_s]
                    refine R_iconst hX dX12_readsTimed_191 ?_
                    refine R_iadd hX dX12_readsTimed_192 ?_
                    refine R_puti hX dX12_readsTimed_193 fl_X12_205 o_136 rfl ?_
                    exact R_vret hX dX12_readsTimed_196 (by unfold tmS tmP; rw [if_pos hg0])
                  · skip
                    exact R_vret hX dX12_readsTimed_144 (by unfold tmS; rw [if_neg (by omega)])
                · skip
                  refine R_sipush hX dX12_readsTimed_124 (by decide) ?_
                  refine R_goto (tgt := 132) hX dX12_readsTimed_127 (by decide) ?_
                  refine R_v2i hX dX12_readsTimed_132 li_X12_195 mk_X12_readsNumber mi_X12_readsNumber rfl o_136 (r_readsNumber nE.1 (by constructor <;> omega) (by constructor <;> omega)) ⟨⟨by decide, by decide⟩, by decide, by decide, rfl, Nat.le_of_ble_eq_true rfl, rfl⟩ (fun x_132 F_132 h_132 => ?_)
                  obtain ⟨hx, hF⟩ := h_132
                  subst hx
                  subst hF
                  refine R.eq rfl rfl (show _ = tmG F by unfold tmG; first | (rw [if_pos (by omega), if_neg (by omega), if_neg (by omega)]; done) | (rw [if_neg (by omega), if_pos (by omega)]; done) | (rw [if_neg (by omega), if_neg (by omega), if_pos (by omega)]; done) | (rw [if_neg (by omega), if_neg (by omega), if_neg (by omega)]; done) | (exfalso; omega)) ?_
                  refine R_istore_4 hX c1_i dX12_readsTimed_135 ?_
                  refine R_aload_0 hX dX12_readsTimed_137 ?_
                  refine R_v0i hX dX12_readsTimed_138 li_X12_112 mk_X12_isGood mi_X12_isGood rfl o_136 (r_isGood (by have z := nG.1.2.1; constructor <;> omega)) ⟨⟨by decide, by decide⟩, by decide, by decide, rfl, Nat.le_of_ble_eq_true rfl, rfl⟩ (fun x_138 F_138 h_138 => ?_)
                  obtain ⟨h_138, e_138⟩ := h_138; replace e_138 := e_138.symm; subst e_138
                  refine R_ifne (tgt := 145) hX dX12_readsTimed_141 (by decide) (by constructor <;> first | omega | (simp (disch := omega) only [up_k, up_i, up_s]; omega)) (fun c_141 => ?_) (fun c_141 => ?_)
                  · skip
                    have hg0 : tmG F 136 19 = 0 := by omega
                    have h12 := tm_39 h ha hg0
                    have e39 : tmG F 136 39 = F 136 39 := nG.2.2.2.2.1
                    have b39 := nG.1.2.2.2.2.2.2.1
                    refine R_aload_0 hX dX12_readsTimed_145 ?_
                    refine R_getq (v := 154) hX dX12_readsTimed_146 fl_X12_73 o_136 rfl (by omega) ?_
                    refine R_aload_0 hX dX12_readsTimed_149 ?_
                    refine R_geti hX dX12_readsTimed_150 fl_X12_205 o_136 rfl ?_
                    try simp (disch := omega) only [up_i, up_k, up_s]
                    refine R_iload_1 hX dX12_readsTimed_153 ?_
                    refine R_iast hX dX12_readsTimed_154 a_154 ⟨by omega, by omega⟩ ?_
                    refine R_aload_0 hX dX12_readsTimed_155 ?_
                    refine R_getq (v := 155) hX dX12_readsTimed_156 fl_X12_76 o_136 rfl (by omega) ?_
                    refine R_aload_0 hX dX12_readsTimed_159 ?_
                    refine R_geti hX dX12_readsTimed_160 fl_X12_205 o_136 rfl ?_
                    try simp (disch := omega) only [up_i, up_k, up_s]
                    refine R_iload_2 hX dX12_readsTimed_163 ?_
                    refine R_iast hX dX12_readsTimed_164 a_155 ⟨by omega, by omega⟩ ?_
                    refine R_aload_0 hX dX12_readsTimed_165 ?_
                    refine R_getq (v := 156) hX dX12_readsTimed_166 fl_X12_79 o_136 rfl (by omega) ?_
                    refine R_aload_0 hX dX12_readsTimed_169 ?_
                    refine R_geti hX dX12_readsTimed_170 fl_X12_205 o_136 rfl ?_
                    try simp (disch := omega) only [up_i, up_k, up_s]
                    refine R_iload_3 hX dX12_readsTimed_173 ?_
                    refine R_iast hX dX12_readsTimed_174 a_156 ⟨by omega, by omega⟩ ?_
                    refine R_aload_0 hX dX12_readsTimed_175 ?_
                    refine R_getq (v := 157) hX dX12_readsTimed_176 fl_X12_82 o_136 rfl (by omega) ?_
                    refine R_aload_0 hX dX12_readsTimed_179 ?_
                    refine R_geti hX dX12_readsTimed_180 fl_X12_205 o_136 rfl ?_
                    try simp (disch := omega) only [up_i, up_k, up_s]
                    refine R_iload_4 hX dX12_readsTimed_183 ?_
                    refine R_iast hX dX12_readsTimed_185 a_157 ⟨by omega, by omega⟩ ?_
                    refine R_aload_0 hX dX12_readsTimed_186 ?_
                    refine R_dup hX c1_r dX12_readsTimed_187 ?_
                    refine R_geti hX dX12_readsTimed_188 fl_X12_205 o_136 rfl ?_
                    try simp (disch := omega) only [up_i, up_k, up_s]
                    refine R_iconst hX dX12_readsTimed_191 ?_
                    refine R_iadd hX dX12_readsTimed_192 ?_
                    refine R_puti hX dX12_readsTimed_193 fl_X12_205 o_136 rfl ?_
                    exact R_vret hX dX12_readsTimed_196 (by unfold tmS tmP; rw [if_pos hg0])
                  · skip
                    exact R_vret hX dX12_readsTimed_144 (by unfold tmS; rw [if_neg (by omega)])
              · skip
                refine R_bipush hX dX12_readsTimed_114 (by decide) ?_
                refine R_goto (tgt := 132) hX dX12_readsTimed_116 (by decide) ?_
                refine R_v2i hX dX12_readsTimed_132 li_X12_195 mk_X12_readsNumber mi_X12_readsNumber rfl o_136 (r_readsNumber nE.1 (by constructor <;> omega) (by constructor <;> omega)) ⟨⟨by decide, by decide⟩, by decide, by decide, rfl, Nat.le_of_ble_eq_true rfl, rfl⟩ (fun x_132 F_132 h_132 => ?_)
                obtain ⟨hx, hF⟩ := h_132
                subst hx
                subst hF
                refine R.eq rfl rfl (show _ = tmG F by unfold tmG; first | (rw [if_pos (by omega), if_neg (by omega), if_neg (by omega)]; done) | (rw [if_neg (by omega), if_pos (by omega)]; done) | (rw [if_neg (by omega), if_neg (by omega), if_pos (by omega)]; done) | (rw [if_neg (by omega), if_neg (by omega), if_neg (by omega)]; done) | (exfalso; omega)) ?_
                refine R_istore_4 hX c1_i dX12_readsTimed_135 ?_
                refine R_aload_0 hX dX12_readsTimed_137 ?_
                refine R_v0i hX dX12_readsTimed_138 li_X12_112 mk_X12_isGood mi_X12_isGood rfl o_136 (r_isGood (by have z := nG.1.2.1; constructor <;> omega)) ⟨⟨by decide, by decide⟩, by decide, by decide, rfl, Nat.le_of_ble_eq_true rfl, rfl⟩ (fun x_138 F_138 h_138 => ?_)
                obtain ⟨h_138, e_138⟩ := h_138; replace e_138 := e_138.symm; subst e_138
                refine R_ifne (tgt := 145) hX dX12_readsTimed_141 (by decide) (by constructor <;> first | omega | (simp (disch := omega) only [up_k, up_i, up_s]; omega)) (fun c_141 => ?_) (fun c_141 => ?_)
                · skip
                  have hg0 : tmG F 136 19 = 0 := by omega
                  have h12 := tm_39 h ha hg0
                  have e39 : tmG F 136 39 = F 136 39 := nG.2.2.2.2.1
                  have b39 := nG.1.2.2.2.2.2.2.1
                  refine R_aload_0 hX dX12_readsTimed_145 ?_
                  refine R_getq (v := 154) hX dX12_readsTimed_146 fl_X12_73 o_136 rfl (by omega) ?_
                  refine R_aload_0 hX dX12_readsTimed_149 ?_
                  refine R_geti hX dX12_readsTimed_150 fl_X12_205 o_136 rfl ?_
                  try simp (disch := omega) only [up_i, up_k, up_s]
                  refine R_iload_1 hX dX12_readsTimed_153 ?_
                  refine R_iast hX dX12_readsTimed_154 a_154 ⟨by omega, by omega⟩ ?_
                  refine R_aload_0 hX dX12_readsTimed_155 ?_
                  refine R_getq (v := 155) hX dX12_readsTimed_156 fl_X12_76 o_136 rfl (by omega) ?_
                  refine R_aload_0 hX dX12_readsTimed_159 ?_
                  refine R_geti hX dX12_readsTimed_160 fl_X12_205 o_136 rfl ?_
                  try simp (disch := omega) only [up_i, up_k, up_s]
                  refine R_iload_2 hX dX12_readsTimed_163 ?_
                  refine R_iast hX dX12_readsTimed_164 a_155 ⟨by omega, by omega⟩ ?_
                  refine R_aload_0 hX dX12_readsTimed_165 ?_
                  refine R_getq (v := 156) hX dX12_readsTimed_166 fl_X12_79 o_136 rfl (by omega) ?_
                  refine R_aload_0 hX dX12_readsTimed_169 ?_
                  refine R_geti hX dX12_readsTimed_170 fl_X12_205 o_136 rfl ?_
                  try simp (disch := omega) only [up_i, up_k, up_s]
                  refine R_iload_3 hX dX12_readsTimed_173 ?_
                  refine R_iast hX dX12_readsTimed_174 a_156 ⟨by omega, by omega⟩ ?_
                  refine R_aload_0 hX dX12_readsTimed_175 ?_
                  refine R_getq (v := 157) hX dX12_readsTimed_176 fl_X12_82 o_136 rfl (by omega) ?_
                  refine R_aload_0 hX dX12_readsTimed_179 ?_
                  refine R_geti hX dX12_readsTimed_180 fl_X12_205 o_136 rfl ?_
                  try simp (disch := omega) only [up_i, up_k, up_s]
                  refine R_iload_4 hX dX12_readsTimed_183 ?_
                  refine R_iast hX dX12_readsTimed_185 a_157 ⟨by omega, by omega⟩ ?_
                  refine R_aload_0 hX dX12_readsTimed_186 ?_
                  refine R_dup hX c1_r dX12_readsTimed_187 ?_
                  refine R_geti hX dX12_readsTimed_188 fl_X12_205 o_136 rfl ?_
                  try simp (disch := omega) only [up_i, up_k, up_s]
                  refine R_iconst hX dX12_readsTimed_191 ?_
                  refine R_iadd hX dX12_readsTimed_192 ?_
                  refine R_puti hX dX12_readsTimed_193 fl_X12_205 o_136 rfl ?_
                  exact R_vret hX dX12_readsTimed_196 (by unfold tmS tmP; rw [if_pos hg0])
                · skip
                  exact R_vret hX dX12_readsTimed_144 (by unfold tmS; rw [if_neg (by omega)])
  · skip
    refine R_iconst hX dX12_readsTimed_10 ?_
    refine R_goto (tgt := 15) hX dX12_readsTimed_11 (by decide) ?_
    refine R_iconst hX dX12_readsTimed_15 ?_
    refine R_v2v hX dX12_readsTimed_16 li_X12_175 mk_X12_must mi_X12_must rfl o_136 (r_must (by constructor <;> omega) (by constructor <;> omega) (by omega)) ⟨⟨by decide, by decide⟩, by decide, by decide, rfl, Nat.le_of_ble_eq_true rfl, rfl⟩ (fun x_16 F_16 h_16 => ?_)
    subst h_16
    refine R.eq rfl rfl (show _ = mu (F 136 39 < 12) 5 F from mu_iff (by omega)) ?_
    refine R_aload_0 hX dX12_readsTimed_19 ?_
    refine R_v0v hX dX12_readsTimed_20 li_X12_179 mk_X12_scans mi_X12_scans rfl o_136 (r_scans (h.mu (g := F 136 39 < 12) (c := 5) (by omega)).1 (by have z := (h.mu (g := F 136 39 < 12) (c := 5) (by omega)).2.1; constructor <;> omega)) ⟨⟨by decide, by decide⟩, by decide, by decide, rfl, Nat.le_of_ble_eq_true rfl, rfl⟩ (fun x_20 F_20 h_20 => ?_)
    subst h_20
    refine R.eq rfl rfl (show _ = tmA F from rfl) ?_
    refine R_aload_0 hX dX12_readsTimed_23 ?_
    refine R_iconst hX dX12_readsTimed_24 ?_
    refine R_sipush hX dX12_readsTimed_25 (by decide) ?_
    refine R_v2i hX dX12_readsTimed_28 li_X12_195 mk_X12_readsNumber mi_X12_readsNumber rfl o_136 (r_readsNumber nA.1 (by constructor <;> omega) (by constructor <;> omega)) ⟨⟨by decide, by decide⟩, by decide, by decide, rfl, Nat.le_of_ble_eq_true rfl, rfl⟩ (fun x_28 F_28 h_28 => ?_)
    obtain ⟨hx, hF⟩ := h_28
    subst hx
    subst hF
    refine R.eq rfl rfl (show _ = tmB F from rfl) ?_
    refine R_istore_1 hX c1_r dX12_readsTimed_31 ?_
    refine R_aload_0 hX dX12_readsTimed_32 ?_
    refine R_aload_0 hX dX12_readsTimed_33 ?_
    refine R_v0i hX dX12_readsTimed_34 li_X12_189 mk_X12_isName mi_X12_isName rfl o_136 (r_isName nB.1) ⟨⟨by decide, by decide⟩, by decide, by decide, rfl, Nat.le_of_ble_eq_true rfl, rfl⟩ (fun x_34 F_34 h_34 => ?_)
    obtain ⟨h_34, e_34⟩ := h_34; replace e_34 := e_34.symm; subst e_34
    refine R_iconst hX dX12_readsTimed_37 ?_
    refine R_v2v hX dX12_readsTimed_38 li_X12_175 mk_X12_must mi_X12_must rfl o_136 (r_must (by have z := (nB.1).2.1; constructor <;> omega) (by have z := (nB.1).2.2.1; constructor <;> omega) (by omega)) ⟨⟨by decide, by decide⟩, by decide, by decide, rfl, Nat.le_of_ble_eq_true rfl, rfl⟩ (fun x_38 F_38 h_38 => ?_)
    subst h_38
    refine R.eq rfl rfl (show _ = tmC F from mu_iff (by omega)) ?_
    refine R_aload_0 hX dX12_readsTimed_41 ?_
    refine R_v0i hX dX12_readsTimed_42 li_X12_192 mk_X12_here mi_X12_here rfl o_136 (r_here nC.1) ⟨⟨by decide, by decide⟩, by decide, by decide, rfl, Nat.le_of_ble_eq_true rfl, rfl⟩ (fun x_42 F_42 h_42 => ?_)
    obtain ⟨h_42, e_42⟩ := h_42; replace e_42 := e_42.symm; subst e_42
    subst h_42
    have hhr := fnF_rng (nm := tmC F 140) (w := tmC F 136 21) (N := tmC F 136 22) 12 0
    change hrS (tmC F) = -2 ∨ (0 ≤ hrS (tmC F) ∧ hrS (tmC F) < tmC F 136 22 ∧ _) at hhr
    have b22 := nC.1.2.2.2.2.2.1
    refine R_istore_2 hX c1_i dX12_readsTimed_45 ?_
    refine R_aload_0 hX dX12_readsTimed_46 ?_
    refine R_iload_2 hX dX12_readsTimed_47 ?_
    refine R_bipush hX dX12_readsTimed_48 (by decide) ?_
    refine R_icmpeq (tgt := 57) hX dX12_readsTimed_50 (by decide) (by constructor <;> first | omega | (simp (disch := omega) only [up_k, up_i, up_s]; omega)) (by constructor <;> first | omega | (simp (disch := omega) only [up_k, up_i, up_s]; omega)) (fun c_50 => ?_) (fun c_50 => ?_)
    · skip
      refine R_iconst hX dX12_readsTimed_57 ?_
      refine R_iconst hX dX12_readsTimed_58 ?_
      refine R_v2v hX dX12_readsTimed_59 li_X12_175 mk_X12_must mi_X12_must rfl o_136 (r_must (by have z := (nC.1).2.1; constructor <;> omega) (by have z := (nC.1).2.2.1; constructor <;> omega) (by omega)) ⟨⟨by decide, by decide⟩, by decide, by decide, rfl, Nat.le_of_ble_eq_true rfl, rfl⟩ (fun x_59 F_59 h_59 => ?_)
      subst h_59
      refine R.eq rfl rfl (show _ = mu (¬ hrS (tmC F) = -2) 3 (tmC F) from mu_iff (by omega)) ?_
      refine R_aload_0 hX dX12_readsTimed_62 ?_
      refine R_v0v hX dX12_readsTimed_63 li_X12_179 mk_X12_scans mi_X12_scans rfl o_136 (r_scans (nC.1.mu (g := ¬ hrS (tmC F) = -2) (c := 3) (by omega)).1 (by have z := (nC.1.mu (g := ¬ hrS (tmC F) = -2) (c := 3) (by omega)).2.1; constructor <;> omega)) ⟨⟨by decide, by decide⟩, by decide, by decide, rfl, Nat.le_of_ble_eq_true rfl, rfl⟩ (fun x_63 F_63 h_63 => ?_)
      subst h_63
      refine R.eq rfl rfl (show _ = tmD F from rfl) ?_
      refine R_aload_0 hX dX12_readsTimed_66 ?_
      refine R_v0i hX dX12_readsTimed_67 li_X12_161 mk_X12_settingHere mi_X12_settingHere rfl o_136 (r_settingHere nD.1) ⟨⟨by decide, by decide⟩, by decide, by decide, rfl, Nat.le_of_ble_eq_true rfl, rfl⟩ (fun x_67 F_67 h_67 => ?_)
      obtain ⟨h_67, e_67⟩ := h_67; replace e_67 := e_67.symm; subst e_67
      subst h_67
      refine R_istore_3 hX c1_i dX12_readsTimed_70 ?_
      refine R_aload_0 hX dX12_readsTimed_71 ?_
      refine R_iload_3 hX dX12_readsTimed_72 ?_
      refine R_ifeq (tgt := 86) hX dX12_readsTimed_73 (by decide) (by constructor <;> first | omega | (simp (disch := omega) only [up_k, up_i, up_s]; omega)) (fun c_73 => ?_) (fun c_73 => ?_)
      · skip
        refine R_iconst hX dX12_readsTimed_86 ?_
        refine R_goto (tgt := 91) hX dX12_readsTimed_87 (by decide) ?_
        refine R_iconst hX dX12_readsTimed_91 ?_
        refine R_v2v hX dX12_readsTimed_92 li_X12_175 mk_X12_must mi_X12_must rfl o_136 (r_must (by have z := (nD.1).2.1; constructor <;> omega) (by have z := (nD.1).2.2.1; constructor <;> omega) (by omega)) ⟨⟨by decide, by decide⟩, by decide, by decide, rfl, Nat.le_of_ble_eq_true rfl, rfl⟩ (fun x_92 F_92 h_92 => ?_)
        subst h_92
        refine R.eq rfl rfl (show _ = mu (stH (tmD F) = 0 ∨ stH (tmD F) = 1 ∨ stH (tmD F) = 4) 1 (tmD F) from mu_iff (by omega)) ?_
        refine R_aload_0 hX dX12_readsTimed_95 ?_
        refine R_v0v hX dX12_readsTimed_96 li_X12_179 mk_X12_scans mi_X12_scans rfl o_136 (r_scans (nD.1.mu (g := stH (tmD F) = 0 ∨ stH (tmD F) = 1 ∨ stH (tmD F) = 4) (c := 1) (by omega)).1 (by have z := (nD.1.mu (g := stH (tmD F) = 0 ∨ stH (tmD F) = 1 ∨ stH (tmD F) = 4) (c := 1) (by omega)).2.1; constructor <;> omega)) ⟨⟨by decide, by decide⟩, by decide, by decide, rfl, Nat.le_of_ble_eq_true rfl, rfl⟩ (fun x_96 F_96 h_96 => ?_)
        subst h_96
        refine R.eq rfl rfl (show _ = tmE F from rfl) ?_
        refine R_aload_0 hX dX12_readsTimed_99 ?_
        refine R_iload_3 hX dX12_readsTimed_100 ?_
        refine R_iconst hX dX12_readsTimed_101 ?_
        refine R_icmpne (tgt := 109) hX dX12_readsTimed_102 (by decide) (by constructor <;> first | omega | (simp (disch := omega) only [up_k, up_i, up_s]; omega)) (by constructor <;> first | omega | (simp (disch := omega) only [up_k, up_i, up_s]; omega)) (fun c_102 => ?_) (fun c_102 => ?_)
        · skip
          refine R_iconst hX dX12_readsTimed_109 ?_
          refine R_iload_3 hX dX12_readsTimed_110 ?_
          refine R_ifne (tgt := 119) hX dX12_readsTimed_111 (by decide) (by constructor <;> first | omega | (simp (disch := omega) only [up_k, up_i, up_s]; omega)) (fun c_111 => ?_) (fun c_111 => ?_)
          · skip
            refine R_iload_3 hX dX12_readsTimed_119 ?_
            refine R_iconst hX dX12_readsTimed_120 ?_
            refine R_icmpne (tgt := 130) hX dX12_readsTimed_121 (by decide) (by constructor <;> first | omega | (simp (disch := omega) only [up_k, up_i, up_s]; omega)) (by constructor <;> first | omega | (simp (disch := omega) only [up_k, up_i, up_s]; omega)) (fun c_121 => ?_) (fun c_121 => ?_)
            · skip
              refine R_bipush hX dX12_readsTimed_130 (by decide) ?_
              refine R_v2i hX dX12_readsTimed_132 li_X12_195 mk_X12_readsNumber mi_X12_readsNumber rfl o_136 (r_readsNumber nE.1 (by constructor <;> omega) (by constructor <;> omega)) ⟨⟨by decide, by decide⟩, by decide, by decide, rfl, Nat.le_of_ble_eq_true rfl, rfl⟩ (fun x_132 F_132 h_132 => ?_)
              obtain ⟨hx, hF⟩ := h_132
              subst hx
              subst hF
              refine R.eq rfl rfl (show _ = tmG F by unfold tmG; first | (rw [if_pos (by omega), if_neg (by omega), if_neg (by omega)]; done) | (rw [if_neg (by omega), if_pos (by omega)]; done) | (rw [if_neg (by omega), if_neg (by omega), if_pos (by omega)]; done) | (rw [if_neg (by omega), if_neg (by omega), if_neg (by omega)]; done) | (exfalso; omega)) ?_
              refine R_istore_4 hX c1_i dX12_readsTimed_135 ?_
              refine R_aload_0 hX dX12_readsTimed_137 ?_
              refine R_v0i hX dX12_readsTimed_138 li_X12_112 mk_X12_isGood mi_X12_isGood rfl o_136 (r_isGood (by have z := nG.1.2.1; constructor <;> omega)) ⟨⟨by decide, by decide⟩, by decide, by decide, rfl, Nat.le_of_ble_eq_true rfl, rfl⟩ (fun x_138 F_138 h_138 => ?_)
              obtain ⟨h_138, e_138⟩ := h_138; replace e_138 := e_138.symm; subst e_138
              refine R_ifne (tgt := 145) hX dX12_readsTimed_141 (by decide) (by constructor <;> first | omega | (simp (disch := omega) only [up_k, up_i, up_s]; omega)) (fun c_141 => ?_) (fun c_141 => ?_)
              · skip
                have hg0 : tmG F 136 19 = 0 := by omega
                have h12 := tm_39 h ha hg0
                have e39 : tmG F 136 39 = F 136 39 := nG.2.2.2.2.1
                have b39 := nG.1.2.2.2.2.2.2.1
                refine R_aload_0 hX dX12_readsTimed_145 ?_
                refine R_getq (v := 154) hX dX12_readsTimed_146 fl_X12_73 o_136 rfl (by omega) ?_
                refine R_aload_0 hX dX12_readsTimed_149 ?_
                refine R_geti hX dX12_readsTimed_150 fl_X12_205 o_136 rfl ?_
                try simp (disch := omega) only [up_i, up_k, up_s]
                refine R_iload_1 hX dX12_readsTimed_153 ?_
                refine R_iast hX dX12_readsTimed_154 a_154 ⟨by omega, by omega⟩ ?_
                refine R_aload_0 hX dX12_readsTimed_155 ?_
                refine R_getq (v := 155) hX dX12_readsTimed_156 fl_X12_76 o_136 rfl (by omega) ?_
                refine R_aload_0 hX dX12_readsTimed_159 ?_
                refine R_geti hX dX12_readsTimed_160 fl_X12_205 o_136 rfl ?_
                try simp (disch := omega) only [up_i, up_k, up_s]
                refine R_iload_2 hX dX12_readsTimed_163 ?_
                refine R_iast hX dX12_readsTimed_164 a_155 ⟨by omega, by omega⟩ ?_
                refine R_aload_0 hX dX12_readsTimed_165 ?_
                refine R_getq (v := 156) hX dX12_readsTimed_166 fl_X12_79 o_136 rfl (by omega) ?_
                refine R_aload_0 hX dX12_readsTimed_169 ?_
                refine R_geti hX dX12_readsTimed_170 fl_X12_205 o_136 rfl ?_
                try simp (disch := omega) only [up_i, up_k, up_s]
                refine R_iload_3 hX dX12_readsTimed_173 ?_
                refine R_iast hX dX12_readsTimed_174 a_156 ⟨by omega, by omega⟩ ?_
                refine R_aload_0 hX dX12_readsTimed_175 ?_
                refine R_getq (v := 157) hX dX12_readsTimed_176 fl_X12_82 o_136 rfl (by omega) ?_
                refine R_aload_0 hX dX12_readsTimed_179 ?_
                refine R_geti hX dX12_readsTimed_180 fl_X12_205 o_136 rfl ?_
                try simp (disch := omega) only [up_i, up_k, up_s]
                refine R_iload_4 hX dX12_readsTimed_183 ?_
                refine R_iast hX dX12_readsTimed_185 a_157 ⟨by omega, by omega⟩ ?_
                refine R_aload_0 hX dX12_readsTimed_186 ?_
                refine R_dup hX c1_r dX12_readsTimed_187 ?_
                refine R_geti hX dX12_readsTimed_188 fl_X12_205 o_136 rfl ?_
                try simp (disch := omega) only [up_i, up_k, up_s]
                refine R_iconst hX dX12_readsTimed_191 ?_
                refine R_iadd hX dX12_readsTimed_192 ?_
                refine R_puti hX dX12_readsTimed_193 fl_X12_205 o_136 rfl ?_
                exact R_vret hX dX12_readsTimed_196 (by unfold tmS tmP; rw [if_pos hg0])
              · skip
                exact R_vret hX dX12_readsTimed_144 (by unfold tmS; rw [if_neg (by omega)])
            · skip
              refine R_sipush hX dX12_readsTimed_124 (by decide) ?_
              refine R_goto (tgt := 132) hX dX12_readsTimed_127 (by decide) ?_
              refine R_v2i hX dX12_readsTimed_132 li_X12_195 mk_X12_readsNumber mi_X12_readsNumber rfl o_136 (r_readsNumber nE.1 (by constructor <;> omega) (by constructor <;> omega)) ⟨⟨by decide, by decide⟩, by decide, by decide, rfl, Nat.le_of_ble_eq_true rfl, rfl⟩ (fun x_132 F_132 h_132 => ?_)
              obtain ⟨hx, hF⟩ := h_132
              subst hx
              subst hF
              refine R.eq rfl rfl (show _ = tmG F by unfold tmG; first | (rw [if_pos (by omega), if_neg (by omega), if_neg (by omega)]; done) | (rw [if_neg (by omega), if_pos (by omega)]; done) | (rw [if_neg (by omega), if_neg (by omega), if_pos (by omega)]; done) | (rw [if_neg (by omega), if_neg (by omega), if_neg (by omega)]; done) | (exfalso; omega)) ?_
              refine R_istore_4 hX c1_i dX12_readsTimed_135 ?_
              refine R_aload_0 hX dX12_readsTimed_137 ?_
              refine R_v0i hX dX12_readsTimed_138 li_X12_112 mk_X12_isGood mi_X12_isGood rfl o_136 (r_isGood (by have z := nG.1.2.1; constructor <;> omega)) ⟨⟨by decide, by decide⟩, by decide, by decide, rfl, Nat.le_of_ble_eq_true rfl, rfl⟩ (fun x_138 F_138 h_138 => ?_)
              obtain ⟨h_138, e_138⟩ := h_138; replace e_138 := e_138.symm; subst e_138
              refine R_ifne (tgt := 145) hX dX12_readsTimed_141 (by decide) (by constructor <;> first | omega | (simp (disch := omega) only [up_k, up_i, up_s]; omega)) (fun c_141 => ?_) (fun c_141 => ?_)
              · skip
                have hg0 : tmG F 136 19 = 0 := by omega
                have h12 := tm_39 h ha hg0
                have e39 : tmG F 136 39 = F 136 39 := nG.2.2.2.2.1
                have b39 := nG.1.2.2.2.2.2.2.1
                refine R_aload_0 hX dX12_readsTimed_145 ?_
                refine R_getq (v := 154) hX dX12_readsTimed_146 fl_X12_73 o_136 rfl (by omega) ?_
                refine R_aload_0 hX dX12_readsTimed_149 ?_
                refine R_geti hX dX12_readsTimed_150 fl_X12_205 o_136 rfl ?_
                try simp (disch := omega) only [up_i, up_k, up_s]
                refine R_iload_1 hX dX12_readsTimed_153 ?_
                refine R_iast hX dX12_readsTimed_154 a_154 ⟨by omega, by omega⟩ ?_
                refine R_aload_0 hX dX12_readsTimed_155 ?_
                refine R_getq (v := 155) hX dX12_readsTimed_156 fl_X12_76 o_136 rfl (by omega) ?_
                refine R_aload_0 hX dX12_readsTimed_159 ?_
                refine R_geti hX dX12_readsTimed_160 fl_X12_205 o_136 rfl ?_
                try simp (disch := omega) only [up_i, up_k, up_s]
                refine R_iload_2 hX dX12_readsTimed_163 ?_
                refine R_iast hX dX12_readsTimed_164 a_155 ⟨by omega, by omega⟩ ?_
                refine R_aload_0 hX dX12_readsTimed_165 ?_
                refine R_getq (v := 156) hX dX12_readsTimed_166 fl_X12_79 o_136 rfl (by omega) ?_
                refine R_aload_0 hX dX12_readsTimed_169 ?_
                refine R_geti hX dX12_readsTimed_170 fl_X12_205 o_136 rfl ?_
                try simp (disch := omega) only [up_i, up_k, up_s]
                refine R_iload_3 hX dX12_readsTimed_173 ?_
                refine R_iast hX dX12_readsTimed_174 a_156 ⟨by omega, by omega⟩ ?_
                refine R_aload_0 hX dX12_readsTimed_175 ?_
                refine R_getq (v := 157) hX dX12_readsTimed_176 fl_X12_82 o_136 rfl (by omega) ?_
                refine R_aload_0 hX dX12_readsTimed_179 ?_
                refine R_geti hX dX12_readsTimed_180 fl_X12_205 o_136 rfl ?_
                try simp (disch := omega) only [up_i, up_k, up_s]
                refine R_iload_4 hX dX12_readsTimed_183 ?_
                refine R_iast hX dX12_readsTimed_185 a_157 ⟨by omega, by omega⟩ ?_
                refine R_aload_0 hX dX12_readsTimed_186 ?_
                refine R_dup hX c1_r dX12_readsTimed_187 ?_
                refine R_geti hX dX12_readsTimed_188 fl_X12_205 o_136 rfl ?_
                try simp (disch := omega) only [up_i, up_k, up_s]
                refine R_iconst hX dX12_readsTimed_191 ?_
                refine R_iadd hX dX12_readsTimed_192 ?_
                refine R_puti hX dX12_readsTimed_193 fl_X12_205 o_136 rfl ?_
                exact R_vret hX dX12_readsTimed_196 (by unfold tmS tmP; rw [if_pos hg0])
              · skip
                exact R_vret hX dX12_readsTimed_144 (by unfold tmS; rw [if_neg (by omega)])
          · skip
            refine R_bipush hX dX12_readsTimed_114 (by decide) ?_
            refine R_goto (tgt := 132) hX dX12_readsTimed_116 (by decide) ?_
            refine R_v2i hX dX12_readsTimed_132 li_X12_195 mk_X12_readsNumber mi_X12_readsNumber rfl o_136 (r_readsNumber nE.1 (by constructor <;> omega) (by constructor <;> omega)) ⟨⟨by decide, by decide⟩, by decide, by decide, rfl, Nat.le_of_ble_eq_true rfl, rfl⟩ (fun x_132 F_132 h_132 => ?_)
            obtain ⟨hx, hF⟩ := h_132
            subst hx
            subst hF
            refine R.eq rfl rfl (show _ = tmG F by unfold tmG; first | (rw [if_pos (by omega), if_neg (by omega), if_neg (by omega)]; done) | (rw [if_neg (by omega), if_pos (by omega)]; done) | (rw [if_neg (by omega), if_neg (by omega), if_pos (by omega)]; done) | (rw [if_neg (by omega), if_neg (by omega), if_neg (by omega)]; done) | (exfalso; omega)) ?_
            refine R_istore_4 hX c1_i dX12_readsTimed_135 ?_
            refine R_aload_0 hX dX12_readsTimed_137 ?_
            refine R_v0i hX dX12_readsTimed_138 li_X12_112 mk_X12_isGood mi_X12_isGood rfl o_136 (r_isGood (by have z := nG.1.2.1; constructor <;> omega)) ⟨⟨by decide, by decide⟩, by decide, by decide, rfl, Nat.le_of_ble_eq_true rfl, rfl⟩ (fun x_138 F_138 h_138 => ?_)
            obtain ⟨h_138, e_138⟩ := h_138; replace e_138 := e_138.symm; subst e_138
            refine R_ifne (tgt := 145) hX dX12_readsTimed_141 (by decide) (by constructor <;> first | omega | (simp (disch := omega) only [up_k, up_i, up_s]; omega)) (fun c_141 => ?_) (fun c_141 => ?_)
            · skip
              have hg0 : tmG F 136 19 = 0 := by omega
              have h12 := tm_39 h ha hg0
              have e39 : tmG F 136 39 = F 136 39 := nG.2.2.2.2.1
              have b39 := nG.1.2.2.2.2.2.2.1
              refine R_aload_0 hX dX12_readsTimed_145 ?_
              refine R_getq (v := 154) hX dX12_readsTimed_146 fl_X12_73 o_136 rfl (by omega) ?_
              refine R_aload_0 hX dX12_readsTimed_149 ?_
              refine R_geti hX dX12_readsTimed_150 fl_X12_205 o_136 rfl ?_
              try simp (disch := omega) only [up_i, up_k, up_s]
              refine R_iload_1 hX dX12_readsTimed_153 ?_
              refine R_iast hX dX12_readsTimed_154 a_154 ⟨by omega, by omega⟩ ?_
              refine R_aload_0 hX dX12_readsTimed_155 ?_
              refine R_getq (v := 155) hX dX12_readsTimed_156 fl_X12_76 o_136 rfl (by omega) ?_
              refine R_aload_0 hX dX12_readsTimed_159 ?_
              refine R_geti hX dX12_readsTimed_160 fl_X12_205 o_136 rfl ?_
              try simp (disch := omega) only [up_i, up_k, up_s]
              refine R_iload_2 hX dX12_readsTimed_163 ?_
              refine R_iast hX dX12_readsTimed_164 a_155 ⟨by omega, by omega⟩ ?_
              refine R_aload_0 hX dX12_readsTimed_165 ?_
              refine R_getq (v := 156) hX dX12_readsTimed_166 fl_X12_79 o_136 rfl (by omega) ?_
              refine R_aload_0 hX dX12_readsTimed_169 ?_
              refine R_geti hX dX12_readsTimed_170 fl_X12_205 o_136 rfl ?_
              try simp (disch := omega) only [up_i, up_k, up_s]
              refine R_iload_3 hX dX12_readsTimed_173 ?_
              refine R_iast hX dX12_readsTimed_174 a_156 ⟨by omega, by omega⟩ ?_
              refine R_aload_0 hX dX12_readsTimed_175 ?_
              refine R_getq (v := 157) hX dX12_readsTimed_176 fl_X12_82 o_136 rfl (by omega) ?_
              refine R_aload_0 hX dX12_readsTimed_179 ?_
              refine R_geti hX dX12_readsTimed_180 fl_X12_205 o_136 rfl ?_
              try simp (disch := omega) only [up_i, up_k, up_s]
              refine R_iload_4 hX dX12_readsTimed_183 ?_
              refine R_iast hX dX12_readsTimed_185 a_157 ⟨by omega, by omega⟩ ?_
              refine R_aload_0 hX dX12_readsTimed_186 ?_
              refine R_dup hX c1_r dX12_readsTimed_187 ?_
              refine R_geti hX dX12_readsTimed_188 fl_X12_205 o_136 rfl ?_
              try simp (disch := omega) only [up_i, up_k, up_s]
              refine R_iconst hX dX12_readsTimed_191 ?_
              refine R_iadd hX dX12_readsTimed_192 ?_
              refine R_puti hX dX12_readsTimed_193 fl_X12_205 o_136 rfl ?_
              exact R_vret hX dX12_readsTimed_196 (by unfold tmS tmP; rw [if_pos hg0])
            · skip
              exact R_vret hX dX12_readsTimed_144 (by unfold tmS; rw [if_neg (by omega)])
        · skip
          refine R_iconst hX dX12_readsTimed_105 ?_
          refine R_goto (tgt := 110) hX dX12_readsTimed_106 (by decide) ?_
          refine R_iload_3 hX dX12_readsTimed_110 ?_
          refine R_ifne (tgt := 119) hX dX12_readsTimed_111 (by decide) (by constructor <;> first | omega | (simp (disch := omega) only [up_k, up_i, up_s]; omega)) (fun c_111 => ?_) (fun c_111 => ?_)
          · skip
            refine R_iload_3 hX dX12_readsTimed_119 ?_
            refine R_iconst hX dX12_readsTimed_120 ?_
            refine R_icmpne (tgt := 130) hX dX12_readsTimed_121 (by decide) (by constructor <;> first | omega | (simp (disch := omega) only [up_k, up_i, up_s]; omega)) (by constructor <;> first | omega | (simp (disch := omega) only [up_k, up_i, up_s]; omega)) (fun c_121 => ?_) (fun c_121 => ?_)
            · skip
              refine R_bipush hX dX12_readsTimed_130 (by decide) ?_
              refine R_v2i hX dX12_readsTimed_132 li_X12_195 mk_X12_readsNumber mi_X12_readsNumber rfl o_136 (r_readsNumber nE.1 (by constructor <;> omega) (by constructor <;> omega)) ⟨⟨by decide, by decide⟩, by decide, by decide, rfl, Nat.le_of_ble_eq_true rfl, rfl⟩ (fun x_132 F_132 h_132 => ?_)
              obtain ⟨hx, hF⟩ := h_132
              subst hx
              subst hF
              refine R.eq rfl rfl (show _ = tmG F by unfold tmG; first | (rw [if_pos (by omega), if_neg (by omega), if_neg (by omega)]; done) | (rw [if_neg (by omega), if_pos (by omega)]; done) | (rw [if_neg (by omega), if_neg (by omega), if_pos (by omega)]; done) | (rw [if_neg (by omega), if_neg (by omega), if_neg (by omega)]; done) | (exfalso; omega)) ?_
              refine R_istore_4 hX c1_i dX12_readsTimed_135 ?_
              refine R_aload_0 hX dX12_readsTimed_137 ?_
              refine R_v0i hX dX12_readsTimed_138 li_X12_112 mk_X12_isGood mi_X12_isGood rfl o_136 (r_isGood (by have z := nG.1.2.1; constructor <;> omega)) ⟨⟨by decide, by decide⟩, by decide, by decide, rfl, Nat.le_of_ble_eq_true rfl, rfl⟩ (fun x_138 F_138 h_138 => ?_)
              obtain ⟨h_138, e_138⟩ := h_138; replace e_138 := e_138.symm; subst e_138
              refine R_ifne (tgt := 145) hX dX12_readsTimed_141 (by decide) (by constructor <;> first | omega | (simp (disch := omega) only [up_k, up_i, up_s]; omega)) (fun c_141 => ?_) (fun c_141 => ?_)
              · skip
                have hg0 : tmG F 136 19 = 0 := by omega
                have h12 := tm_39 h ha hg0
                have e39 : tmG F 136 39 = F 136 39 := nG.2.2.2.2.1
                have b39 := nG.1.2.2.2.2.2.2.1
                refine R_aload_0 hX dX12_readsTimed_145 ?_
                refine R_getq (v := 154) hX dX12_readsTimed_146 fl_X12_73 o_136 rfl (by omega) ?_
                refine R_aload_0 hX dX12_readsTimed_149 ?_
                refine R_geti hX dX12_readsTimed_150 fl_X12_205 o_136 rfl ?_
                try simp (disch := omega) only [up_i, up_k, up_s]
                refine R_iload_1 hX dX12_readsTimed_153 ?_
                refine R_iast hX dX12_readsTimed_154 a_154 ⟨by omega, by omega⟩ ?_
                refine R_aload_0 hX dX12_readsTimed_155 ?_
                refine R_getq (v := 155) hX dX12_readsTimed_156 fl_X12_76 o_136 rfl (by omega) ?_
                refine R_aload_0 hX dX12_readsTimed_159 ?_
                refine R_geti hX dX12_readsTimed_160 fl_X12_205 o_136 rfl ?_
                try simp (disch := omega) only [up_i, up_k, up_s]
                refine R_iload_2 hX dX12_readsTimed_163 ?_
                refine R_iast hX dX12_readsTimed_164 a_155 ⟨by omega, by omega⟩ ?_
                refine R_aload_0 hX dX12_readsTimed_165 ?_
                refine R_getq (v := 156) hX dX12_readsTimed_166 fl_X12_79 o_136 rfl (by omega) ?_
                refine R_aload_0 hX dX12_readsTimed_169 ?_
                refine R_geti hX dX12_readsTimed_170 fl_X12_205 o_136 rfl ?_
                try simp (disch := omega) only [up_i, up_k, up_s]
                refine R_iload_3 hX dX12_readsTimed_173 ?_
                refine R_iast hX dX12_readsTimed_174 a_156 ⟨by omega, by omega⟩ ?_
                refine R_aload_0 hX dX12_readsTimed_175 ?_
                refine R_getq (v := 157) hX dX12_readsTimed_176 fl_X12_82 o_136 rfl (by omega) ?_
                refine R_aload_0 hX dX12_readsTimed_179 ?_
                refine R_geti hX dX12_readsTimed_180 fl_X12_205 o_136 rfl ?_
                try simp (disch := omega) only [up_i, up_k, up_s]
                refine R_iload_4 hX dX12_readsTimed_183 ?_
                refine R_iast hX dX12_readsTimed_185 a_157 ⟨by omega, by omega⟩ ?_
                refine R_aload_0 hX dX12_readsTimed_186 ?_
                refine R_dup hX c1_r dX12_readsTimed_187 ?_
                refine R_geti hX dX12_readsTimed_188 fl_X12_205 o_136 rfl ?_
                try simp (disch := omega) only [up_i, up_k, up_s]
                refine R_iconst hX dX12_readsTimed_191 ?_
                refine R_iadd hX dX12_readsTimed_192 ?_
                refine R_puti hX dX12_readsTimed_193 fl_X12_205 o_136 rfl ?_
                exact R_vret hX dX12_readsTimed_196 (by unfold tmS tmP; rw [if_pos hg0])
              · skip
                exact R_vret hX dX12_readsTimed_144 (by unfold tmS; rw [if_neg (by omega)])
            · skip
              refine R_sipush hX dX12_readsTimed_124 (by decide) ?_
              refine R_goto (tgt := 132) hX dX12_readsTimed_127 (by decide) ?_
              refine R_v2i hX dX12_readsTimed_132 li_X12_195 mk_X12_readsNumber mi_X12_readsNumber rfl o_136 (r_readsNumber nE.1 (by constructor <;> omega) (by constructor <;> omega)) ⟨⟨by decide, by decide⟩, by decide, by decide, rfl, Nat.le_of_ble_eq_true rfl, rfl⟩ (fun x_132 F_132 h_132 => ?_)
              obtain ⟨hx, hF⟩ := h_132
              subst hx
              subst hF
              refine R.eq rfl rfl (show _ = tmG F by unfold tmG; first | (rw [if_pos (by omega), if_neg (by omega), if_neg (by omega)]; done) | (rw [if_neg (by omega), if_pos (by omega)]; done) | (rw [if_neg (by omega), if_neg (by omega), if_pos (by omega)]; done) | (rw [if_neg (by omega), if_neg (by omega), if_neg (by omega)]; done) | (exfalso; omega)) ?_
              refine R_istore_4 hX c1_i dX12_readsTimed_135 ?_
              refine R_aload_0 hX dX12_readsTimed_137 ?_
              refine R_v0i hX dX12_readsTimed_138 li_X12_112 mk_X12_isGood mi_X12_isGood rfl o_136 (r_isGood (by have z := nG.1.2.1; constructor <;> omega)) ⟨⟨by decide, by decide⟩, by decide, by decide, rfl, Nat.le_of_ble_eq_true rfl, rfl⟩ (fun x_138 F_138 h_138 => ?_)
              obtain ⟨h_138, e_138⟩ := h_138; replace e_138 := e_138.symm; subst e_138
              refine R_ifne (tgt := 145) hX dX12_readsTimed_141 (by decide) (by constructor <;> first | omega | (simp (disch := omega) only [up_k, up_i, up_s]; omega)) (fun c_141 => ?_) (fun c_141 => ?_)
              · skip
                have hg0 : tmG F 136 19 = 0 := by omega
                have h12 := tm_39 h ha hg0
                have e39 : tmG F 136 39 = F 136 39 := nG.2.2.2.2.1
                have b39 := nG.1.2.2.2.2.2.2.1
                refine R_aload_0 hX dX12_readsTimed_145 ?_
                refine R_getq (v := 154) hX dX12_readsTimed_146 fl_X12_73 o_136 rfl (by omega) ?_
                refine R_aload_0 hX dX12_readsTimed_149 ?_
                refine R_geti hX dX12_readsTimed_150 fl_X12_205 o_136 rfl ?_
                try simp (disch := omega) only [up_i, up_k, up_s]
                refine R_iload_1 hX dX12_readsTimed_153 ?_
                refine R_iast hX dX12_readsTimed_154 a_154 ⟨by omega, by omega⟩ ?_
                refine R_aload_0 hX dX12_readsTimed_155 ?_
                refine R_getq (v := 155) hX dX12_readsTimed_156 fl_X12_76 o_136 rfl (by omega) ?_
                refine R_aload_0 hX dX12_readsTimed_159 ?_
                refine R_geti hX dX12_readsTimed_160 fl_X12_205 o_136 rfl ?_
                try simp (disch := omega) only [up_i, up_k, up_s]
                refine R_iload_2 hX dX12_readsTimed_163 ?_
                refine R_iast hX dX12_readsTimed_164 a_155 ⟨by omega, by omega⟩ ?_
                refine R_aload_0 hX dX12_readsTimed_165 ?_
                refine R_getq (v := 156) hX dX12_readsTimed_166 fl_X12_79 o_136 rfl (by omega) ?_
                refine R_aload_0 hX dX12_readsTimed_169 ?_
                refine R_geti hX dX12_readsTimed_170 fl_X12_205 o_136 rfl ?_
                try simp (disch := omega) only [up_i, up_k, up_s]
                refine R_iload_3 hX dX12_readsTimed_173 ?_
                refine R_iast hX dX12_readsTimed_174 a_156 ⟨by omega, by omega⟩ ?_
                refine R_aload_0 hX dX12_readsTimed_175 ?_
                refine R_getq (v := 157) hX dX12_readsTimed_176 fl_X12_82 o_136 rfl (by omega) ?_
                refine R_aload_0 hX dX12_readsTimed_179 ?_
                refine R_geti hX dX12_readsTimed_180 fl_X12_205 o_136 rfl ?_
                try simp (disch := omega) only [up_i, up_k, up_s]
                refine R_iload_4 hX dX12_readsTimed_183 ?_
                refine R_iast hX dX12_readsTimed_185 a_157 ⟨by omega, by omega⟩ ?_
                refine R_aload_0 hX dX12_readsTimed_186 ?_
                refine R_dup hX c1_r dX12_readsTimed_187 ?_
                refine R_geti hX dX12_readsTimed_188 fl_X12_205 o_136 rfl ?_
                try simp (disch := omega) only [up_i, up_k, up_s]
                refine R_iconst hX dX12_readsTimed_191 ?_
                refine R_iadd hX dX12_readsTimed_192 ?_
                refine R_puti hX dX12_readsTimed_193 fl_X12_205 o_136 rfl ?_
                exact R_vret hX dX12_readsTimed_196 (by unfold tmS tmP; rw [if_pos hg0])
              · skip
                exact R_vret hX dX12_readsTimed_144 (by unfold tmS; rw [if_neg (by omega)])
          · skip
            refine R_bipush hX dX12_readsTimed_114 (by decide) ?_
            refine R_goto (tgt := 132) hX dX12_readsTimed_116 (by decide) ?_
            refine R_v2i hX dX12_readsTimed_132 li_X12_195 mk_X12_readsNumber mi_X12_readsNumber rfl o_136 (r_readsNumber nE.1 (by constructor <;> omega) (by constructor <;> omega)) ⟨⟨by decide, by decide⟩, by decide, by decide, rfl, Nat.le_of_ble_eq_true rfl, rfl⟩ (fun x_132 F_132 h_132 => ?_)
            obtain ⟨hx, hF⟩ := h_132
            subst hx
            subst hF
            refine R.eq rfl rfl (show _ = tmG F by unfold tmG; first | (rw [if_pos (by omega), if_neg (by omega), if_neg (by omega)]; done) | (rw [if_neg (by omega), if_pos (by omega)]; done) | (rw [if_neg (by omega), if_neg (by omega), if_pos (by omega)]; done) | (rw [if_neg (by omega), if_neg (by omega), if_neg (by omega)]; done) | (exfalso; omega)) ?_
            refine R_istore_4 hX c1_i dX12_readsTimed_135 ?_
            refine R_aload_0 hX dX12_readsTimed_137 ?_
            refine R_v0i hX dX12_readsTimed_138 li_X12_112 mk_X12_isGood mi_X12_isGood rfl o_136 (r_isGood (by have z := nG.1.2.1; constructor <;> omega)) ⟨⟨by decide, by decide⟩, by decide, by decide, rfl, Nat.le_of_ble_eq_true rfl, rfl⟩ (fun x_138 F_138 h_138 => ?_)
            obtain ⟨h_138, e_138⟩ := h_138; replace e_138 := e_138.symm; subst e_138
            refine R_ifne (tgt := 145) hX dX12_readsTimed_141 (by decide) (by constructor <;> first | omega | (simp (disch := omega) only [up_k, up_i, up_s]; omega)) (fun c_141 => ?_) (fun c_141 => ?_)
            · skip
              have hg0 : tmG F 136 19 = 0 := by omega
              have h12 := tm_39 h ha hg0
              have e39 : tmG F 136 39 = F 136 39 := nG.2.2.2.2.1
              have b39 := nG.1.2.2.2.2.2.2.1
              refine R_aload_0 hX dX12_readsTimed_145 ?_
              refine R_getq (v := 154) hX dX12_readsTimed_146 fl_X12_73 o_136 rfl (by omega) ?_
              refine R_aload_0 hX dX12_readsTimed_149 ?_
              refine R_geti hX dX12_readsTimed_150 fl_X12_205 o_136 rfl ?_
              try simp (disch := omega) only [up_i, up_k, up_s]
              refine R_iload_1 hX dX12_readsTimed_153 ?_
              refine R_iast hX dX12_readsTimed_154 a_154 ⟨by omega, by omega⟩ ?_
              refine R_aload_0 hX dX12_readsTimed_155 ?_
              refine R_getq (v := 155) hX dX12_readsTimed_156 fl_X12_76 o_136 rfl (by omega) ?_
              refine R_aload_0 hX dX12_readsTimed_159 ?_
              refine R_geti hX dX12_readsTimed_160 fl_X12_205 o_136 rfl ?_
              try simp (disch := omega) only [up_i, up_k, up_s]
              refine R_iload_2 hX dX12_readsTimed_163 ?_
              refine R_iast hX dX12_readsTimed_164 a_155 ⟨by omega, by omega⟩ ?_
              refine R_aload_0 hX dX12_readsTimed_165 ?_
              refine R_getq (v := 156) hX dX12_readsTimed_166 fl_X12_79 o_136 rfl (by omega) ?_
              refine R_aload_0 hX dX12_readsTimed_169 ?_
              refine R_geti hX dX12_readsTimed_170 fl_X12_205 o_136 rfl ?_
              try simp (disch := omega) only [up_i, up_k, up_s]
              refine R_iload_3 hX dX12_readsTimed_173 ?_
              refine R_iast hX dX12_readsTimed_174 a_156 ⟨by omega, by omega⟩ ?_
              refine R_aload_0 hX dX12_readsTimed_175 ?_
              refine R_getq (v := 157) hX dX12_readsTimed_176 fl_X12_82 o_136 rfl (by omega) ?_
              refine R_aload_0 hX dX12_readsTimed_179 ?_
              refine R_geti hX dX12_readsTimed_180 fl_X12_205 o_136 rfl ?_
              try simp (disch := omega) only [up_i, up_k, up_s]
              refine R_iload_4 hX dX12_readsTimed_183 ?_
              refine R_iast hX dX12_readsTimed_185 a_157 ⟨by omega, by omega⟩ ?_
              refine R_aload_0 hX dX12_readsTimed_186 ?_
              refine R_dup hX c1_r dX12_readsTimed_187 ?_
              refine R_geti hX dX12_readsTimed_188 fl_X12_205 o_136 rfl ?_
              try simp (disch := omega) only [up_i, up_k, up_s]
              refine R_iconst hX dX12_readsTimed_191 ?_
              refine R_iadd hX dX12_readsTimed_192 ?_
              refine R_puti hX dX12_readsTimed_193 fl_X12_205 o_136 rfl ?_
              exact R_vret hX dX12_readsTimed_196 (by unfold tmS tmP; rw [if_pos hg0])
            · skip
              exact R_vret hX dX12_readsTimed_144 (by unfold tmS; rw [if_neg (by omega)])
      · skip
        refine R_iload_3 hX dX12_readsTimed_76 ?_
        refine R_iconst hX dX12_readsTimed_77 ?_
        refine R_icmpeq (tgt := 86) hX dX12_readsTimed_78 (by decide) (by constructor <;> first | omega | (simp (disch := omega) only [up_k, up_i, up_s]; omega)) (by constructor <;> first | omega | (simp (disch := omega) only [up_k, up_i, up_s]; omega)) (fun c_78 => ?_) (fun c_78 => ?_)
        · skip
          refine R_iconst hX dX12_readsTimed_86 ?_
          refine R_goto (tgt := 91) hX dX12_readsTimed_87 (by decide) ?_
          refine R_iconst hX dX12_readsTimed_91 ?_
          refine R_v2v hX dX12_readsTimed_92 li_X12_175 mk_X12_must mi_X12_must rfl o_136 (r_must (by have z := (nD.1).2.1; constructor <;> omega) (by have z := (nD.1).2.2.1; constructor <;> omega) (by omega)) ⟨⟨by decide, by decide⟩, by decide, by decide, rfl, Nat.le_of_ble_eq_true rfl, rfl⟩ (fun x_92 F_92 h_92 => ?_)
          subst h_92
          refine R.eq rfl rfl (show _ = mu (stH (tmD F) = 0 ∨ stH (tmD F) = 1 ∨ stH (tmD F) = 4) 1 (tmD F) from mu_iff (by omega)) ?_
          refine R_aload_0 hX dX12_readsTimed_95 ?_
          refine R_v0v hX dX12_readsTimed_96 li_X12_179 mk_X12_scans mi_X12_scans rfl o_136 (r_scans (nD.1.mu (g := stH (tmD F) = 0 ∨ stH (tmD F) = 1 ∨ stH (tmD F) = 4) (c := 1) (by omega)).1 (by have z := (nD.1.mu (g := stH (tmD F) = 0 ∨ stH (tmD F) = 1 ∨ stH (tmD F) = 4) (c := 1) (by omega)).2.1; constructor <;> omega)) ⟨⟨by decide, by decide⟩, by decide, by decide, rfl, Nat.le_of_ble_eq_true rfl, rfl⟩ (fun x_96 F_96 h_96 => ?_)
          subst h_96
          refine R.eq rfl rfl (show _ = tmE F from rfl) ?_
          refine R_aload_0 hX dX12_readsTimed_99 ?_
          refine R_iload_3 hX dX12_readsTimed_100 ?_
          refine R_iconst hX dX12_readsTimed_101 ?_
          refine R_icmpne (tgt := 109) hX dX12_readsTimed_102 (by decide) (by constructor <;> first | omega | (simp (disch := omega) only [up_k, up_i, up_s]; omega)) (by constructor <;> first | omega | (simp (disch := omega) only [up_k, up_i, up_s]; omega)) (fun c_102 => ?_) (fun c_102 => ?_)
          · skip
            refine R_iconst hX dX12_readsTimed_109 ?_
            refine R_iload_3 hX dX12_readsTimed_110 ?_
            refine R_ifne (tgt := 119) hX dX12_readsTimed_111 (by decide) (by constructor <;> first | omega | (simp (disch := omega) only [up_k, up_i, up_s]; omega)) (fun c_111 => ?_) (fun c_111 => ?_)
            · skip
              refine R_iload_3 hX dX12_readsTimed_119 ?_
              refine R_iconst hX dX12_readsTimed_120 ?_
              refine R_icmpne (tgt := 130) hX dX12_readsTimed_121 (by decide) (by constructor <;> first | omega | (simp (disch := omega) only [up_k, up_i, up_s]; omega)) (by constructor <;> first | omega | (simp (disch := omega) only [up_k, up_i, up_s]; omega)) (fun c_121 => ?_) (fun c_121 => ?_)
              · skip
                refine R_bipush hX dX12_readsTimed_130 (by decide) ?_
                refine R_v2i hX dX12_readsTimed_132 li_X12_195 mk_X12_readsNumber mi_X12_readsNumber rfl o_136 (r_readsNumber nE.1 (by constructor <;> omega) (by constructor <;> omega)) ⟨⟨by decide, by decide⟩, by decide, by decide, rfl, Nat.le_of_ble_eq_true rfl, rfl⟩ (fun x_132 F_132 h_132 => ?_)
                obtain ⟨hx, hF⟩ := h_132
                subst hx
                subst hF
                refine R.eq rfl rfl (show _ = tmG F by unfold tmG; first | (rw [if_pos (by omega), if_neg (by omega), if_neg (by omega)]; done) | (rw [if_neg (by omega), if_pos (by omega)]; done) | (rw [if_neg (by omega), if_neg (by omega), if_pos (by omega)]; done) | (rw [if_neg (by omega), if_neg (by omega), if_neg (by omega)]; done) | (exfalso; omega)) ?_
                refine R_istore_4 hX c1_i dX12_readsTimed_135 ?_
                refine R_aload_0 hX dX12_readsTimed_137 ?_
                refine R_v0i hX dX12_readsTimed_138 li_X12_112 mk_X12_isGood mi_X12_isGood rfl o_136 (r_isGood (by have z := nG.1.2.1; constructor <;> omega)) ⟨⟨by decide, by decide⟩, by decide, by decide, rfl, Nat.le_of_ble_eq_true rfl, rfl⟩ (fun x_138 F_138 h_138 => ?_)
                obtain ⟨h_138, e_138⟩ := h_138; replace e_138 := e_138.symm; subst e_138
                refine R_ifne (tgt := 145) hX dX12_readsTimed_141 (by decide) (by constructor <;> first | omega | (simp (disch := omega) only [up_k, up_i, up_s]; omega)) (fun c_141 => ?_) (fun c_141 => ?_)
                · skip
                  have hg0 : tmG F 136 19 = 0 := by omega
                  have h12 := tm_39 h ha hg0
                  have e39 : tmG F 136 39 = F 136 39 := nG.2.2.2.2.1
                  have b39 := nG.1.2.2.2.2.2.2.1
                  refine R_aload_0 hX dX12_readsTimed_145 ?_
                  refine R_getq (v := 154) hX dX12_readsTimed_146 fl_X12_73 o_136 rfl (by omega) ?_
                  refine R_aload_0 hX dX12_readsTimed_149 ?_
                  refine R_geti hX dX12_readsTimed_150 fl_X12_205 o_136 rfl ?_
                  try simp (disch := omega) only [up_i, up_k, up_s]
                  refine R_iload_1 hX dX12_readsTimed_153 ?_
                  refine R_iast hX dX12_readsTimed_154 a_154 ⟨by omega, by omega⟩ ?_
                  refine R_aload_0 hX dX12_readsTimed_155 ?_
                  refine R_getq (v := 155) hX dX12_readsTimed_156 fl_X12_76 o_136 rfl (by omega) ?_
                  refine R_aload_0 hX dX12_readsTimed_159 ?_
                  refine R_geti hX dX12_readsTimed_160 fl_X12_205 o_136 rfl ?_
                  try simp (disch := omega) only [up_i, up_k, up_s]
                  refine R_iload_2 hX dX12_readsTimed_163 ?_
                  refine R_iast hX dX12_readsTimed_164 a_155 ⟨by omega, by omega⟩ ?_
                  refine R_aload_0 hX dX12_readsTimed_165 ?_
                  refine R_getq (v := 156) hX dX12_readsTimed_166 fl_X12_79 o_136 rfl (by omega) ?_
                  refine R_aload_0 hX dX12_readsTimed_169 ?_
                  refine R_geti hX dX12_readsTimed_170 fl_X12_205 o_136 rfl ?_
                  try simp (disch := omega) only [up_i, up_k, up_s]
                  refine R_iload_3 hX dX12_readsTimed_173 ?_
                  refine R_iast hX dX12_readsTimed_174 a_156 ⟨by omega, by omega⟩ ?_
                  refine R_aload_0 hX dX12_readsTimed_175 ?_
                  refine R_getq (v := 157) hX dX12_readsTimed_176 fl_X12_82 o_136 rfl (by omega) ?_
                  refine R_aload_0 hX dX12_readsTimed_179 ?_
                  refine R_geti hX dX12_readsTimed_180 fl_X12_205 o_136 rfl ?_
                  try simp (disch := omega) only [up_i, up_k, up_s]
                  refine R_iload_4 hX dX12_readsTimed_183 ?_
                  refine R_iast hX dX12_readsTimed_185 a_157 ⟨by omega, by omega⟩ ?_
                  refine R_aload_0 hX dX12_readsTimed_186 ?_
                  refine R_dup hX c1_r dX12_readsTimed_187 ?_
                  refine R_geti hX dX12_readsTimed_188 fl_X12_205 o_136 rfl ?_
                  try simp (disch := omega) only [up_i, up_k, up_s]
                  refine R_iconst hX dX12_readsTimed_191 ?_
                  refine R_iadd hX dX12_readsTimed_192 ?_
                  refine R_puti hX dX12_readsTimed_193 fl_X12_205 o_136 rfl ?_
                  exact R_vret hX dX12_readsTimed_196 (by unfold tmS tmP; rw [if_pos hg0])
                · skip
                  exact R_vret hX dX12_readsTimed_144 (by unfold tmS; rw [if_neg (by omega)])
              · skip
                refine R_sipush hX dX12_readsTimed_124 (by decide) ?_
                refine R_goto (tgt := 132) hX dX12_readsTimed_127 (by decide) ?_
                refine R_v2i hX dX12_readsTimed_132 li_X12_195 mk_X12_readsNumber mi_X12_readsNumber rfl o_136 (r_readsNumber nE.1 (by constructor <;> omega) (by constructor <;> omega)) ⟨⟨by decide, by decide⟩, by decide, by decide, rfl, Nat.le_of_ble_eq_true rfl, rfl⟩ (fun x_132 F_132 h_132 => ?_)
                obtain ⟨hx, hF⟩ := h_132
                subst hx
                subst hF
                refine R.eq rfl rfl (show _ = tmG F by unfold tmG; first | (rw [if_pos (by omega), if_neg (by omega), if_neg (by omega)]; done) | (rw [if_neg (by omega), if_pos (by omega)]; done) | (rw [if_neg (by omega), if_neg (by omega), if_pos (by omega)]; done) | (rw [if_neg (by omega), if_neg (by omega), if_neg (by omega)]; done) | (exfalso; omega)) ?_
                refine R_istore_4 hX c1_i dX12_readsTimed_135 ?_
                refine R_aload_0 hX dX12_readsTimed_137 ?_
                refine R_v0i hX dX12_readsTimed_138 li_X12_112 mk_X12_isGood mi_X12_isGood rfl o_136 (r_isGood (by have z := nG.1.2.1; constructor <;> omega)) ⟨⟨by decide, by decide⟩, by decide, by decide, rfl, Nat.le_of_ble_eq_true rfl, rfl⟩ (fun x_138 F_138 h_138 => ?_)
                obtain ⟨h_138, e_138⟩ := h_138; replace e_138 := e_138.symm; subst e_138
                refine R_ifne (tgt := 145) hX dX12_readsTimed_141 (by decide) (by constructor <;> first | omega | (simp (disch := omega) only [up_k, up_i, up_s]; omega)) (fun c_141 => ?_) (fun c_141 => ?_)
                · skip
                  have hg0 : tmG F 136 19 = 0 := by omega
                  have h12 := tm_39 h ha hg0
                  have e39 : tmG F 136 39 = F 136 39 := nG.2.2.2.2.1
                  have b39 := nG.1.2.2.2.2.2.2.1
                  refine R_aload_0 hX dX12_readsTimed_145 ?_
                  refine R_getq (v := 154) hX dX12_readsTimed_146 fl_X12_73 o_136 rfl (by omega) ?_
                  refine R_aload_0 hX dX12_readsTimed_149 ?_
                  refine R_geti hX dX12_readsTimed_150 fl_X12_205 o_136 rfl ?_
                  try simp (disch := omega) only [up_i, up_k, up_s]
                  refine R_iload_1 hX dX12_readsTimed_153 ?_
                  refine R_iast hX dX12_readsTimed_154 a_154 ⟨by omega, by omega⟩ ?_
                  refine R_aload_0 hX dX12_readsTimed_155 ?_
                  refine R_getq (v := 155) hX dX12_readsTimed_156 fl_X12_76 o_136 rfl (by omega) ?_
                  refine R_aload_0 hX dX12_readsTimed_159 ?_
                  refine R_geti hX dX12_readsTimed_160 fl_X12_205 o_136 rfl ?_
                  try simp (disch := omega) only [up_i, up_k, up_s]
                  refine R_iload_2 hX dX12_readsTimed_163 ?_
                  refine R_iast hX dX12_readsTimed_164 a_155 ⟨by omega, by omega⟩ ?_
                  refine R_aload_0 hX dX12_readsTimed_165 ?_
                  refine R_getq (v := 156) hX dX12_readsTimed_166 fl_X12_79 o_136 rfl (by omega) ?_
                  refine R_aload_0 hX dX12_readsTimed_169 ?_
                  refine R_geti hX dX12_readsTimed_170 fl_X12_205 o_136 rfl ?_
                  try simp (disch := omega) only [up_i, up_k, up_s]
                  refine R_iload_3 hX dX12_readsTimed_173 ?_
                  refine R_iast hX dX12_readsTimed_174 a_156 ⟨by omega, by omega⟩ ?_
                  refine R_aload_0 hX dX12_readsTimed_175 ?_
                  refine R_getq (v := 157) hX dX12_readsTimed_176 fl_X12_82 o_136 rfl (by omega) ?_
                  refine R_aload_0 hX dX12_readsTimed_179 ?_
                  refine R_geti hX dX12_readsTimed_180 fl_X12_205 o_136 rfl ?_
                  try simp (disch := omega) only [up_i, up_k, up_s]
                  refine R_iload_4 hX dX12_readsTimed_183 ?_
                  refine R_iast hX dX12_readsTimed_185 a_157 ⟨by omega, by omega⟩ ?_
                  refine R_aload_0 hX dX12_readsTimed_186 ?_
                  refine R_dup hX c1_r dX12_readsTimed_187 ?_
                  refine R_geti hX dX12_readsTimed_188 fl_X12_205 o_136 rfl ?_
                  try simp (disch := omega) only [up_i, up_k, up_s]
                  refine R_iconst hX dX12_readsTimed_191 ?_
                  refine R_iadd hX dX12_readsTimed_192 ?_
                  refine R_puti hX dX12_readsTimed_193 fl_X12_205 o_136 rfl ?_
                  exact R_vret hX dX12_readsTimed_196 (by unfold tmS tmP; rw [if_pos hg0])
                · skip
                  exact R_vret hX dX12_readsTimed_144 (by unfold tmS; rw [if_neg (by omega)])
            · skip
              refine R_bipush hX dX12_readsTimed_114 (by decide) ?_
              refine R_goto (tgt := 132) hX dX12_readsTimed_116 (by decide) ?_
              refine R_v2i hX dX12_readsTimed_132 li_X12_195 mk_X12_readsNumber mi_X12_readsNumber rfl o_136 (r_readsNumber nE.1 (by constructor <;> omega) (by constructor <;> omega)) ⟨⟨by decide, by decide⟩, by decide, by decide, rfl, Nat.le_of_ble_eq_true rfl, rfl⟩ (fun x_132 F_132 h_132 => ?_)
              obtain ⟨hx, hF⟩ := h_132
              subst hx
              subst hF
              refine R.eq rfl rfl (show _ = tmG F by unfold tmG; first | (rw [if_pos (by omega), if_neg (by omega), if_neg (by omega)]; done) | (rw [if_neg (by omega), if_pos (by omega)]; done) | (rw [if_neg (by omega), if_neg (by omega), if_pos (by omega)]; done) | (rw [if_neg (by omega), if_neg (by omega), if_neg (by omega)]; done) | (exfalso; omega)) ?_
              refine R_istore_4 hX c1_i dX12_readsTimed_135 ?_
              refine R_aload_0 hX dX12_readsTimed_137 ?_
              refine R_v0i hX dX12_readsTimed_138 li_X12_112 mk_X12_isGood mi_X12_isGood rfl o_136 (r_isGood (by have z := nG.1.2.1; constructor <;> omega)) ⟨⟨by decide, by decide⟩, by decide, by decide, rfl, Nat.le_of_ble_eq_true rfl, rfl⟩ (fun x_138 F_138 h_138 => ?_)
              obtain ⟨h_138, e_138⟩ := h_138; replace e_138 := e_138.symm; subst e_138
              refine R_ifne (tgt := 145) hX dX12_readsTimed_141 (by decide) (by constructor <;> first | omega | (simp (disch := omega) only [up_k, up_i, up_s]; omega)) (fun c_141 => ?_) (fun c_141 => ?_)
              · skip
                have hg0 : tmG F 136 19 = 0 := by omega
                have h12 := tm_39 h ha hg0
                have e39 : tmG F 136 39 = F 136 39 := nG.2.2.2.2.1
                have b39 := nG.1.2.2.2.2.2.2.1
                refine R_aload_0 hX dX12_readsTimed_145 ?_
                refine R_getq (v := 154) hX dX12_readsTimed_146 fl_X12_73 o_136 rfl (by omega) ?_
                refine R_aload_0 hX dX12_readsTimed_149 ?_
                refine R_geti hX dX12_readsTimed_150 fl_X12_205 o_136 rfl ?_
                try simp (disch := omega) only [up_i, up_k, up_s]
                refine R_iload_1 hX dX12_readsTimed_153 ?_
                refine R_iast hX dX12_readsTimed_154 a_154 ⟨by omega, by omega⟩ ?_
                refine R_aload_0 hX dX12_readsTimed_155 ?_
                refine R_getq (v := 155) hX dX12_readsTimed_156 fl_X12_76 o_136 rfl (by omega) ?_
                refine R_aload_0 hX dX12_readsTimed_159 ?_
                refine R_geti hX dX12_readsTimed_160 fl_X12_205 o_136 rfl ?_
                try simp (disch := omega) only [up_i, up_k, up_s]
                refine R_iload_2 hX dX12_readsTimed_163 ?_
                refine R_iast hX dX12_readsTimed_164 a_155 ⟨by omega, by omega⟩ ?_
                refine R_aload_0 hX dX12_readsTimed_165 ?_
                refine R_getq (v := 156) hX dX12_readsTimed_166 fl_X12_79 o_136 rfl (by omega) ?_
                refine R_aload_0 hX dX12_readsTimed_169 ?_
                refine R_geti hX dX12_readsTimed_170 fl_X12_205 o_136 rfl ?_
                try simp (disch := omega) only [up_i, up_k, up_s]
                refine R_iload_3 hX dX12_readsTimed_173 ?_
                refine R_iast hX dX12_readsTimed_174 a_156 ⟨by omega, by omega⟩ ?_
                refine R_aload_0 hX dX12_readsTimed_175 ?_
                refine R_getq (v := 157) hX dX12_readsTimed_176 fl_X12_82 o_136 rfl (by omega) ?_
                refine R_aload_0 hX dX12_readsTimed_179 ?_
                refine R_geti hX dX12_readsTimed_180 fl_X12_205 o_136 rfl ?_
                try simp (disch := omega) only [up_i, up_k, up_s]
                refine R_iload_4 hX dX12_readsTimed_183 ?_
                refine R_iast hX dX12_readsTimed_185 a_157 ⟨by omega, by omega⟩ ?_
                refine R_aload_0 hX dX12_readsTimed_186 ?_
                refine R_dup hX c1_r dX12_readsTimed_187 ?_
                refine R_geti hX dX12_readsTimed_188 fl_X12_205 o_136 rfl ?_
                try simp (disch := omega) only [up_i, up_k, up_s]
                refine R_iconst hX dX12_readsTimed_191 ?_
                refine R_iadd hX dX12_readsTimed_192 ?_
                refine R_puti hX dX12_readsTimed_193 fl_X12_205 o_136 rfl ?_
                exact R_vret hX dX12_readsTimed_196 (by unfold tmS tmP; rw [if_pos hg0])
              · skip
                exact R_vret hX dX12_readsTimed_144 (by unfold tmS; rw [if_neg (by omega)])
          · skip
            refine R_iconst hX dX12_readsTimed_105 ?_
            refine R_goto (tgt := 110) hX dX12_readsTimed_106 (by decide) ?_
            refine R_iload_3 hX dX12_readsTimed_110 ?_
            refine R_ifne (tgt := 119) hX dX12_readsTimed_111 (by decide) (by constructor <;> first | omega | (simp (disch := omega) only [up_k, up_i, up_s]; omega)) (fun c_111 => ?_) (fun c_111 => ?_)
            · skip
              refine R_iload_3 hX dX12_readsTimed_119 ?_
              refine R_iconst hX dX12_readsTimed_120 ?_
              refine R_icmpne (tgt := 130) hX dX12_readsTimed_121 (by decide) (by constructor <;> first | omega | (simp (disch := omega) only [up_k, up_i, up_s]; omega)) (by constructor <;> first | omega | (simp (disch := omega) only [up_k, up_i, up_s]; omega)) (fun c_121 => ?_) (fun c_121 => ?_)
              · skip
                refine R_bipush hX dX12_readsTimed_130 (by decide) ?_
                refine R_v2i hX dX12_readsTimed_132 li_X12_195 mk_X12_readsNumber mi_X12_readsNumber rfl o_136 (r_readsNumber nE.1 (by constructor <;> omega) (by constructor <;> omega)) ⟨⟨by decide, by decide⟩, by decide, by decide, rfl, Nat.le_of_ble_eq_true rfl, rfl⟩ (fun x_132 F_132 h_132 => ?_)
                obtain ⟨hx, hF⟩ := h_132
                subst hx
                subst hF
                refine R.eq rfl rfl (show _ = tmG F by unfold tmG; first | (rw [if_pos (by omega), if_neg (by omega), if_neg (by omega)]; done) | (rw [if_neg (by omega), if_pos (by omega)]; done) | (rw [if_neg (by omega), if_neg (by omega), if_pos (by omega)]; done) | (rw [if_neg (by omega), if_neg (by omega), if_neg (by omega)]; done) | (exfalso; omega)) ?_
                refine R_istore_4 hX c1_i dX12_readsTimed_135 ?_
                refine R_aload_0 hX dX12_readsTimed_137 ?_
                refine R_v0i hX dX12_readsTimed_138 li_X12_112 mk_X12_isGood mi_X12_isGood rfl o_136 (r_isGood (by have z := nG.1.2.1; constructor <;> omega)) ⟨⟨by decide, by decide⟩, by decide, by decide, rfl, Nat.le_of_ble_eq_true rfl, rfl⟩ (fun x_138 F_138 h_138 => ?_)
                obtain ⟨h_138, e_138⟩ := h_138; replace e_138 := e_138.symm; subst e_138
                refine R_ifne (tgt := 145) hX dX12_readsTimed_141 (by decide) (by constructor <;> first | omega | (simp (disch := omega) only [up_k, up_i, up_s]; omega)) (fun c_141 => ?_) (fun c_141 => ?_)
                · skip
                  have hg0 : tmG F 136 19 = 0 := by omega
                  have h12 := tm_39 h ha hg0
                  have e39 : tmG F 136 39 = F 136 39 := nG.2.2.2.2.1
                  have b39 := nG.1.2.2.2.2.2.2.1
                  refine R_aload_0 hX dX12_readsTimed_145 ?_
                  refine R_getq (v := 154) hX dX12_readsTimed_146 fl_X12_73 o_136 rfl (by omega) ?_
                  refine R_aload_0 hX dX12_readsTimed_149 ?_
                  refine R_geti hX dX12_readsTimed_150 fl_X12_205 o_136 rfl ?_
                  try simp (disch := omega) only [up_i, up_k, up_s]
                  refine R_iload_1 hX dX12_readsTimed_153 ?_
                  refine R_iast hX dX12_readsTimed_154 a_154 ⟨by omega, by omega⟩ ?_
                  refine R_aload_0 hX dX12_readsTimed_155 ?_
                  refine R_getq (v := 155) hX dX12_readsTimed_156 fl_X12_76 o_136 rfl (by omega) ?_
                  refine R_aload_0 hX dX12_readsTimed_159 ?_
                  refine R_geti hX dX12_readsTimed_160 fl_X12_205 o_136 rfl ?_
                  try simp (disch := omega) only [up_i, up_k, up_s]
                  refine R_iload_2 hX dX12_readsTimed_163 ?_
                  refine R_iast hX dX12_readsTimed_164 a_155 ⟨by omega, by omega⟩ ?_
                  refine R_aload_0 hX dX12_readsTimed_165 ?_
                  refine R_getq (v := 156) hX dX12_readsTimed_166 fl_X12_79 o_136 rfl (by omega) ?_
                  refine R_aload_0 hX dX12_readsTimed_169 ?_
                  refine R_geti hX dX12_readsTimed_170 fl_X12_205 o_136 rfl ?_
                  try simp (disch := omega) only [up_i, up_k, up_s]
                  refine R_iload_3 hX dX12_readsTimed_173 ?_
                  refine R_iast hX dX12_readsTimed_174 a_156 ⟨by omega, by omega⟩ ?_
                  refine R_aload_0 hX dX12_readsTimed_175 ?_
                  refine R_getq (v := 157) hX dX12_readsTimed_176 fl_X12_82 o_136 rfl (by omega) ?_
                  refine R_aload_0 hX dX12_readsTimed_179 ?_
                  refine R_geti hX dX12_readsTimed_180 fl_X12_205 o_136 rfl ?_
                  try simp (disch := omega) only [up_i, up_k, up_s]
                  refine R_iload_4 hX dX12_readsTimed_183 ?_
                  refine R_iast hX dX12_readsTimed_185 a_157 ⟨by omega, by omega⟩ ?_
                  refine R_aload_0 hX dX12_readsTimed_186 ?_
                  refine R_dup hX c1_r dX12_readsTimed_187 ?_
                  refine R_geti hX dX12_readsTimed_188 fl_X12_205 o_136 rfl ?_
                  try simp (disch := omega) only [up_i, up_k, up_s]
                  refine R_iconst hX dX12_readsTimed_191 ?_
                  refine R_iadd hX dX12_readsTimed_192 ?_
                  refine R_puti hX dX12_readsTimed_193 fl_X12_205 o_136 rfl ?_
                  exact R_vret hX dX12_readsTimed_196 (by unfold tmS tmP; rw [if_pos hg0])
                · skip
                  exact R_vret hX dX12_readsTimed_144 (by unfold tmS; rw [if_neg (by omega)])
              · skip
                refine R_sipush hX dX12_readsTimed_124 (by decide) ?_
                refine R_goto (tgt := 132) hX dX12_readsTimed_127 (by decide) ?_
                refine R_v2i hX dX12_readsTimed_132 li_X12_195 mk_X12_readsNumber mi_X12_readsNumber rfl o_136 (r_readsNumber nE.1 (by constructor <;> omega) (by constructor <;> omega)) ⟨⟨by decide, by decide⟩, by decide, by decide, rfl, Nat.le_of_ble_eq_true rfl, rfl⟩ (fun x_132 F_132 h_132 => ?_)
                obtain ⟨hx, hF⟩ := h_132
                subst hx
                subst hF
                refine R.eq rfl rfl (show _ = tmG F by unfold tmG; first | (rw [if_pos (by omega), if_neg (by omega), if_neg (by omega)]; done) | (rw [if_neg (by omega), if_pos (by omega)]; done) | (rw [if_neg (by omega), if_neg (by omega), if_pos (by omega)]; done) | (rw [if_neg (by omega), if_neg (by omega), if_neg (by omega)]; done) | (exfalso; omega)) ?_
                refine R_istore_4 hX c1_i dX12_readsTimed_135 ?_
                refine R_aload_0 hX dX12_readsTimed_137 ?_
                refine R_v0i hX dX12_readsTimed_138 li_X12_112 mk_X12_isGood mi_X12_isGood rfl o_136 (r_isGood (by have z := nG.1.2.1; constructor <;> omega)) ⟨⟨by decide, by decide⟩, by decide, by decide, rfl, Nat.le_of_ble_eq_true rfl, rfl⟩ (fun x_138 F_138 h_138 => ?_)
                obtain ⟨h_138, e_138⟩ := h_138; replace e_138 := e_138.symm; subst e_138
                refine R_ifne (tgt := 145) hX dX12_readsTimed_141 (by decide) (by constructor <;> first | omega | (simp (disch := omega) only [up_k, up_i, up_s]; omega)) (fun c_141 => ?_) (fun c_141 => ?_)
                · skip
                  have hg0 : tmG F 136 19 = 0 := by omega
                  have h12 := tm_39 h ha hg0
                  have e39 : tmG F 136 39 = F 136 39 := nG.2.2.2.2.1
                  have b39 := nG.1.2.2.2.2.2.2.1
                  refine R_aload_0 hX dX12_readsTimed_145 ?_
                  refine R_getq (v := 154) hX dX12_readsTimed_146 fl_X12_73 o_136 rfl (by omega) ?_
                  refine R_aload_0 hX dX12_readsTimed_149 ?_
                  refine R_geti hX dX12_readsTimed_150 fl_X12_205 o_136 rfl ?_
                  try simp (disch := omega) only [up_i, up_k, up_s]
                  refine R_iload_1 hX dX12_readsTimed_153 ?_
                  refine R_iast hX dX12_readsTimed_154 a_154 ⟨by omega, by omega⟩ ?_
                  refine R_aload_0 hX dX12_readsTimed_155 ?_
                  refine R_getq (v := 155) hX dX12_readsTimed_156 fl_X12_76 o_136 rfl (by omega) ?_
                  refine R_aload_0 hX dX12_readsTimed_159 ?_
                  refine R_geti hX dX12_readsTimed_160 fl_X12_205 o_136 rfl ?_
                  try simp (disch := omega) only [up_i, up_k, up_s]
                  refine R_iload_2 hX dX12_readsTimed_163 ?_
                  refine R_iast hX dX12_readsTimed_164 a_155 ⟨by omega, by omega⟩ ?_
                  refine R_aload_0 hX dX12_readsTimed_165 ?_
                  refine R_getq (v := 156) hX dX12_readsTimed_166 fl_X12_79 o_136 rfl (by omega) ?_
                  refine R_aload_0 hX dX12_readsTimed_169 ?_
                  refine R_geti hX dX12_readsTimed_170 fl_X12_205 o_136 rfl ?_
                  try simp (disch := omega) only [up_i, up_k, up_s]
                  refine R_iload_3 hX dX12_readsTimed_173 ?_
                  refine R_iast hX dX12_readsTimed_174 a_156 ⟨by omega, by omega⟩ ?_
                  refine R_aload_0 hX dX12_readsTimed_175 ?_
                  refine R_getq (v := 157) hX dX12_readsTimed_176 fl_X12_82 o_136 rfl (by omega) ?_
                  refine R_aload_0 hX dX12_readsTimed_179 ?_
                  refine R_geti hX dX12_readsTimed_180 fl_X12_205 o_136 rfl ?_
                  try simp (disch := omega) only [up_i, up_k, up_s]
                  refine R_iload_4 hX dX12_readsTimed_183 ?_
                  refine R_iast hX dX12_readsTimed_185 a_157 ⟨by omega, by omega⟩ ?_
                  refine R_aload_0 hX dX12_readsTimed_186 ?_
                  refine R_dup hX c1_r dX12_readsTimed_187 ?_
                  refine R_geti hX dX12_readsTimed_188 fl_X12_205 o_136 rfl ?_
                  try simp (disch := omega) only [up_i, up_k, up_s]
                  refine R_iconst hX dX12_readsTimed_191 ?_
                  refine R_iadd hX dX12_readsTimed_192 ?_
                  refine R_puti hX dX12_readsTimed_193 fl_X12_205 o_136 rfl ?_
                  exact R_vret hX dX12_readsTimed_196 (by unfold tmS tmP; rw [if_pos hg0])
                · skip
                  exact R_vret hX dX12_readsTimed_144 (by unfold tmS; rw [if_neg (by omega)])
            · skip
              refine R_bipush hX dX12_readsTimed_114 (by decide) ?_
              refine R_goto (tgt := 132) hX dX12_readsTimed_116 (by decide) ?_
              refine R_v2i hX dX12_readsTimed_132 li_X12_195 mk_X12_readsNumber mi_X12_readsNumber rfl o_136 (r_readsNumber nE.1 (by constructor <;> omega) (by constructor <;> omega)) ⟨⟨by decide, by decide⟩, by decide, by decide, rfl, Nat.le_of_ble_eq_true rfl, rfl⟩ (fun x_132 F_132 h_132 => ?_)
              obtain ⟨hx, hF⟩ := h_132
              subst hx
              subst hF
              refine R.eq rfl rfl (show _ = tmG F by unfold tmG; first | (rw [if_pos (by omega), if_neg (by omega), if_neg (by omega)]; done) | (rw [if_neg (by omega), if_pos (by omega)]; done) | (rw [if_neg (by omega), if_neg (by omega), if_pos (by omega)]; done) | (rw [if_neg (by omega), if_neg (by omega), if_neg (by omega)]; done) | (exfalso; omega)) ?_
              refine R_istore_4 hX c1_i dX12_readsTimed_135 ?_
              refine R_aload_0 hX dX12_readsTimed_137 ?_
              refine R_v0i hX dX12_readsTimed_138 li_X12_112 mk_X12_isGood mi_X12_isGood rfl o_136 (r_isGood (by have z := nG.1.2.1; constructor <;> omega)) ⟨⟨by decide, by decide⟩, by decide, by decide, rfl, Nat.le_of_ble_eq_true rfl, rfl⟩ (fun x_138 F_138 h_138 => ?_)
              obtain ⟨h_138, e_138⟩ := h_138; replace e_138 := e_138.symm; subst e_138
              refine R_ifne (tgt := 145) hX dX12_readsTimed_141 (by decide) (by constructor <;> first | omega | (simp (disch := omega) only [up_k, up_i, up_s]; omega)) (fun c_141 => ?_) (fun c_141 => ?_)
              · skip
                have hg0 : tmG F 136 19 = 0 := by omega
                have h12 := tm_39 h ha hg0
                have e39 : tmG F 136 39 = F 136 39 := nG.2.2.2.2.1
                have b39 := nG.1.2.2.2.2.2.2.1
                refine R_aload_0 hX dX12_readsTimed_145 ?_
                refine R_getq (v := 154) hX dX12_readsTimed_146 fl_X12_73 o_136 rfl (by omega) ?_
                refine R_aload_0 hX dX12_readsTimed_149 ?_
                refine R_geti hX dX12_readsTimed_150 fl_X12_205 o_136 rfl ?_
                try simp (disch := omega) only [up_i, up_k, up_s]
                refine R_iload_1 hX dX12_readsTimed_153 ?_
                refine R_iast hX dX12_readsTimed_154 a_154 ⟨by omega, by omega⟩ ?_
                refine R_aload_0 hX dX12_readsTimed_155 ?_
                refine R_getq (v := 155) hX dX12_readsTimed_156 fl_X12_76 o_136 rfl (by omega) ?_
                refine R_aload_0 hX dX12_readsTimed_159 ?_
                refine R_geti hX dX12_readsTimed_160 fl_X12_205 o_136 rfl ?_
                try simp (disch := omega) only [up_i, up_k, up_s]
                refine R_iload_2 hX dX12_readsTimed_163 ?_
                refine R_iast hX dX12_readsTimed_164 a_155 ⟨by omega, by omega⟩ ?_
                refine R_aload_0 hX dX12_readsTimed_165 ?_
                refine R_getq (v := 156) hX dX12_readsTimed_166 fl_X12_79 o_136 rfl (by omega) ?_
                refine R_aload_0 hX dX12_readsTimed_169 ?_
                refine R_geti hX dX12_readsTimed_170 fl_X12_205 o_136 rfl ?_
                try simp (disch := omega) only [up_i, up_k, up_s]
                refine R_iload_3 hX dX12_readsTimed_173 ?_
                refine R_iast hX dX12_readsTimed_174 a_156 ⟨by omega, by omega⟩ ?_
                refine R_aload_0 hX dX12_readsTimed_175 ?_
                refine R_getq (v := 157) hX dX12_readsTimed_176 fl_X12_82 o_136 rfl (by omega) ?_
                refine R_aload_0 hX dX12_readsTimed_179 ?_
                refine R_geti hX dX12_readsTimed_180 fl_X12_205 o_136 rfl ?_
                try simp (disch := omega) only [up_i, up_k, up_s]
                refine R_iload_4 hX dX12_readsTimed_183 ?_
                refine R_iast hX dX12_readsTimed_185 a_157 ⟨by omega, by omega⟩ ?_
                refine R_aload_0 hX dX12_readsTimed_186 ?_
                refine R_dup hX c1_r dX12_readsTimed_187 ?_
                refine R_geti hX dX12_readsTimed_188 fl_X12_205 o_136 rfl ?_
                try simp (disch := omega) only [up_i, up_k, up_s]
                refine R_iconst hX dX12_readsTimed_191 ?_
                refine R_iadd hX dX12_readsTimed_192 ?_
                refine R_puti hX dX12_readsTimed_193 fl_X12_205 o_136 rfl ?_
                exact R_vret hX dX12_readsTimed_196 (by unfold tmS tmP; rw [if_pos hg0])
              · skip
                exact R_vret hX dX12_readsTimed_144 (by unfold tmS; rw [if_neg (by omega)])
        · skip
          refine R_iload_3 hX dX12_readsTimed_81 ?_
          refine R_iconst hX dX12_readsTimed_82 ?_
          refine R_icmpne (tgt := 90) hX dX12_readsTimed_83 (by decide) (by constructor <;> first | omega | (simp (disch := omega) only [up_k, up_i, up_s]; omega)) (by constructor <;> first | omega | (simp (disch := omega) only [up_k, up_i, up_s]; omega)) (fun c_83 => ?_) (fun c_83 => ?_)
          · skip
            refine R_iconst hX dX12_readsTimed_90 ?_
            refine R_iconst hX dX12_readsTimed_91 ?_
            refine R_v2v hX dX12_readsTimed_92 li_X12_175 mk_X12_must mi_X12_must rfl o_136 (r_must (by have z := (nD.1).2.1; constructor <;> omega) (by have z := (nD.1).2.2.1; constructor <;> omega) (by omega)) ⟨⟨by decide, by decide⟩, by decide, by decide, rfl, Nat.le_of_ble_eq_true rfl, rfl⟩ (fun x_92 F_92 h_92 => ?_)
            subst h_92
            refine R.eq rfl rfl (show _ = mu (stH (tmD F) = 0 ∨ stH (tmD F) = 1 ∨ stH (tmD F) = 4) 1 (tmD F) from mu_iff (by omega)) ?_
            refine R_aload_0 hX dX12_readsTimed_95 ?_
            refine R_v0v hX dX12_readsTimed_96 li_X12_179 mk_X12_scans mi_X12_scans rfl o_136 (r_scans (nD.1.mu (g := stH (tmD F) = 0 ∨ stH (tmD F) = 1 ∨ stH (tmD F) = 4) (c := 1) (by omega)).1 (by have z := (nD.1.mu (g := stH (tmD F) = 0 ∨ stH (tmD F) = 1 ∨ stH (tmD F) = 4) (c := 1) (by omega)).2.1; constructor <;> omega)) ⟨⟨by decide, by decide⟩, by decide, by decide, rfl, Nat.le_of_ble_eq_true rfl, rfl⟩ (fun x_96 F_96 h_96 => ?_)
            subst h_96
            refine R.eq rfl rfl (show _ = tmE F from rfl) ?_
            refine R_aload_0 hX dX12_readsTimed_99 ?_
            refine R_iload_3 hX dX12_readsTimed_100 ?_
            refine R_iconst hX dX12_readsTimed_101 ?_
            refine R_icmpne (tgt := 109) hX dX12_readsTimed_102 (by decide) (by constructor <;> first | omega | (simp (disch := omega) only [up_k, up_i, up_s]; omega)) (by constructor <;> first | omega | (simp (disch := omega) only [up_k, up_i, up_s]; omega)) (fun c_102 => ?_) (fun c_102 => ?_)
            · skip
              refine R_iconst hX dX12_readsTimed_109 ?_
              refine R_iload_3 hX dX12_readsTimed_110 ?_
              refine R_ifne (tgt := 119) hX dX12_readsTimed_111 (by decide) (by constructor <;> first | omega | (simp (disch := omega) only [up_k, up_i, up_s]; omega)) (fun c_111 => ?_) (fun c_111 => ?_)
              · skip
                refine R_iload_3 hX dX12_readsTimed_119 ?_
                refine R_iconst hX dX12_readsTimed_120 ?_
                refine R_icmpne (tgt := 130) hX dX12_readsTimed_121 (by decide) (by constructor <;> first | omega | (simp (disch := omega) only [up_k, up_i, up_s]; omega)) (by constructor <;> first | omega | (simp (disch := omega) only [up_k, up_i, up_s]; omega)) (fun c_121 => ?_) (fun c_121 => ?_)
                · skip
                  refine R_bipush hX dX12_readsTimed_130 (by decide) ?_
                  refine R_v2i hX dX12_readsTimed_132 li_X12_195 mk_X12_readsNumber mi_X12_readsNumber rfl o_136 (r_readsNumber nE.1 (by constructor <;> omega) (by constructor <;> omega)) ⟨⟨by decide, by decide⟩, by decide, by decide, rfl, Nat.le_of_ble_eq_true rfl, rfl⟩ (fun x_132 F_132 h_132 => ?_)
                  obtain ⟨hx, hF⟩ := h_132
                  subst hx
                  subst hF
                  refine R.eq rfl rfl (show _ = tmG F by unfold tmG; first | (rw [if_pos (by omega), if_neg (by omega), if_neg (by omega)]; done) | (rw [if_neg (by omega), if_pos (by omega)]; done) | (rw [if_neg (by omega), if_neg (by omega), if_pos (by omega)]; done) | (rw [if_neg (by omega), if_neg (by omega), if_neg (by omega)]; done) | (exfalso; omega)) ?_
                  refine R_istore_4 hX c1_i dX12_readsTimed_135 ?_
                  refine R_aload_0 hX dX12_readsTimed_137 ?_
                  refine R_v0i hX dX12_readsTimed_138 li_X12_112 mk_X12_isGood mi_X12_isGood rfl o_136 (r_isGood (by have z := nG.1.2.1; constructor <;> omega)) ⟨⟨by decide, by decide⟩, by decide, by decide, rfl, Nat.le_of_ble_eq_true rfl, rfl⟩ (fun x_138 F_138 h_138 => ?_)
                  obtain ⟨h_138, e_138⟩ := h_138; replace e_138 := e_138.symm; subst e_138
                  refine R_ifne (tgt := 145) hX dX12_readsTimed_141 (by decide) (by constructor <;> first | omega | (simp (disch := omega) only [up_k, up_i, up_s]; omega)) (fun c_141 => ?_) (fun c_141 => ?_)
                  · skip
                    have hg0 : tmG F 136 19 = 0 := by omega
                    have h12 := tm_39 h ha hg0
                    have e39 : tmG F 136 39 = F 136 39 := nG.2.2.2.2.1
                    have b39 := nG.1.2.2.2.2.2.2.1
                    refine R_aload_0 hX dX12_readsTimed_145 ?_
                    refine R_getq (v := 154) hX dX12_readsTimed_146 fl_X12_73 o_136 rfl (by omega) ?_
                    refine R_aload_0 hX dX12_readsTimed_149 ?_
                    refine R_geti hX dX12_readsTimed_150 fl_X12_205 o_136 rfl ?_
                    try simp (disch := omega) only [up_i, up_k, up_s]
                    refine R_iload_1 hX dX12_readsTimed_153 ?_
                    refine R_iast hX dX12_readsTimed_154 a_154 ⟨by omega, by omega⟩ ?_
                    refine R_aload_0 hX dX12_readsTimed_155 ?_
                    refine R_getq (v := 155) hX dX12_readsTimed_156 fl_X12_76 o_136 rfl (by omega) ?_
                    refine R_aload_0 hX dX12_readsTimed_159 ?_
                    refine R_geti hX dX12_readsTimed_160 fl_X12_205 o_136 rfl ?_
                    try simp (disch := omega) only [up_i, up_k, up_s]
                    refine R_iload_2 hX dX12_readsTimed_163 ?_
                    refine R_iast hX dX12_readsTimed_164 a_155 ⟨by omega, by omega⟩ ?_
                    refine R_aload_0 hX dX12_readsTimed_165 ?_
                    refine R_getq (v := 156) hX dX12_readsTimed_166 fl_X12_79 o_136 rfl (by omega) ?_
                    refine R_aload_0 hX dX12_readsTimed_169 ?_
                    refine R_geti hX dX12_readsTimed_170 fl_X12_205 o_136 rfl ?_
                    try simp (disch := omega) only [up_i, up_k, up_s]
                    refine R_iload_3 hX dX12_readsTimed_173 ?_
                    refine R_iast hX dX12_readsTimed_174 a_156 ⟨by omega, by omega⟩ ?_
                    refine R_aload_0 hX dX12_readsTimed_175 ?_
                    refine R_getq (v := 157) hX dX12_readsTimed_176 fl_X12_82 o_136 rfl (by omega) ?_
                    refine R_aload_0 hX dX12_readsTimed_179 ?_
                    refine R_geti hX dX12_readsTimed_180 fl_X12_205 o_136 rfl ?_
                    try simp (disch := omega) only [up_i, up_k, up_s]
                    refine R_iload_4 hX dX12_readsTimed_183 ?_
                    refine R_iast hX dX12_readsTimed_185 a_157 ⟨by omega, by omega⟩ ?_
                    refine R_aload_0 hX dX12_readsTimed_186 ?_
                    refine R_dup hX c1_r dX12_readsTimed_187 ?_
                    refine R_geti hX dX12_readsTimed_188 fl_X12_205 o_136 rfl ?_
                    try simp (disch := omega) only [up_i, up_k, up_s]
                    refine R_iconst hX dX12_readsTimed_191 ?_
                    refine R_iadd hX dX12_readsTimed_192 ?_
                    refine R_puti hX dX12_readsTimed_193 fl_X12_205 o_136 rfl ?_
                    exact R_vret hX dX12_readsTimed_196 (by unfold tmS tmP; rw [if_pos hg0])
                  · skip
                    exact R_vret hX dX12_readsTimed_144 (by unfold tmS; rw [if_neg (by omega)])
                · skip
                  refine R_sipush hX dX12_readsTimed_124 (by decide) ?_
                  refine R_goto (tgt := 132) hX dX12_readsTimed_127 (by decide) ?_
                  refine R_v2i hX dX12_readsTimed_132 li_X12_195 mk_X12_readsNumber mi_X12_readsNumber rfl o_136 (r_readsNumber nE.1 (by constructor <;> omega) (by constructor <;> omega)) ⟨⟨by decide, by decide⟩, by decide, by decide, rfl, Nat.le_of_ble_eq_true rfl, rfl⟩ (fun x_132 F_132 h_132 => ?_)
                  obtain ⟨hx, hF⟩ := h_132
                  subst hx
                  subst hF
                  refine R.eq rfl rfl (show _ = tmG F by unfold tmG; first | (rw [if_pos (by omega), if_neg (by omega), if_neg (by omega)]; done) | (rw [if_neg (by omega), if_pos (by omega)]; done) | (rw [if_neg (by omega), if_neg (by omega), if_pos (by omega)]; done) | (rw [if_neg (by omega), if_neg (by omega), if_neg (by omega)]; done) | (exfalso; omega)) ?_
                  refine R_istore_4 hX c1_i dX12_readsTimed_135 ?_
                  refine R_aload_0 hX dX12_readsTimed_137 ?_
                  refine R_v0i hX dX12_readsTimed_138 li_X12_112 mk_X12_isGood mi_X12_isGood rfl o_136 (r_isGood (by have z := nG.1.2.1; constructor <;> omega)) ⟨⟨by decide, by decide⟩, by decide, by decide, rfl, Nat.le_of_ble_eq_true rfl, rfl⟩ (fun x_138 F_138 h_138 => ?_)
                  obtain ⟨h_138, e_138⟩ := h_138; replace e_138 := e_138.symm; subst e_138
                  refine R_ifne (tgt := 145) hX dX12_readsTimed_141 (by decide) (by constructor <;> first | omega | (simp (disch := omega) only [up_k, up_i, up_s]; omega)) (fun c_141 => ?_) (fun c_141 => ?_)
                  · skip
                    have hg0 : tmG F 136 19 = 0 := by omega
                    have h12 := tm_39 h ha hg0
                    have e39 : tmG F 136 39 = F 136 39 := nG.2.2.2.2.1
                    have b39 := nG.1.2.2.2.2.2.2.1
                    refine R_aload_0 hX dX12_readsTimed_145 ?_
                    refine R_getq (v := 154) hX dX12_readsTimed_146 fl_X12_73 o_136 rfl (by omega) ?_
                    refine R_aload_0 hX dX12_readsTimed_149 ?_
                    refine R_geti hX dX12_readsTimed_150 fl_X12_205 o_136 rfl ?_
                    try simp (disch := omega) only [up_i, up_k, up_s]
                    refine R_iload_1 hX dX12_readsTimed_153 ?_
                    refine R_iast hX dX12_readsTimed_154 a_154 ⟨by omega, by omega⟩ ?_
                    refine R_aload_0 hX dX12_readsTimed_155 ?_
                    refine R_getq (v := 155) hX dX12_readsTimed_156 fl_X12_76 o_136 rfl (by omega) ?_
                    refine R_aload_0 hX dX12_readsTimed_159 ?_
                    refine R_geti hX dX12_readsTimed_160 fl_X12_205 o_136 rfl ?_
                    try simp (disch := omega) only [up_i, up_k, up_s]
                    refine R_iload_2 hX dX12_readsTimed_163 ?_
                    refine R_iast hX dX12_readsTimed_164 a_155 ⟨by omega, by omega⟩ ?_
                    refine R_aload_0 hX dX12_readsTimed_165 ?_
                    refine R_getq (v := 156) hX dX12_readsTimed_166 fl_X12_79 o_136 rfl (by omega) ?_
                    refine R_aload_0 hX dX12_readsTimed_169 ?_
                    refine R_geti hX dX12_readsTimed_170 fl_X12_205 o_136 rfl ?_
                    try simp (disch := omega) only [up_i, up_k, up_s]
                    refine R_iload_3 hX dX12_readsTimed_173 ?_
                    refine R_iast hX dX12_readsTimed_174 a_156 ⟨by omega, by omega⟩ ?_
                    refine R_aload_0 hX dX12_readsTimed_175 ?_
                    refine R_getq (v := 157) hX dX12_readsTimed_176 fl_X12_82 o_136 rfl (by omega) ?_
                    refine R_aload_0 hX dX12_readsTimed_179 ?_
                    refine R_geti hX dX12_readsTimed_180 fl_X12_205 o_136 rfl ?_
                    try simp (disch := omega) only [up_i, up_k, up_s]
                    refine R_iload_4 hX dX12_readsTimed_183 ?_
                    refine R_iast hX dX12_readsTimed_185 a_157 ⟨by omega, by omega⟩ ?_
                    refine R_aload_0 hX dX12_readsTimed_186 ?_
                    refine R_dup hX c1_r dX12_readsTimed_187 ?_
                    refine R_geti hX dX12_readsTimed_188 fl_X12_205 o_136 rfl ?_
                    try simp (disch := omega) only [up_i, up_k, up_s]
                    refine R_iconst hX dX12_readsTimed_191 ?_
                    refine R_iadd hX dX12_readsTimed_192 ?_
                    refine R_puti hX dX12_readsTimed_193 fl_X12_205 o_136 rfl ?_
                    exact R_vret hX dX12_readsTimed_196 (by unfold tmS tmP; rw [if_pos hg0])
                  · skip
                    exact R_vret hX dX12_readsTimed_144 (by unfold tmS; rw [if_neg (by omega)])
              · skip
                refine R_bipush hX dX12_readsTimed_114 (by decide) ?_
                refine R_goto (tgt := 132) hX dX12_readsTimed_116 (by decide) ?_
                refine R_v2i hX dX12_readsTimed_132 li_X12_195 mk_X12_readsNumber mi_X12_readsNumber rfl o_136 (r_readsNumber nE.1 (by constructor <;> omega) (by constructor <;> omega)) ⟨⟨by decide, by decide⟩, by decide, by decide, rfl, Nat.le_of_ble_eq_true rfl, rfl⟩ (fun x_132 F_132 h_132 => ?_)
                obtain ⟨hx, hF⟩ := h_132
                subst hx
                subst hF
                refine R.eq rfl rfl (show _ = tmG F by unfold tmG; first | (rw [if_pos (by omega), if_neg (by omega), if_neg (by omega)]; done) | (rw [if_neg (by omega), if_pos (by omega)]; done) | (rw [if_neg (by omega), if_neg (by omega), if_pos (by omega)]; done) | (rw [if_neg (by omega), if_neg (by omega), if_neg (by omega)]; done) | (exfalso; omega)) ?_
                refine R_istore_4 hX c1_i dX12_readsTimed_135 ?_
                refine R_aload_0 hX dX12_readsTimed_137 ?_
                refine R_v0i hX dX12_readsTimed_138 li_X12_112 mk_X12_isGood mi_X12_isGood rfl o_136 (r_isGood (by have z := nG.1.2.1; constructor <;> omega)) ⟨⟨by decide, by decide⟩, by decide, by decide, rfl, Nat.le_of_ble_eq_true rfl, rfl⟩ (fun x_138 F_138 h_138 => ?_)
                obtain ⟨h_138, e_138⟩ := h_138; replace e_138 := e_138.symm; subst e_138
                refine R_ifne (tgt := 145) hX dX12_readsTimed_141 (by decide) (by constructor <;> first | omega | (simp (disch := omega) only [up_k, up_i, up_s]; omega)) (fun c_141 => ?_) (fun c_141 => ?_)
                · skip
                  have hg0 : tmG F 136 19 = 0 := by omega
                  have h12 := tm_39 h ha hg0
                  have e39 : tmG F 136 39 = F 136 39 := nG.2.2.2.2.1
                  have b39 := nG.1.2.2.2.2.2.2.1
                  refine R_aload_0 hX dX12_readsTimed_145 ?_
                  refine R_getq (v := 154) hX dX12_readsTimed_146 fl_X12_73 o_136 rfl (by omega) ?_
                  refine R_aload_0 hX dX12_readsTimed_149 ?_
                  refine R_geti hX dX12_readsTimed_150 fl_X12_205 o_136 rfl ?_
                  try simp (disch := omega) only [up_i, up_k, up_s]
                  refine R_iload_1 hX dX12_readsTimed_153 ?_
                  refine R_iast hX dX12_readsTimed_154 a_154 ⟨by omega, by omega⟩ ?_
                  refine R_aload_0 hX dX12_readsTimed_155 ?_
                  refine R_getq (v := 155) hX dX12_readsTimed_156 fl_X12_76 o_136 rfl (by omega) ?_
                  refine R_aload_0 hX dX12_readsTimed_159 ?_
                  refine R_geti hX dX12_readsTimed_160 fl_X12_205 o_136 rfl ?_
                  try simp (disch := omega) only [up_i, up_k, up_s]
                  refine R_iload_2 hX dX12_readsTimed_163 ?_
                  refine R_iast hX dX12_readsTimed_164 a_155 ⟨by omega, by omega⟩ ?_
                  refine R_aload_0 hX dX12_readsTimed_165 ?_
                  refine R_getq (v := 156) hX dX12_readsTimed_166 fl_X12_79 o_136 rfl (by omega) ?_
                  refine R_aload_0 hX dX12_readsTimed_169 ?_
                  refine R_geti hX dX12_readsTimed_170 fl_X12_205 o_136 rfl ?_
                  try simp (disch := omega) only [up_i, up_k, up_s]
                  refine R_iload_3 hX dX12_readsTimed_173 ?_
                  refine R_iast hX dX12_readsTimed_174 a_156 ⟨by omega, by omega⟩ ?_
                  refine R_aload_0 hX dX12_readsTimed_175 ?_
                  refine R_getq (v := 157) hX dX12_readsTimed_176 fl_X12_82 o_136 rfl (by omega) ?_
                  refine R_aload_0 hX dX12_readsTimed_179 ?_
                  refine R_geti hX dX12_readsTimed_180 fl_X12_205 o_136 rfl ?_
                  try simp (disch := omega) only [up_i, up_k, up_s]
                  refine R_iload_4 hX dX12_readsTimed_183 ?_
                  refine R_iast hX dX12_readsTimed_185 a_157 ⟨by omega, by omega⟩ ?_
                  refine R_aload_0 hX dX12_readsTimed_186 ?_
                  refine R_dup hX c1_r dX12_readsTimed_187 ?_
                  refine R_geti hX dX12_readsTimed_188 fl_X12_205 o_136 rfl ?_
                  try simp (disch := omega) only [up_i, up_k, up_s]
                  refine R_iconst hX dX12_readsTimed_191 ?_
                  refine R_iadd hX dX12_readsTimed_192 ?_
                  refine R_puti hX dX12_readsTimed_193 fl_X12_205 o_136 rfl ?_
                  exact R_vret hX dX12_readsTimed_196 (by unfold tmS tmP; rw [if_pos hg0])
                · skip
                  exact R_vret hX dX12_readsTimed_144 (by unfold tmS; rw [if_neg (by omega)])
            · skip
              refine R_iconst hX dX12_readsTimed_105 ?_
              refine R_goto (tgt := 110) hX dX12_readsTimed_106 (by decide) ?_
              refine R_iload_3 hX dX12_readsTimed_110 ?_
              refine R_ifne (tgt := 119) hX dX12_readsTimed_111 (by decide) (by constructor <;> first | omega | (simp (disch := omega) only [up_k, up_i, up_s]; omega)) (fun c_111 => ?_) (fun c_111 => ?_)
              · skip
                refine R_iload_3 hX dX12_readsTimed_119 ?_
                refine R_iconst hX dX12_readsTimed_120 ?_
                refine R_icmpne (tgt := 130) hX dX12_readsTimed_121 (by decide) (by constructor <;> first | omega | (simp (disch := omega) only [up_k, up_i, up_s]; omega)) (by constructor <;> first | omega | (simp (disch := omega) only [up_k, up_i, up_s]; omega)) (fun c_121 => ?_) (fun c_121 => ?_)
                · skip
                  refine R_bipush hX dX12_readsTimed_130 (by decide) ?_
                  refine R_v2i hX dX12_readsTimed_132 li_X12_195 mk_X12_readsNumber mi_X12_readsNumber rfl o_136 (r_readsNumber nE.1 (by constructor <;> omega) (by constructor <;> omega)) ⟨⟨by decide, by decide⟩, by decide, by decide, rfl, Nat.le_of_ble_eq_true rfl, rfl⟩ (fun x_132 F_132 h_132 => ?_)
                  obtain ⟨hx, hF⟩ := h_132
                  subst hx
                  subst hF
                  refine R.eq rfl rfl (show _ = tmG F by unfold tmG; first | (rw [if_pos (by omega), if_neg (by omega), if_neg (by omega)]; done) | (rw [if_neg (by omega), if_pos (by omega)]; done) | (rw [if_neg (by omega), if_neg (by omega), if_pos (by omega)]; done) | (rw [if_neg (by omega), if_neg (by omega), if_neg (by omega)]; done) | (exfalso; omega)) ?_
                  refine R_istore_4 hX c1_i dX12_readsTimed_135 ?_
                  refine R_aload_0 hX dX12_readsTimed_137 ?_
                  refine R_v0i hX dX12_readsTimed_138 li_X12_112 mk_X12_isGood mi_X12_isGood rfl o_136 (r_isGood (by have z := nG.1.2.1; constructor <;> omega)) ⟨⟨by decide, by decide⟩, by decide, by decide, rfl, Nat.le_of_ble_eq_true rfl, rfl⟩ (fun x_138 F_138 h_138 => ?_)
                  obtain ⟨h_138, e_138⟩ := h_138; replace e_138 := e_138.symm; subst e_138
                  refine R_ifne (tgt := 145) hX dX12_readsTimed_141 (by decide) (by constructor <;> first | omega | (simp (disch := omega) only [up_k, up_i, up_s]; omega)) (fun c_141 => ?_) (fun c_141 => ?_)
                  · skip
                    have hg0 : tmG F 136 19 = 0 := by omega
                    have h12 := tm_39 h ha hg0
                    have e39 : tmG F 136 39 = F 136 39 := nG.2.2.2.2.1
                    have b39 := nG.1.2.2.2.2.2.2.1
                    refine R_aload_0 hX dX12_readsTimed_145 ?_
                    refine R_getq (v := 154) hX dX12_readsTimed_146 fl_X12_73 o_136 rfl (by omega) ?_
                    refine R_aload_0 hX dX12_readsTimed_149 ?_
                    refine R_geti hX dX12_readsTimed_150 fl_X12_205 o_136 rfl ?_
                    try simp (disch := omega) only [up_i, up_k, up_s]
                    refine R_iload_1 hX dX12_readsTimed_153 ?_
                    refine R_iast hX dX12_readsTimed_154 a_154 ⟨by omega, by omega⟩ ?_
                    refine R_aload_0 hX dX12_readsTimed_155 ?_
                    refine R_getq (v := 155) hX dX12_readsTimed_156 fl_X12_76 o_136 rfl (by omega) ?_
                    refine R_aload_0 hX dX12_readsTimed_159 ?_
                    refine R_geti hX dX12_readsTimed_160 fl_X12_205 o_136 rfl ?_
                    try simp (disch := omega) only [up_i, up_k, up_s]
                    refine R_iload_2 hX dX12_readsTimed_163 ?_
                    refine R_iast hX dX12_readsTimed_164 a_155 ⟨by omega, by omega⟩ ?_
                    refine R_aload_0 hX dX12_readsTimed_165 ?_
                    refine R_getq (v := 156) hX dX12_readsTimed_166 fl_X12_79 o_136 rfl (by omega) ?_
                    refine R_aload_0 hX dX12_readsTimed_169 ?_
                    refine R_geti hX dX12_readsTimed_170 fl_X12_205 o_136 rfl ?_
                    try simp (disch := omega) only [up_i, up_k, up_s]
                    refine R_iload_3 hX dX12_readsTimed_173 ?_
                    refine R_iast hX dX12_readsTimed_174 a_156 ⟨by omega, by omega⟩ ?_
                    refine R_aload_0 hX dX12_readsTimed_175 ?_
                    refine R_getq (v := 157) hX dX12_readsTimed_176 fl_X12_82 o_136 rfl (by omega) ?_
                    refine R_aload_0 hX dX12_readsTimed_179 ?_
                    refine R_geti hX dX12_readsTimed_180 fl_X12_205 o_136 rfl ?_
                    try simp (disch := omega) only [up_i, up_k, up_s]
                    refine R_iload_4 hX dX12_readsTimed_183 ?_
                    refine R_iast hX dX12_readsTimed_185 a_157 ⟨by omega, by omega⟩ ?_
                    refine R_aload_0 hX dX12_readsTimed_186 ?_
                    refine R_dup hX c1_r dX12_readsTimed_187 ?_
                    refine R_geti hX dX12_readsTimed_188 fl_X12_205 o_136 rfl ?_
                    try simp (disch := omega) only [up_i, up_k, up_s]
                    refine R_iconst hX dX12_readsTimed_191 ?_
                    refine R_iadd hX dX12_readsTimed_192 ?_
                    refine R_puti hX dX12_readsTimed_193 fl_X12_205 o_136 rfl ?_
                    exact R_vret hX dX12_readsTimed_196 (by unfold tmS tmP; rw [if_pos hg0])
                  · skip
                    exact R_vret hX dX12_readsTimed_144 (by unfold tmS; rw [if_neg (by omega)])
                · skip
                  refine R_sipush hX dX12_readsTimed_124 (by decide) ?_
                  refine R_goto (tgt := 132) hX dX12_readsTimed_127 (by decide) ?_
                  refine R_v2i hX dX12_readsTimed_132 li_X12_195 mk_X12_readsNumber mi_X12_readsNumber rfl o_136 (r_readsNumber nE.1 (by constructor <;> omega) (by constructor <;> omega)) ⟨⟨by decide, by decide⟩, by decide, by decide, rfl, Nat.le_of_ble_eq_true rfl, rfl⟩ (fun x_132 F_132 h_132 => ?_)
                  obtain ⟨hx, hF⟩ := h_132
                  subst hx
                  subst hF
                  refine R.eq rfl rfl (show _ = tmG F by unfold tmG; first | (rw [if_pos (by omega), if_neg (by omega), if_neg (by omega)]; done) | (rw [if_neg (by omega), if_pos (by omega)]; done) | (rw [if_neg (by omega), if_neg (by omega), if_pos (by omega)]; done) | (rw [if_neg (by omega), if_neg (by omega), if_neg (by omega)]; done) | (exfalso; omega)) ?_
                  refine R_istore_4 hX c1_i dX12_readsTimed_135 ?_
                  refine R_aload_0 hX dX12_readsTimed_137 ?_
                  refine R_v0i hX dX12_readsTimed_138 li_X12_112 mk_X12_isGood mi_X12_isGood rfl o_136 (r_isGood (by have z := nG.1.2.1; constructor <;> omega)) ⟨⟨by decide, by decide⟩, by decide, by decide, rfl, Nat.le_of_ble_eq_true rfl, rfl⟩ (fun x_138 F_138 h_138 => ?_)
                  obtain ⟨h_138, e_138⟩ := h_138; replace e_138 := e_138.symm; subst e_138
                  refine R_ifne (tgt := 145) hX dX12_readsTimed_141 (by decide) (by constructor <;> first | omega | (simp (disch := omega) only [up_k, up_i, up_s]; omega)) (fun c_141 => ?_) (fun c_141 => ?_)
                  · skip
                    have hg0 : tmG F 136 19 = 0 := by omega
                    have h12 := tm_39 h ha hg0
                    have e39 : tmG F 136 39 = F 136 39 := nG.2.2.2.2.1
                    have b39 := nG.1.2.2.2.2.2.2.1
                    refine R_aload_0 hX dX12_readsTimed_145 ?_
                    refine R_getq (v := 154) hX dX12_readsTimed_146 fl_X12_73 o_136 rfl (by omega) ?_
                    refine R_aload_0 hX dX12_readsTimed_149 ?_
                    refine R_geti hX dX12_readsTimed_150 fl_X12_205 o_136 rfl ?_
                    try simp (disch := omega) only [up_i, up_k, up_s]
                    refine R_iload_1 hX dX12_readsTimed_153 ?_
                    refine R_iast hX dX12_readsTimed_154 a_154 ⟨by omega, by omega⟩ ?_
                    refine R_aload_0 hX dX12_readsTimed_155 ?_
                    refine R_getq (v := 155) hX dX12_readsTimed_156 fl_X12_76 o_136 rfl (by omega) ?_
                    refine R_aload_0 hX dX12_readsTimed_159 ?_
                    refine R_geti hX dX12_readsTimed_160 fl_X12_205 o_136 rfl ?_
                    try simp (disch := omega) only [up_i, up_k, up_s]
                    refine R_iload_2 hX dX12_readsTimed_163 ?_
                    refine R_iast hX dX12_readsTimed_164 a_155 ⟨by omega, by omega⟩ ?_
                    refine R_aload_0 hX dX12_readsTimed_165 ?_
                    refine R_getq (v := 156) hX dX12_readsTimed_166 fl_X12_79 o_136 rfl (by omega) ?_
                    refine R_aload_0 hX dX12_readsTimed_169 ?_
                    refine R_geti hX dX12_readsTimed_170 fl_X12_205 o_136 rfl ?_
                    try simp (disch := omega) only [up_i, up_k, up_s]
                    refine R_iload_3 hX dX12_readsTimed_173 ?_
                    refine R_iast hX dX12_readsTimed_174 a_156 ⟨by omega, by omega⟩ ?_
                    refine R_aload_0 hX dX12_readsTimed_175 ?_
                    refine R_getq (v := 157) hX dX12_readsTimed_176 fl_X12_82 o_136 rfl (by omega) ?_
                    refine R_aload_0 hX dX12_readsTimed_179 ?_
                    refine R_geti hX dX12_readsTimed_180 fl_X12_205 o_136 rfl ?_
                    try simp (disch := omega) only [up_i, up_k, up_s]
                    refine R_iload_4 hX dX12_readsTimed_183 ?_
                    refine R_iast hX dX12_readsTimed_185 a_157 ⟨by omega, by omega⟩ ?_
                    refine R_aload_0 hX dX12_readsTimed_186 ?_
                    refine R_dup hX c1_r dX12_readsTimed_187 ?_
                    refine R_geti hX dX12_readsTimed_188 fl_X12_205 o_136 rfl ?_
                    try simp (disch := omega) only [up_i, up_k, up_s]
                    refine R_iconst hX dX12_readsTimed_191 ?_
                    refine R_iadd hX dX12_readsTimed_192 ?_
                    refine R_puti hX dX12_readsTimed_193 fl_X12_205 o_136 rfl ?_
                    exact R_vret hX dX12_readsTimed_196 (by unfold tmS tmP; rw [if_pos hg0])
                  · skip
                    exact R_vret hX dX12_readsTimed_144 (by unfold tmS; rw [if_neg (by omega)])
              · skip
                refine R_bipush hX dX12_readsTimed_114 (by decide) ?_
                refine R_goto (tgt := 132) hX dX12_readsTimed_116 (by decide) ?_
                refine R_v2i hX dX12_readsTimed_132 li_X12_195 mk_X12_readsNumber mi_X12_readsNumber rfl o_136 (r_readsNumber nE.1 (by constructor <;> omega) (by constructor <;> omega)) ⟨⟨by decide, by decide⟩, by decide, by decide, rfl, Nat.le_of_ble_eq_true rfl, rfl⟩ (fun x_132 F_132 h_132 => ?_)
                obtain ⟨hx, hF⟩ := h_132
                subst hx
                subst hF
                refine R.eq rfl rfl (show _ = tmG F by unfold tmG; first | (rw [if_pos (by omega), if_neg (by omega), if_neg (by omega)]; done) | (rw [if_neg (by omega), if_pos (by omega)]; done) | (rw [if_neg (by omega), if_neg (by omega), if_pos (by omega)]; done) | (rw [if_neg (by omega), if_neg (by omega), if_neg (by omega)]; done) | (exfalso; omega)) ?_
                refine R_istore_4 hX c1_i dX12_readsTimed_135 ?_
                refine R_aload_0 hX dX12_readsTimed_137 ?_
                refine R_v0i hX dX12_readsTimed_138 li_X12_112 mk_X12_isGood mi_X12_isGood rfl o_136 (r_isGood (by have z := nG.1.2.1; constructor <;> omega)) ⟨⟨by decide, by decide⟩, by decide, by decide, rfl, Nat.le_of_ble_eq_true rfl, rfl⟩ (fun x_138 F_138 h_138 => ?_)
                obtain ⟨h_138, e_138⟩ := h_138; replace e_138 := e_138.symm; subst e_138
                refine R_ifne (tgt := 145) hX dX12_readsTimed_141 (by decide) (by constructor <;> first | omega | (simp (disch := omega) only [up_k, up_i, up_s]; omega)) (fun c_141 => ?_) (fun c_141 => ?_)
                · skip
                  have hg0 : tmG F 136 19 = 0 := by omega
                  have h12 := tm_39 h ha hg0
                  have e39 : tmG F 136 39 = F 136 39 := nG.2.2.2.2.1
                  have b39 := nG.1.2.2.2.2.2.2.1
                  refine R_aload_0 hX dX12_readsTimed_145 ?_
                  refine R_getq (v := 154) hX dX12_readsTimed_146 fl_X12_73 o_136 rfl (by omega) ?_
                  refine R_aload_0 hX dX12_readsTimed_149 ?_
                  refine R_geti hX dX12_readsTimed_150 fl_X12_205 o_136 rfl ?_
                  try simp (disch := omega) only [up_i, up_k, up_s]
                  refine R_iload_1 hX dX12_readsTimed_153 ?_
                  refine R_iast hX dX12_readsTimed_154 a_154 ⟨by omega, by omega⟩ ?_
                  refine R_aload_0 hX dX12_readsTimed_155 ?_
                  refine R_getq (v := 155) hX dX12_readsTimed_156 fl_X12_76 o_136 rfl (by omega) ?_
                  refine R_aload_0 hX dX12_readsTimed_159 ?_
                  refine R_geti hX dX12_readsTimed_160 fl_X12_205 o_136 rfl ?_
                  try simp (disch := omega) only [up_i, up_k, up_s]
                  refine R_iload_2 hX dX12_readsTimed_163 ?_
                  refine R_iast hX dX12_readsTimed_164 a_155 ⟨by omega, by omega⟩ ?_
                  refine R_aload_0 hX dX12_readsTimed_165 ?_
                  refine R_getq (v := 156) hX dX12_readsTimed_166 fl_X12_79 o_136 rfl (by omega) ?_
                  refine R_aload_0 hX dX12_readsTimed_169 ?_
                  refine R_geti hX dX12_readsTimed_170 fl_X12_205 o_136 rfl ?_
                  try simp (disch := omega) only [up_i, up_k, up_s]
                  refine R_iload_3 hX dX12_readsTimed_173 ?_
                  refine R_iast hX dX12_readsTimed_174 a_156 ⟨by omega, by omega⟩ ?_
                  refine R_aload_0 hX dX12_readsTimed_175 ?_
                  refine R_getq (v := 157) hX dX12_readsTimed_176 fl_X12_82 o_136 rfl (by omega) ?_
                  refine R_aload_0 hX dX12_readsTimed_179 ?_
                  refine R_geti hX dX12_readsTimed_180 fl_X12_205 o_136 rfl ?_
                  try simp (disch := omega) only [up_i, up_k, up_s]
                  refine R_iload_4 hX dX12_readsTimed_183 ?_
                  refine R_iast hX dX12_readsTimed_185 a_157 ⟨by omega, by omega⟩ ?_
                  refine R_aload_0 hX dX12_readsTimed_186 ?_
                  refine R_dup hX c1_r dX12_readsTimed_187 ?_
                  refine R_geti hX dX12_readsTimed_188 fl_X12_205 o_136 rfl ?_
                  try simp (disch := omega) only [up_i, up_k, up_s]
                  refine R_iconst hX dX12_readsTimed_191 ?_
                  refine R_iadd hX dX12_readsTimed_192 ?_
                  refine R_puti hX dX12_readsTimed_193 fl_X12_205 o_136 rfl ?_
                  exact R_vret hX dX12_readsTimed_196 (by unfold tmS tmP; rw [if_pos hg0])
                · skip
                  exact R_vret hX dX12_readsTimed_144 (by unfold tmS; rw [if_neg (by omega)])
          · skip
            refine R_iconst hX dX12_readsTimed_86 ?_
            refine R_goto (tgt := 91) hX dX12_readsTimed_87 (by decide) ?_
            refine R_iconst hX dX12_readsTimed_91 ?_
            refine R_v2v hX dX12_readsTimed_92 li_X12_175 mk_X12_must mi_X12_must rfl o_136 (r_must (by have z := (nD.1).2.1; constructor <;> omega) (by have z := (nD.1).2.2.1; constructor <;> omega) (by omega)) ⟨⟨by decide, by decide⟩, by decide, by decide, rfl, Nat.le_of_ble_eq_true rfl, rfl⟩ (fun x_92 F_92 h_92 => ?_)
            subst h_92
            refine R.eq rfl rfl (show _ = mu (stH (tmD F) = 0 ∨ stH (tmD F) = 1 ∨ stH (tmD F) = 4) 1 (tmD F) from mu_iff (by omega)) ?_
            refine R_aload_0 hX dX12_readsTimed_95 ?_
            refine R_v0v hX dX12_readsTimed_96 li_X12_179 mk_X12_scans mi_X12_scans rfl o_136 (r_scans (nD.1.mu (g := stH (tmD F) = 0 ∨ stH (tmD F) = 1 ∨ stH (tmD F) = 4) (c := 1) (by omega)).1 (by have z := (nD.1.mu (g := stH (tmD F) = 0 ∨ stH (tmD F) = 1 ∨ stH (tmD F) = 4) (c := 1) (by omega)).2.1; constructor <;> omega)) ⟨⟨by decide, by decide⟩, by decide, by decide, rfl, Nat.le_of_ble_eq_true rfl, rfl⟩ (fun x_96 F_96 h_96 => ?_)
            subst h_96
            refine R.eq rfl rfl (show _ = tmE F from rfl) ?_
            refine R_aload_0 hX dX12_readsTimed_99 ?_
            refine R_iload_3 hX dX12_readsTimed_100 ?_
            refine R_iconst hX dX12_readsTimed_101 ?_
            refine R_icmpne (tgt := 109) hX dX12_readsTimed_102 (by decide) (by constructor <;> first | omega | (simp (disch := omega) only [up_k, up_i, up_s]; omega)) (by constructor <;> first | omega | (simp (disch := omega) only [up_k, up_i, up_s]; omega)) (fun c_102 => ?_) (fun c_102 => ?_)
            · skip
              refine R_iconst hX dX12_readsTimed_109 ?_
              refine R_iload_3 hX dX12_readsTimed_110 ?_
              refine R_ifne (tgt := 119) hX dX12_readsTimed_111 (by decide) (by constructor <;> first | omega | (simp (disch := omega) only [up_k, up_i, up_s]; omega)) (fun c_111 => ?_) (fun c_111 => ?_)
              · skip
                refine R_iload_3 hX dX12_readsTimed_119 ?_
                refine R_iconst hX dX12_readsTimed_120 ?_
                refine R_icmpne (tgt := 130) hX dX12_readsTimed_121 (by decide) (by constructor <;> first | omega | (simp (disch := omega) only [up_k, up_i, up_s]; omega)) (by constructor <;> first | omega | (simp (disch := omega) only [up_k, up_i, up_s]; omega)) (fun c_121 => ?_) (fun c_121 => ?_)
                · skip
                  refine R_bipush hX dX12_readsTimed_130 (by decide) ?_
                  refine R_v2i hX dX12_readsTimed_132 li_X12_195 mk_X12_readsNumber mi_X12_readsNumber rfl o_136 (r_readsNumber nE.1 (by constructor <;> omega) (by constructor <;> omega)) ⟨⟨by decide, by decide⟩, by decide, by decide, rfl, Nat.le_of_ble_eq_true rfl, rfl⟩ (fun x_132 F_132 h_132 => ?_)
                  obtain ⟨hx, hF⟩ := h_132
                  subst hx
                  subst hF
                  refine R.eq rfl rfl (show _ = tmG F by unfold tmG; first | (rw [if_pos (by omega), if_neg (by omega), if_neg (by omega)]; done) | (rw [if_neg (by omega), if_pos (by omega)]; done) | (rw [if_neg (by omega), if_neg (by omega), if_pos (by omega)]; done) | (rw [if_neg (by omega), if_neg (by omega), if_neg (by omega)]; done) | (exfalso; omega)) ?_
                  refine R_istore_4 hX c1_i dX12_readsTimed_135 ?_
                  refine R_aload_0 hX dX12_readsTimed_137 ?_
                  refine R_v0i hX dX12_readsTimed_138 li_X12_112 mk_X12_isGood mi_X12_isGood rfl o_136 (r_isGood (by have z := nG.1.2.1; constructor <;> omega)) ⟨⟨by decide, by decide⟩, by decide, by decide, rfl, Nat.le_of_ble_eq_true rfl, rfl⟩ (fun x_138 F_138 h_138 => ?_)
                  obtain ⟨h_138, e_138⟩ := h_138; replace e_138 := e_138.symm; subst e_138
                  refine R_ifne (tgt := 145) hX dX12_readsTimed_141 (by decide) (by constructor <;> first | omega | (simp (disch := omega) only [up_k, up_i, up_s]; omega)) (fun c_141 => ?_) (fun c_141 => ?_)
                  · skip
                    have hg0 : tmG F 136 19 = 0 := by omega
                    have h12 := tm_39 h ha hg0
                    have e39 : tmG F 136 39 = F 136 39 := nG.2.2.2.2.1
                    have b39 := nG.1.2.2.2.2.2.2.1
                    refine R_aload_0 hX dX12_readsTimed_145 ?_
                    refine R_getq (v := 154) hX dX12_readsTimed_146 fl_X12_73 o_136 rfl (by omega) ?_
                    refine R_aload_0 hX dX12_readsTimed_149 ?_
                    refine R_geti hX dX12_readsTimed_150 fl_X12_205 o_136 rfl ?_
                    try simp (disch := omega) only [up_i, up_k, up_s]
                    refine R_iload_1 hX dX12_readsTimed_153 ?_
                    refine R_iast hX dX12_readsTimed_154 a_154 ⟨by omega, by omega⟩ ?_
                    refine R_aload_0 hX dX12_readsTimed_155 ?_
                    refine R_getq (v := 155) hX dX12_readsTimed_156 fl_X12_76 o_136 rfl (by omega) ?_
                    refine R_aload_0 hX dX12_readsTimed_159 ?_
                    refine R_geti hX dX12_readsTimed_160 fl_X12_205 o_136 rfl ?_
                    try simp (disch := omega) only [up_i, up_k, up_s]
                    refine R_iload_2 hX dX12_readsTimed_163 ?_
                    refine R_iast hX dX12_readsTimed_164 a_155 ⟨by omega, by omega⟩ ?_
                    refine R_aload_0 hX dX12_readsTimed_165 ?_
                    refine R_getq (v := 156) hX dX12_readsTimed_166 fl_X12_79 o_136 rfl (by omega) ?_
                    refine R_aload_0 hX dX12_readsTimed_169 ?_
                    refine R_geti hX dX12_readsTimed_170 fl_X12_205 o_136 rfl ?_
                    try simp (disch := omega) only [up_i, up_k, up_s]
                    refine R_iload_3 hX dX12_readsTimed_173 ?_
                    refine R_iast hX dX12_readsTimed_174 a_156 ⟨by omega, by omega⟩ ?_
                    refine R_aload_0 hX dX12_readsTimed_175 ?_
                    refine R_getq (v := 157) hX dX12_readsTimed_176 fl_X12_82 o_136 rfl (by omega) ?_
                    refine R_aload_0 hX dX12_readsTimed_179 ?_
                    refine R_geti hX dX12_readsTimed_180 fl_X12_205 o_136 rfl ?_
                    try simp (disch := omega) only [up_i, up_k, up_s]
                    refine R_iload_4 hX dX12_readsTimed_183 ?_
                    refine R_iast hX dX12_readsTimed_185 a_157 ⟨by omega, by omega⟩ ?_
                    refine R_aload_0 hX dX12_readsTimed_186 ?_
                    refine R_dup hX c1_r dX12_readsTimed_187 ?_
                    refine R_geti hX dX12_readsTimed_188 fl_X12_205 o_136 rfl ?_
                    try simp (disch := omega) only [up_i, up_k, up_s]
                    refine R_iconst hX dX12_readsTimed_191 ?_
                    refine R_iadd hX dX12_readsTimed_192 ?_
                    refine R_puti hX dX12_readsTimed_193 fl_X12_205 o_136 rfl ?_
                    exact R_vret hX dX12_readsTimed_196 (by unfold tmS tmP; rw [if_pos hg0])
                  · skip
                    exact R_vret hX dX12_readsTimed_144 (by unfold tmS; rw [if_neg (by omega)])
                · skip
                  refine R_sipush hX dX12_readsTimed_124 (by decide) ?_
                  refine R_goto (tgt := 132) hX dX12_readsTimed_127 (by decide) ?_
                  refine R_v2i hX dX12_readsTimed_132 li_X12_195 mk_X12_readsNumber mi_X12_readsNumber rfl o_136 (r_readsNumber nE.1 (by constructor <;> omega) (by constructor <;> omega)) ⟨⟨by decide, by decide⟩, by decide, by decide, rfl, Nat.le_of_ble_eq_true rfl, rfl⟩ (fun x_132 F_132 h_132 => ?_)
                  obtain ⟨hx, hF⟩ := h_132
                  subst hx
                  subst hF
                  refine R.eq rfl rfl (show _ = tmG F by unfold tmG; first | (rw [if_pos (by omega), if_neg (by omega), if_neg (by omega)]; done) | (rw [if_neg (by omega), if_pos (by omega)]; done) | (rw [if_neg (by omega), if_neg (by omega), if_pos (by omega)]; done) | (rw [if_neg (by omega), if_neg (by omega), if_neg (by omega)]; done) | (exfalso; omega)) ?_
                  refine R_istore_4 hX c1_i dX12_readsTimed_135 ?_
                  refine R_aload_0 hX dX12_readsTimed_137 ?_
                  refine R_v0i hX dX12_readsTimed_138 li_X12_112 mk_X12_isGood mi_X12_isGood rfl o_136 (r_isGood (by have z := nG.1.2.1; constructor <;> omega)) ⟨⟨by decide, by decide⟩, by decide, by decide, rfl, Nat.le_of_ble_eq_true rfl, rfl⟩ (fun x_138 F_138 h_138 => ?_)
                  obtain ⟨h_138, e_138⟩ := h_138; replace e_138 := e_138.symm; subst e_138
                  refine R_ifne (tgt := 145) hX dX12_readsTimed_141 (by decide) (by constructor <;> first | omega | (simp (disch := omega) only [up_k, up_i, up_s]; omega)) (fun c_141 => ?_) (fun c_141 => ?_)
                  · skip
                    have hg0 : tmG F 136 19 = 0 := by omega
                    have h12 := tm_39 h ha hg0
                    have e39 : tmG F 136 39 = F 136 39 := nG.2.2.2.2.1
                    have b39 := nG.1.2.2.2.2.2.2.1
                    refine R_aload_0 hX dX12_readsTimed_145 ?_
                    refine R_getq (v := 154) hX dX12_readsTimed_146 fl_X12_73 o_136 rfl (by omega) ?_
                    refine R_aload_0 hX dX12_readsTimed_149 ?_
                    refine R_geti hX dX12_readsTimed_150 fl_X12_205 o_136 rfl ?_
                    try simp (disch := omega) only [up_i, up_k, up_s]
                    refine R_iload_1 hX dX12_readsTimed_153 ?_
                    refine R_iast hX dX12_readsTimed_154 a_154 ⟨by omega, by omega⟩ ?_
                    refine R_aload_0 hX dX12_readsTimed_155 ?_
                    refine R_getq (v := 155) hX dX12_readsTimed_156 fl_X12_76 o_136 rfl (by omega) ?_
                    refine R_aload_0 hX dX12_readsTimed_159 ?_
                    refine R_geti hX dX12_readsTimed_160 fl_X12_205 o_136 rfl ?_
                    try simp (disch := omega) only [up_i, up_k, up_s]
                    refine R_iload_2 hX dX12_readsTimed_163 ?_
                    refine R_iast hX dX12_readsTimed_164 a_155 ⟨by omega, by omega⟩ ?_
                    refine R_aload_0 hX dX12_readsTimed_165 ?_
                    refine R_getq (v := 156) hX dX12_readsTimed_166 fl_X12_79 o_136 rfl (by omega) ?_
                    refine R_aload_0 hX dX12_readsTimed_169 ?_
                    refine R_geti hX dX12_readsTimed_170 fl_X12_205 o_136 rfl ?_
                    try simp (disch := omega) only [up_i, up_k, up_s]
                    refine R_iload_3 hX dX12_readsTimed_173 ?_
                    refine R_iast hX dX12_readsTimed_174 a_156 ⟨by omega, by omega⟩ ?_
                    refine R_aload_0 hX dX12_readsTimed_175 ?_
                    refine R_getq (v := 157) hX dX12_readsTimed_176 fl_X12_82 o_136 rfl (by omega) ?_
                    refine R_aload_0 hX dX12_readsTimed_179 ?_
                    refine R_geti hX dX12_readsTimed_180 fl_X12_205 o_136 rfl ?_
                    try simp (disch := omega) only [up_i, up_k, up_s]
                    refine R_iload_4 hX dX12_readsTimed_183 ?_
                    refine R_iast hX dX12_readsTimed_185 a_157 ⟨by omega, by omega⟩ ?_
                    refine R_aload_0 hX dX12_readsTimed_186 ?_
                    refine R_dup hX c1_r dX12_readsTimed_187 ?_
                    refine R_geti hX dX12_readsTimed_188 fl_X12_205 o_136 rfl ?_
                    try simp (disch := omega) only [up_i, up_k, up_s]
                    refine R_iconst hX dX12_readsTimed_191 ?_
                    refine R_iadd hX dX12_readsTimed_192 ?_
                    refine R_puti hX dX12_readsTimed_193 fl_X12_205 o_136 rfl ?_
                    exact R_vret hX dX12_readsTimed_196 (by unfold tmS tmP; rw [if_pos hg0])
                  · skip
                    exact R_vret hX dX12_readsTimed_144 (by unfold tmS; rw [if_neg (by omega)])
              · skip
                refine R_bipush hX dX12_readsTimed_114 (by decide) ?_
                refine R_goto (tgt := 132) hX dX12_readsTimed_116 (by decide) ?_
                refine R_v2i hX dX12_readsTimed_132 li_X12_195 mk_X12_readsNumber mi_X12_readsNumber rfl o_136 (r_readsNumber nE.1 (by constructor <;> omega) (by constructor <;> omega)) ⟨⟨by decide, by decide⟩, by decide, by decide, rfl, Nat.le_of_ble_eq_true rfl, rfl⟩ (fun x_132 F_132 h_132 => ?_)
                obtain ⟨hx, hF⟩ := h_132
                subst hx
                subst hF
                refine R.eq rfl rfl (show _ = tmG F by unfold tmG; first | (rw [if_pos (by omega), if_neg (by omega), if_neg (by omega)]; done) | (rw [if_neg (by omega), if_pos (by omega)]; done) | (rw [if_neg (by omega), if_neg (by omega), if_pos (by omega)]; done) | (rw [if_neg (by omega), if_neg (by omega), if_neg (by omega)]; done) | (exfalso; omega)) ?_
                refine R_istore_4 hX c1_i dX12_readsTimed_135 ?_
                refine R_aload_0 hX dX12_readsTimed_137 ?_
                refine R_v0i hX dX12_readsTimed_138 li_X12_112 mk_X12_isGood mi_X12_isGood rfl o_136 (r_isGood (by have z := nG.1.2.1; constructor <;> omega)) ⟨⟨by decide, by decide⟩, by decide, by decide, rfl, Nat.le_of_ble_eq_true rfl, rfl⟩ (fun x_138 F_138 h_138 => ?_)
                obtain ⟨h_138, e_138⟩ := h_138; replace e_138 := e_138.symm; subst e_138
                refine R_ifne (tgt := 145) hX dX12_readsTimed_141 (by decide) (by constructor <;> first | omega | (simp (disch := omega) only [up_k, up_i, up_s]; omega)) (fun c_141 => ?_) (fun c_141 => ?_)
                · skip
                  have hg0 : tmG F 136 19 = 0 := by omega
                  have h12 := tm_39 h ha hg0
                  have e39 : tmG F 136 39 = F 136 39 := nG.2.2.2.2.1
                  have b39 := nG.1.2.2.2.2.2.2.1
                  refine R_aload_0 hX dX12_readsTimed_145 ?_
                  refine R_getq (v := 154) hX dX12_readsTimed_146 fl_X12_73 o_136 rfl (by omega) ?_
                  refine R_aload_0 hX dX12_readsTimed_149 ?_
                  refine R_geti hX dX12_readsTimed_150 fl_X12_205 o_136 rfl ?_
                  try simp (disch := omega) only [up_i, up_k, up_s]
                  refine R_iload_1 hX dX12_readsTimed_153 ?_
                  refine R_iast hX dX12_readsTimed_154 a_154 ⟨by omega, by omega⟩ ?_
                  refine R_aload_0 hX dX12_readsTimed_155 ?_
                  refine R_getq (v := 155) hX dX12_readsTimed_156 fl_X12_76 o_136 rfl (by omega) ?_
                  refine R_aload_0 hX dX12_readsTimed_159 ?_
                  refine R_geti hX dX12_readsTimed_160 fl_X12_205 o_136 rfl ?_
                  try simp (disch := omega) only [up_i, up_k, up_s]
                  refine R_iload_2 hX dX12_readsTimed_163 ?_
                  refine R_iast hX dX12_readsTimed_164 a_155 ⟨by omega, by omega⟩ ?_
                  refine R_aload_0 hX dX12_readsTimed_165 ?_
                  refine R_getq (v := 156) hX dX12_readsTimed_166 fl_X12_79 o_136 rfl (by omega) ?_
                  refine R_aload_0 hX dX12_readsTimed_169 ?_
                  refine R_geti hX dX12_readsTimed_170 fl_X12_205 o_136 rfl ?_
                  try simp (disch := omega) only [up_i, up_k, up_s]
                  refine R_iload_3 hX dX12_readsTimed_173 ?_
                  refine R_iast hX dX12_readsTimed_174 a_156 ⟨by omega, by omega⟩ ?_
                  refine R_aload_0 hX dX12_readsTimed_175 ?_
                  refine R_getq (v := 157) hX dX12_readsTimed_176 fl_X12_82 o_136 rfl (by omega) ?_
                  refine R_aload_0 hX dX12_readsTimed_179 ?_
                  refine R_geti hX dX12_readsTimed_180 fl_X12_205 o_136 rfl ?_
                  try simp (disch := omega) only [up_i, up_k, up_s]
                  refine R_iload_4 hX dX12_readsTimed_183 ?_
                  refine R_iast hX dX12_readsTimed_185 a_157 ⟨by omega, by omega⟩ ?_
                  refine R_aload_0 hX dX12_readsTimed_186 ?_
                  refine R_dup hX c1_r dX12_readsTimed_187 ?_
                  refine R_geti hX dX12_readsTimed_188 fl_X12_205 o_136 rfl ?_
                  try simp (disch := omega) only [up_i, up_k, up_s]
                  refine R_iconst hX dX12_readsTimed_191 ?_
                  refine R_iadd hX dX12_readsTimed_192 ?_
                  refine R_puti hX dX12_readsTimed_193 fl_X12_205 o_136 rfl ?_
                  exact R_vret hX dX12_readsTimed_196 (by unfold tmS tmP; rw [if_pos hg0])
                · skip
                  exact R_vret hX dX12_readsTimed_144 (by unfold tmS; rw [if_neg (by omega)])
            · skip
              refine R_iconst hX dX12_readsTimed_105 ?_
              refine R_goto (tgt := 110) hX dX12_readsTimed_106 (by decide) ?_
              refine R_iload_3 hX dX12_readsTimed_110 ?_
              refine R_ifne (tgt := 119) hX dX12_readsTimed_111 (by decide) (by constructor <;> first | omega | (simp (disch := omega) only [up_k, up_i, up_s]; omega)) (fun c_111 => ?_) (fun c_111 => ?_)
              · skip
                refine R_iload_3 hX dX12_readsTimed_119 ?_
                refine R_iconst hX dX12_readsTimed_120 ?_
                refine R_icmpne (tgt := 130) hX dX12_readsTimed_121 (by decide) (by constructor <;> first | omega | (simp (disch := omega) only [up_k, up_i, up_s]; omega)) (by constructor <;> first | omega | (simp (disch := omega) only [up_k, up_i, up_s]; omega)) (fun c_121 => ?_) (fun c_121 => ?_)
                · skip
                  refine R_bipush hX dX12_readsTimed_130 (by decide) ?_
                  refine R_v2i hX dX12_readsTimed_132 li_X12_195 mk_X12_readsNumber mi_X12_readsNumber rfl o_136 (r_readsNumber nE.1 (by constructor <;> omega) (by constructor <;> omega)) ⟨⟨by decide, by decide⟩, by decide, by decide, rfl, Nat.le_of_ble_eq_true rfl, rfl⟩ (fun x_132 F_132 h_132 => ?_)
                  obtain ⟨hx, hF⟩ := h_132
                  subst hx
                  subst hF
                  refine R.eq rfl rfl (show _ = tmG F by unfold tmG; first | (rw [if_pos (by omega), if_neg (by omega), if_neg (by omega)]; done) | (rw [if_neg (by omega), if_pos (by omega)]; done) | (rw [if_neg (by omega), if_neg (by omega), if_pos (by omega)]; done) | (rw [if_neg (by omega), if_neg (by omega), if_neg (by omega)]; done) | (exfalso; omega)) ?_
                  refine R_istore_4 hX c1_i dX12_readsTimed_135 ?_
                  refine R_aload_0 hX dX12_readsTimed_137 ?_
                  refine R_v0i hX dX12_readsTimed_138 li_X12_112 mk_X12_isGood mi_X12_isGood rfl o_136 (r_isGood (by have z := nG.1.2.1; constructor <;> omega)) ⟨⟨by decide, by decide⟩, by decide, by decide, rfl, Nat.le_of_ble_eq_true rfl, rfl⟩ (fun x_138 F_138 h_138 => ?_)
                  obtain ⟨h_138, e_138⟩ := h_138; replace e_138 := e_138.symm; subst e_138
                  refine R_ifne (tgt := 145) hX dX12_readsTimed_141 (by decide) (by constructor <;> first | omega | (simp (disch := omega) only [up_k, up_i, up_s]; omega)) (fun c_141 => ?_) (fun c_141 => ?_)
                  · skip
                    have hg0 : tmG F 136 19 = 0 := by omega
                    have h12 := tm_39 h ha hg0
                    have e39 : tmG F 136 39 = F 136 39 := nG.2.2.2.2.1
                    have b39 := nG.1.2.2.2.2.2.2.1
                    refine R_aload_0 hX dX12_readsTimed_145 ?_
                    refine R_getq (v := 154) hX dX12_readsTimed_146 fl_X12_73 o_136 rfl (by omega) ?_
                    refine R_aload_0 hX dX12_readsTimed_149 ?_
                    refine R_geti hX dX12_readsTimed_150 fl_X12_205 o_136 rfl ?_
                    try simp (disch := omega) only [up_i, up_k, up_s]
                    refine R_iload_1 hX dX12_readsTimed_153 ?_
                    refine R_iast hX dX12_readsTimed_154 a_154 ⟨by omega, by omega⟩ ?_
                    refine R_aload_0 hX dX12_readsTimed_155 ?_
                    refine R_getq (v := 155) hX dX12_readsTimed_156 fl_X12_76 o_136 rfl (by omega) ?_
                    refine R_aload_0 hX dX12_readsTimed_159 ?_
                    refine R_geti hX dX12_readsTimed_160 fl_X12_205 o_136 rfl ?_
                    try simp (disch := omega) only [up_i, up_k, up_s]
                    refine R_iload_2 hX dX12_readsTimed_163 ?_
                    refine R_iast hX dX12_readsTimed_164 a_155 ⟨by omega, by omega⟩ ?_
                    refine R_aload_0 hX dX12_readsTimed_165 ?_
                    refine R_getq (v := 156) hX dX12_readsTimed_166 fl_X12_79 o_136 rfl (by omega) ?_
                    refine R_aload_0 hX dX12_readsTimed_169 ?_
                    refine R_geti hX dX12_readsTimed_170 fl_X12_205 o_136 rfl ?_
                    try simp (disch := omega) only [up_i, up_k, up_s]
                    refine R_iload_3 hX dX12_readsTimed_173 ?_
                    refine R_iast hX dX12_readsTimed_174 a_156 ⟨by omega, by omega⟩ ?_
                    refine R_aload_0 hX dX12_readsTimed_175 ?_
                    refine R_getq (v := 157) hX dX12_readsTimed_176 fl_X12_82 o_136 rfl (by omega) ?_
                    refine R_aload_0 hX dX12_readsTimed_179 ?_
                    refine R_geti hX dX12_readsTimed_180 fl_X12_205 o_136 rfl ?_
                    try simp (disch := omega) only [up_i, up_k, up_s]
                    refine R_iload_4 hX dX12_readsTimed_183 ?_
                    refine R_iast hX dX12_readsTimed_185 a_157 ⟨by omega, by omega⟩ ?_
                    refine R_aload_0 hX dX12_readsTimed_186 ?_
                    refine R_dup hX c1_r dX12_readsTimed_187 ?_
                    refine R_geti hX dX12_readsTimed_188 fl_X12_205 o_136 rfl ?_
                    try simp (disch := omega) only [up_i, up_k, up_s]
                    refine R_iconst hX dX12_readsTimed_191 ?_
                    refine R_iadd hX dX12_readsTimed_192 ?_
                    refine R_puti hX dX12_readsTimed_193 fl_X12_205 o_136 rfl ?_
                    exact R_vret hX dX12_readsTimed_196 (by unfold tmS tmP; rw [if_pos hg0])
                  · skip
                    exact R_vret hX dX12_readsTimed_144 (by unfold tmS; rw [if_neg (by omega)])
                · skip
                  refine R_sipush hX dX12_readsTimed_124 (by decide) ?_
                  refine R_goto (tgt := 132) hX dX12_readsTimed_127 (by decide) ?_
                  refine R_v2i hX dX12_readsTimed_132 li_X12_195 mk_X12_readsNumber mi_X12_readsNumber rfl o_136 (r_readsNumber nE.1 (by constructor <;> omega) (by constructor <;> omega)) ⟨⟨by decide, by decide⟩, by decide, by decide, rfl, Nat.le_of_ble_eq_true rfl, rfl⟩ (fun x_132 F_132 h_132 => ?_)
                  obtain ⟨hx, hF⟩ := h_132
                  subst hx
                  subst hF
                  refine R.eq rfl rfl (show _ = tmG F by unfold tmG; first | (rw [if_pos (by omega), if_neg (by omega), if_neg (by omega)]; done) | (rw [if_neg (by omega), if_pos (by omega)]; done) | (rw [if_neg (by omega), if_neg (by omega), if_pos (by omega)]; done) | (rw [if_neg (by omega), if_neg (by omega), if_neg (by omega)]; done) | (exfalso; omega)) ?_
                  refine R_istore_4 hX c1_i dX12_readsTimed_135 ?_
                  refine R_aload_0 hX dX12_readsTimed_137 ?_
                  refine R_v0i hX dX12_readsTimed_138 li_X12_112 mk_X12_isGood mi_X12_isGood rfl o_136 (r_isGood (by have z := nG.1.2.1; constructor <;> omega)) ⟨⟨by decide, by decide⟩, by decide, by decide, rfl, Nat.le_of_ble_eq_true rfl, rfl⟩ (fun x_138 F_138 h_138 => ?_)
                  obtain ⟨h_138, e_138⟩ := h_138; replace e_138 := e_138.symm; subst e_138
                  refine R_ifne (tgt := 145) hX dX12_readsTimed_141 (by decide) (by constructor <;> first | omega | (simp (disch := omega) only [up_k, up_i, up_s]; omega)) (fun c_141 => ?_) (fun c_141 => ?_)
                  · skip
                    have hg0 : tmG F 136 19 = 0 := by omega
                    have h12 := tm_39 h ha hg0
                    have e39 : tmG F 136 39 = F 136 39 := nG.2.2.2.2.1
                    have b39 := nG.1.2.2.2.2.2.2.1
                    refine R_aload_0 hX dX12_readsTimed_145 ?_
                    refine R_getq (v := 154) hX dX12_readsTimed_146 fl_X12_73 o_136 rfl (by omega) ?_
                    refine R_aload_0 hX dX12_readsTimed_149 ?_
                    refine R_geti hX dX12_readsTimed_150 fl_X12_205 o_136 rfl ?_
                    try simp (disch := omega) only [up_i, up_k, up_s]
                    refine R_iload_1 hX dX12_readsTimed_153 ?_
                    refine R_iast hX dX12_readsTimed_154 a_154 ⟨by omega, by omega⟩ ?_
                    refine R_aload_0 hX dX12_readsTimed_155 ?_
                    refine R_getq (v := 155) hX dX12_readsTimed_156 fl_X12_76 o_136 rfl (by omega) ?_
                    refine R_aload_0 hX dX12_readsTimed_159 ?_
                    refine R_geti hX dX12_readsTimed_160 fl_X12_205 o_136 rfl ?_
                    try simp (disch := omega) only [up_i, up_k, up_s]
                    refine R_iload_2 hX dX12_readsTimed_163 ?_
                    refine R_iast hX dX12_readsTimed_164 a_155 ⟨by omega, by omega⟩ ?_
                    refine R_aload_0 hX dX12_readsTimed_165 ?_
                    refine R_getq (v := 156) hX dX12_readsTimed_166 fl_X12_79 o_136 rfl (by omega) ?_
                    refine R_aload_0 hX dX12_readsTimed_169 ?_
                    refine R_geti hX dX12_readsTimed_170 fl_X12_205 o_136 rfl ?_
                    try simp (disch := omega) only [up_i, up_k, up_s]
                    refine R_iload_3 hX dX12_readsTimed_173 ?_
                    refine R_iast hX dX12_readsTimed_174 a_156 ⟨by omega, by omega⟩ ?_
                    refine R_aload_0 hX dX12_readsTimed_175 ?_
                    refine R_getq (v := 157) hX dX12_readsTimed_176 fl_X12_82 o_136 rfl (by omega) ?_
                    refine R_aload_0 hX dX12_readsTimed_179 ?_
                    refine R_geti hX dX12_readsTimed_180 fl_X12_205 o_136 rfl ?_
                    try simp (disch := omega) only [up_i, up_k, up_s]
                    refine R_iload_4 hX dX12_readsTimed_183 ?_
                    refine R_iast hX dX12_readsTimed_185 a_157 ⟨by omega, by omega⟩ ?_
                    refine R_aload_0 hX dX12_readsTimed_186 ?_
                    refine R_dup hX c1_r dX12_readsTimed_187 ?_
                    refine R_geti hX dX12_readsTimed_188 fl_X12_205 o_136 rfl ?_
                    try simp (disch := omega) only [up_i, up_k, up_s]
                    refine R_iconst hX dX12_readsTimed_191 ?_
                    refine R_iadd hX dX12_readsTimed_192 ?_
                    refine R_puti hX dX12_readsTimed_193 fl_X12_205 o_136 rfl ?_
                    exact R_vret hX dX12_readsTimed_196 (by unfold tmS tmP; rw [if_pos hg0])
                  · skip
                    exact R_vret hX dX12_readsTimed_144 (by unfold tmS; rw [if_neg (by omega)])
              · skip
                refine R_bipush hX dX12_readsTimed_114 (by decide) ?_
                refine R_goto (tgt := 132) hX dX12_readsTimed_116 (by decide) ?_
                refine R_v2i hX dX12_readsTimed_132 li_X12_195 mk_X12_readsNumber mi_X12_readsNumber rfl o_136 (r_readsNumber nE.1 (by constructor <;> omega) (by constructor <;> omega)) ⟨⟨by decide, by decide⟩, by decide, by decide, rfl, Nat.le_of_ble_eq_true rfl, rfl⟩ (fun x_132 F_132 h_132 => ?_)
                obtain ⟨hx, hF⟩ := h_132
                subst hx
                subst hF
                refine R.eq rfl rfl (show _ = tmG F by unfold tmG; first | (rw [if_pos (by omega), if_neg (by omega), if_neg (by omega)]; done) | (rw [if_neg (by omega), if_pos (by omega)]; done) | (rw [if_neg (by omega), if_neg (by omega), if_pos (by omega)]; done) | (rw [if_neg (by omega), if_neg (by omega), if_neg (by omega)]; done) | (exfalso; omega)) ?_
                refine R_istore_4 hX c1_i dX12_readsTimed_135 ?_
                refine R_aload_0 hX dX12_readsTimed_137 ?_
                refine R_v0i hX dX12_readsTimed_138 li_X12_112 mk_X12_isGood mi_X12_isGood rfl o_136 (r_isGood (by have z := nG.1.2.1; constructor <;> omega)) ⟨⟨by decide, by decide⟩, by decide, by decide, rfl, Nat.le_of_ble_eq_true rfl, rfl⟩ (fun x_138 F_138 h_138 => ?_)
                obtain ⟨h_138, e_138⟩ := h_138; replace e_138 := e_138.symm; subst e_138
                refine R_ifne (tgt := 145) hX dX12_readsTimed_141 (by decide) (by constructor <;> first | omega | (simp (disch := omega) only [up_k, up_i, up_s]; omega)) (fun c_141 => ?_) (fun c_141 => ?_)
                · skip
                  have hg0 : tmG F 136 19 = 0 := by omega
                  have h12 := tm_39 h ha hg0
                  have e39 : tmG F 136 39 = F 136 39 := nG.2.2.2.2.1
                  have b39 := nG.1.2.2.2.2.2.2.1
                  refine R_aload_0 hX dX12_readsTimed_145 ?_
                  refine R_getq (v := 154) hX dX12_readsTimed_146 fl_X12_73 o_136 rfl (by omega) ?_
                  refine R_aload_0 hX dX12_readsTimed_149 ?_
                  refine R_geti hX dX12_readsTimed_150 fl_X12_205 o_136 rfl ?_
                  try simp (disch := omega) only [up_i, up_k, up_s]
                  refine R_iload_1 hX dX12_readsTimed_153 ?_
                  refine R_iast hX dX12_readsTimed_154 a_154 ⟨by omega, by omega⟩ ?_
                  refine R_aload_0 hX dX12_readsTimed_155 ?_
                  refine R_getq (v := 155) hX dX12_readsTimed_156 fl_X12_76 o_136 rfl (by omega) ?_
                  refine R_aload_0 hX dX12_readsTimed_159 ?_
                  refine R_geti hX dX12_readsTimed_160 fl_X12_205 o_136 rfl ?_
                  try simp (disch := omega) only [up_i, up_k, up_s]
                  refine R_iload_2 hX dX12_readsTimed_163 ?_
                  refine R_iast hX dX12_readsTimed_164 a_155 ⟨by omega, by omega⟩ ?_
                  refine R_aload_0 hX dX12_readsTimed_165 ?_
                  refine R_getq (v := 156) hX dX12_readsTimed_166 fl_X12_79 o_136 rfl (by omega) ?_
                  refine R_aload_0 hX dX12_readsTimed_169 ?_
                  refine R_geti hX dX12_readsTimed_170 fl_X12_205 o_136 rfl ?_
                  try simp (disch := omega) only [up_i, up_k, up_s]
                  refine R_iload_3 hX dX12_readsTimed_173 ?_
                  refine R_iast hX dX12_readsTimed_174 a_156 ⟨by omega, by omega⟩ ?_
                  refine R_aload_0 hX dX12_readsTimed_175 ?_
                  refine R_getq (v := 157) hX dX12_readsTimed_176 fl_X12_82 o_136 rfl (by omega) ?_
                  refine R_aload_0 hX dX12_readsTimed_179 ?_
                  refine R_geti hX dX12_readsTimed_180 fl_X12_205 o_136 rfl ?_
                  try simp (disch := omega) only [up_i, up_k, up_s]
                  refine R_iload_4 hX dX12_readsTimed_183 ?_
                  refine R_iast hX dX12_readsTimed_185 a_157 ⟨by omega, by omega⟩ ?_
                  refine R_aload_0 hX dX12_readsTimed_186 ?_
                  refine R_dup hX c1_r dX12_readsTimed_187 ?_
                  refine R_geti hX dX12_readsTimed_188 fl_X12_205 o_136 rfl ?_
                  try simp (disch := omega) only [up_i, up_k, up_s]
                  refine R_iconst hX dX12_readsTimed_191 ?_
                  refine R_iadd hX dX12_readsTimed_192 ?_
                  refine R_puti hX dX12_readsTimed_193 fl_X12_205 o_136 rfl ?_
                  exact R_vret hX dX12_readsTimed_196 (by unfold tmS tmP; rw [if_pos hg0])
                · skip
                  exact R_vret hX dX12_readsTimed_144 (by unfold tmS; rw [if_neg (by omega)])
    · skip
      refine R_iconst hX dX12_readsTimed_53 ?_
      refine R_goto (tgt := 58) hX dX12_readsTimed_54 (by decide) ?_
      refine R_iconst hX dX12_readsTimed_58 ?_
      refine R_v2v hX dX12_readsTimed_59 li_X12_175 mk_X12_must mi_X12_must rfl o_136 (r_must (by have z := (nC.1).2.1; constructor <;> omega) (by have z := (nC.1).2.2.1; constructor <;> omega) (by omega)) ⟨⟨by decide, by decide⟩, by decide, by decide, rfl, Nat.le_of_ble_eq_true rfl, rfl⟩ (fun x_59 F_59 h_59 => ?_)
      subst h_59
      refine R.eq rfl rfl (show _ = mu (¬ hrS (tmC F) = -2) 3 (tmC F) from mu_iff (by omega)) ?_
      refine R_aload_0 hX dX12_readsTimed_62 ?_
      refine R_v0v hX dX12_readsTimed_63 li_X12_179 mk_X12_scans mi_X12_scans rfl o_136 (r_scans (nC.1.mu (g := ¬ hrS (tmC F) = -2) (c := 3) (by omega)).1 (by have z := (nC.1.mu (g := ¬ hrS (tmC F) = -2) (c := 3) (by omega)).2.1; constructor <;> omega)) ⟨⟨by decide, by decide⟩, by decide, by decide, rfl, Nat.le_of_ble_eq_true rfl, rfl⟩ (fun x_63 F_63 h_63 => ?_)
      subst h_63
      refine R.eq rfl rfl (show _ = tmD F from rfl) ?_
      refine R_aload_0 hX dX12_readsTimed_66 ?_
      refine R_v0i hX dX12_readsTimed_67 li_X12_161 mk_X12_settingHere mi_X12_settingHere rfl o_136 (r_settingHere nD.1) ⟨⟨by decide, by decide⟩, by decide, by decide, rfl, Nat.le_of_ble_eq_true rfl, rfl⟩ (fun x_67 F_67 h_67 => ?_)
      obtain ⟨h_67, e_67⟩ := h_67; replace e_67 := e_67.symm; subst e_67
      subst h_67
      refine R_istore_3 hX c1_i dX12_readsTimed_70 ?_
      refine R_aload_0 hX dX12_readsTimed_71 ?_
      refine R_iload_3 hX dX12_readsTimed_72 ?_
      refine R_ifeq (tgt := 86) hX dX12_readsTimed_73 (by decide) (by constructor <;> first | omega | (simp (disch := omega) only [up_k, up_i, up_s]; omega)) (fun c_73 => ?_) (fun c_73 => ?_)
      · skip
        refine R_iconst hX dX12_readsTimed_86 ?_
        refine R_goto (tgt := 91) hX dX12_readsTimed_87 (by decide) ?_
        refine R_iconst hX dX12_readsTimed_91 ?_
        refine R_v2v hX dX12_readsTimed_92 li_X12_175 mk_X12_must mi_X12_must rfl o_136 (r_must (by have z := (nD.1).2.1; constructor <;> omega) (by have z := (nD.1).2.2.1; constructor <;> omega) (by omega)) ⟨⟨by decide, by decide⟩, by decide, by decide, rfl, Nat.le_of_ble_eq_true rfl, rfl⟩ (fun x_92 F_92 h_92 => ?_)
        subst h_92
        refine R.eq rfl rfl (show _ = mu (stH (tmD F) = 0 ∨ stH (tmD F) = 1 ∨ stH (tmD F) = 4) 1 (tmD F) from mu_iff (by omega)) ?_
        refine R_aload_0 hX dX12_readsTimed_95 ?_
        refine R_v0v hX dX12_readsTimed_96 li_X12_179 mk_X12_scans mi_X12_scans rfl o_136 (r_scans (nD.1.mu (g := stH (tmD F) = 0 ∨ stH (tmD F) = 1 ∨ stH (tmD F) = 4) (c := 1) (by omega)).1 (by have z := (nD.1.mu (g := stH (tmD F) = 0 ∨ stH (tmD F) = 1 ∨ stH (tmD F) = 4) (c := 1) (by omega)).2.1; constructor <;> omega)) ⟨⟨by decide, by decide⟩, by decide, by decide, rfl, Nat.le_of_ble_eq_true rfl, rfl⟩ (fun x_96 F_96 h_96 => ?_)
        subst h_96
        refine R.eq rfl rfl (show _ = tmE F from rfl) ?_
        refine R_aload_0 hX dX12_readsTimed_99 ?_
        refine R_iload_3 hX dX12_readsTimed_100 ?_
        refine R_iconst hX dX12_readsTimed_101 ?_
        refine R_icmpne (tgt := 109) hX dX12_readsTimed_102 (by decide) (by constructor <;> first | omega | (simp (disch := omega) only [up_k, up_i, up_s]; omega)) (by constructor <;> first | omega | (simp (disch := omega) only [up_k, up_i, up_s]; omega)) (fun c_102 => ?_) (fun c_102 => ?_)
        · skip
          refine R_iconst hX dX12_readsTimed_109 ?_
          refine R_iload_3 hX dX12_readsTimed_110 ?_
          refine R_ifne (tgt := 119) hX dX12_readsTimed_111 (by decide) (by constructor <;> first | omega | (simp (disch := omega) only [up_k, up_i, up_s]; omega)) (fun c_111 => ?_) (fun c_111 => ?_)
          · skip
            refine R_iload_3 hX dX12_readsTimed_119 ?_
            refine R_iconst hX dX12_readsTimed_120 ?_
            refine R_icmpne (tgt := 130) hX dX12_readsTimed_121 (by decide) (by constructor <;> first | omega | (simp (disch := omega) only [up_k, up_i, up_s]; omega)) (by constructor <;> first | omega | (simp (disch := omega) only [up_k, up_i, up_s]; omega)) (fun c_121 => ?_) (fun c_121 => ?_)
            · skip
              refine R_bipush hX dX12_readsTimed_130 (by decide) ?_
              refine R_v2i hX dX12_readsTimed_132 li_X12_195 mk_X12_readsNumber mi_X12_readsNumber rfl o_136 (r_readsNumber nE.1 (by constructor <;> omega) (by constructor <;> omega)) ⟨⟨by decide, by decide⟩, by decide, by decide, rfl, Nat.le_of_ble_eq_true rfl, rfl⟩ (fun x_132 F_132 h_132 => ?_)
              obtain ⟨hx, hF⟩ := h_132
              subst hx
              subst hF
              refine R.eq rfl rfl (show _ = tmG F by unfold tmG; first | (rw [if_pos (by omega), if_neg (by omega), if_neg (by omega)]; done) | (rw [if_neg (by omega), if_pos (by omega)]; done) | (rw [if_neg (by omega), if_neg (by omega), if_pos (by omega)]; done) | (rw [if_neg (by omega), if_neg (by omega), if_neg (by omega)]; done) | (exfalso; omega)) ?_
              refine R_istore_4 hX c1_i dX12_readsTimed_135 ?_
              refine R_aload_0 hX dX12_readsTimed_137 ?_
              refine R_v0i hX dX12_readsTimed_138 li_X12_112 mk_X12_isGood mi_X12_isGood rfl o_136 (r_isGood (by have z := nG.1.2.1; constructor <;> omega)) ⟨⟨by decide, by decide⟩, by decide, by decide, rfl, Nat.le_of_ble_eq_true rfl, rfl⟩ (fun x_138 F_138 h_138 => ?_)
              obtain ⟨h_138, e_138⟩ := h_138; replace e_138 := e_138.symm; subst e_138
              refine R_ifne (tgt := 145) hX dX12_readsTimed_141 (by decide) (by constructor <;> first | omega | (simp (disch := omega) only [up_k, up_i, up_s]; omega)) (fun c_141 => ?_) (fun c_141 => ?_)
              · skip
                have hg0 : tmG F 136 19 = 0 := by omega
                have h12 := tm_39 h ha hg0
                have e39 : tmG F 136 39 = F 136 39 := nG.2.2.2.2.1
                have b39 := nG.1.2.2.2.2.2.2.1
                refine R_aload_0 hX dX12_readsTimed_145 ?_
                refine R_getq (v := 154) hX dX12_readsTimed_146 fl_X12_73 o_136 rfl (by omega) ?_
                refine R_aload_0 hX dX12_readsTimed_149 ?_
                refine R_geti hX dX12_readsTimed_150 fl_X12_205 o_136 rfl ?_
                try simp (disch := omega) only [up_i, up_k, up_s]
                refine R_iload_1 hX dX12_readsTimed_153 ?_
                refine R_iast hX dX12_readsTimed_154 a_154 ⟨by omega, by omega⟩ ?_
                refine R_aload_0 hX dX12_readsTimed_155 ?_
                refine R_getq (v := 155) hX dX12_readsTimed_156 fl_X12_76 o_136 rfl (by omega) ?_
                refine R_aload_0 hX dX12_readsTimed_159 ?_
                refine R_geti hX dX12_readsTimed_160 fl_X12_205 o_136 rfl ?_
                try simp (disch := omega) only [up_i, up_k, up_s]
                refine R_iload_2 hX dX12_readsTimed_163 ?_
                refine R_iast hX dX12_readsTimed_164 a_155 ⟨by omega, by omega⟩ ?_
                refine R_aload_0 hX dX12_readsTimed_165 ?_
                refine R_getq (v := 156) hX dX12_readsTimed_166 fl_X12_79 o_136 rfl (by omega) ?_
                refine R_aload_0 hX dX12_readsTimed_169 ?_
                refine R_geti hX dX12_readsTimed_170 fl_X12_205 o_136 rfl ?_
                try simp (disch := omega) only [up_i, up_k, up_s]
                refine R_iload_3 hX dX12_readsTimed_173 ?_
                refine R_iast hX dX12_readsTimed_174 a_156 ⟨by omega, by omega⟩ ?_
                refine R_aload_0 hX dX12_readsTimed_175 ?_
                refine R_getq (v := 157) hX dX12_readsTimed_176 fl_X12_82 o_136 rfl (by omega) ?_
                refine R_aload_0 hX dX12_readsTimed_179 ?_
                refine R_geti hX dX12_readsTimed_180 fl_X12_205 o_136 rfl ?_
                try simp (disch := omega) only [up_i, up_k, up_s]
                refine R_iload_4 hX dX12_readsTimed_183 ?_
                refine R_iast hX dX12_readsTimed_185 a_157 ⟨by omega, by omega⟩ ?_
                refine R_aload_0 hX dX12_readsTimed_186 ?_
                refine R_dup hX c1_r dX12_readsTimed_187 ?_
                refine R_geti hX dX12_readsTimed_188 fl_X12_205 o_136 rfl ?_
                try simp (disch := omega) only [up_i, up_k, up_s]
                refine R_iconst hX dX12_readsTimed_191 ?_
                refine R_iadd hX dX12_readsTimed_192 ?_
                refine R_puti hX dX12_readsTimed_193 fl_X12_205 o_136 rfl ?_
                exact R_vret hX dX12_readsTimed_196 (by unfold tmS tmP; rw [if_pos hg0])
              · skip
                exact R_vret hX dX12_readsTimed_144 (by unfold tmS; rw [if_neg (by omega)])
            · skip
              refine R_sipush hX dX12_readsTimed_124 (by decide) ?_
              refine R_goto (tgt := 132) hX dX12_readsTimed_127 (by decide) ?_
              refine R_v2i hX dX12_readsTimed_132 li_X12_195 mk_X12_readsNumber mi_X12_readsNumber rfl o_136 (r_readsNumber nE.1 (by constructor <;> omega) (by constructor <;> omega)) ⟨⟨by decide, by decide⟩, by decide, by decide, rfl, Nat.le_of_ble_eq_true rfl, rfl⟩ (fun x_132 F_132 h_132 => ?_)
              obtain ⟨hx, hF⟩ := h_132
              subst hx
              subst hF
              refine R.eq rfl rfl (show _ = tmG F by unfold tmG; first | (rw [if_pos (by omega), if_neg (by omega), if_neg (by omega)]; done) | (rw [if_neg (by omega), if_pos (by omega)]; done) | (rw [if_neg (by omega), if_neg (by omega), if_pos (by omega)]; done) | (rw [if_neg (by omega), if_neg (by omega), if_neg (by omega)]; done) | (exfalso; omega)) ?_
              refine R_istore_4 hX c1_i dX12_readsTimed_135 ?_
              refine R_aload_0 hX dX12_readsTimed_137 ?_
              refine R_v0i hX dX12_readsTimed_138 li_X12_112 mk_X12_isGood mi_X12_isGood rfl o_136 (r_isGood (by have z := nG.1.2.1; constructor <;> omega)) ⟨⟨by decide, by decide⟩, by decide, by decide, rfl, Nat.le_of_ble_eq_true rfl, rfl⟩ (fun x_138 F_138 h_138 => ?_)
              obtain ⟨h_138, e_138⟩ := h_138; replace e_138 := e_138.symm; subst e_138
              refine R_ifne (tgt := 145) hX dX12_readsTimed_141 (by decide) (by constructor <;> first | omega | (simp (disch := omega) only [up_k, up_i, up_s]; omega)) (fun c_141 => ?_) (fun c_141 => ?_)
              · skip
                have hg0 : tmG F 136 19 = 0 := by omega
                have h12 := tm_39 h ha hg0
                have e39 : tmG F 136 39 = F 136 39 := nG.2.2.2.2.1
                have b39 := nG.1.2.2.2.2.2.2.1
                refine R_aload_0 hX dX12_readsTimed_145 ?_
                refine R_getq (v := 154) hX dX12_readsTimed_146 fl_X12_73 o_136 rfl (by omega) ?_
                refine R_aload_0 hX dX12_readsTimed_149 ?_
                refine R_geti hX dX12_readsTimed_150 fl_X12_205 o_136 rfl ?_
                try simp (disch := omega) only [up_i, up_k, up_s]
                refine R_iload_1 hX dX12_readsTimed_153 ?_
                refine R_iast hX dX12_readsTimed_154 a_154 ⟨by omega, by omega⟩ ?_
                refine R_aload_0 hX dX12_readsTimed_155 ?_
                refine R_getq (v := 155) hX dX12_readsTimed_156 fl_X12_76 o_136 rfl (by omega) ?_
                refine R_aload_0 hX dX12_readsTimed_159 ?_
                refine R_geti hX dX12_readsTimed_160 fl_X12_205 o_136 rfl ?_
                try simp (disch := omega) only [up_i, up_k, up_s]
                refine R_iload_2 hX dX12_readsTimed_163 ?_
                refine R_iast hX dX12_readsTimed_164 a_155 ⟨by omega, by omega⟩ ?_
                refine R_aload_0 hX dX12_readsTimed_165 ?_
                refine R_getq (v := 156) hX dX12_readsTimed_166 fl_X12_79 o_136 rfl (by omega) ?_
                refine R_aload_0 hX dX12_readsTimed_169 ?_
                refine R_geti hX dX12_readsTimed_170 fl_X12_205 o_136 rfl ?_
                try simp (disch := omega) only [up_i, up_k, up_s]
                refine R_iload_3 hX dX12_readsTimed_173 ?_
                refine R_iast hX dX12_readsTimed_174 a_156 ⟨by omega, by omega⟩ ?_
                refine R_aload_0 hX dX12_readsTimed_175 ?_
                refine R_getq (v := 157) hX dX12_readsTimed_176 fl_X12_82 o_136 rfl (by omega) ?_
                refine R_aload_0 hX dX12_readsTimed_179 ?_
                refine R_geti hX dX12_readsTimed_180 fl_X12_205 o_136 rfl ?_
                try simp (disch := omega) only [up_i, up_k, up_s]
                refine R_iload_4 hX dX12_readsTimed_183 ?_
                refine R_iast hX dX12_readsTimed_185 a_157 ⟨by omega, by omega⟩ ?_
                refine R_aload_0 hX dX12_readsTimed_186 ?_
                refine R_dup hX c1_r dX12_readsTimed_187 ?_
                refine R_geti hX dX12_readsTimed_188 fl_X12_205 o_136 rfl ?_
                try simp (disch := omega) only [up_i, up_k, up_s]
                refine R_iconst hX dX12_readsTimed_191 ?_
                refine R_iadd hX dX12_readsTimed_192 ?_
                refine R_puti hX dX12_readsTimed_193 fl_X12_205 o_136 rfl ?_
                exact R_vret hX dX12_readsTimed_196 (by unfold tmS tmP; rw [if_pos hg0])
              · skip
                exact R_vret hX dX12_readsTimed_144 (by unfold tmS; rw [if_neg (by omega)])
          · skip
            refine R_bipush hX dX12_readsTimed_114 (by decide) ?_
            refine R_goto (tgt := 132) hX dX12_readsTimed_116 (by decide) ?_
            refine R_v2i hX dX12_readsTimed_132 li_X12_195 mk_X12_readsNumber mi_X12_readsNumber rfl o_136 (r_readsNumber nE.1 (by constructor <;> omega) (by constructor <;> omega)) ⟨⟨by decide, by decide⟩, by decide, by decide, rfl, Nat.le_of_ble_eq_true rfl, rfl⟩ (fun x_132 F_132 h_132 => ?_)
            obtain ⟨hx, hF⟩ := h_132
            subst hx
            subst hF
            refine R.eq rfl rfl (show _ = tmG F by unfold tmG; first | (rw [if_pos (by omega), if_neg (by omega), if_neg (by omega)]; done) | (rw [if_neg (by omega), if_pos (by omega)]; done) | (rw [if_neg (by omega), if_neg (by omega), if_pos (by omega)]; done) | (rw [if_neg (by omega), if_neg (by omega), if_neg (by omega)]; done) | (exfalso; omega)) ?_
            refine R_istore_4 hX c1_i dX12_readsTimed_135 ?_
            refine R_aload_0 hX dX12_readsTimed_137 ?_
            refine R_v0i hX dX12_readsTimed_138 li_X12_112 mk_X12_isGood mi_X12_isGood rfl o_136 (r_isGood (by have z := nG.1.2.1; constructor <;> omega)) ⟨⟨by decide, by decide⟩, by decide, by decide, rfl, Nat.le_of_ble_eq_true rfl, rfl⟩ (fun x_138 F_138 h_138 => ?_)
            obtain ⟨h_138, e_138⟩ := h_138; replace e_138 := e_138.symm; subst e_138
            refine R_ifne (tgt := 145) hX dX12_readsTimed_141 (by decide) (by constructor <;> first | omega | (simp (disch := omega) only [up_k, up_i, up_s]; omega)) (fun c_141 => ?_) (fun c_141 => ?_)
            · skip
              have hg0 : tmG F 136 19 = 0 := by omega
              have h12 := tm_39 h ha hg0
              have e39 : tmG F 136 39 = F 136 39 := nG.2.2.2.2.1
              have b39 := nG.1.2.2.2.2.2.2.1
              refine R_aload_0 hX dX12_readsTimed_145 ?_
              refine R_getq (v := 154) hX dX12_readsTimed_146 fl_X12_73 o_136 rfl (by omega) ?_
              refine R_aload_0 hX dX12_readsTimed_149 ?_
              refine R_geti hX dX12_readsTimed_150 fl_X12_205 o_136 rfl ?_
              try simp (disch := omega) only [up_i, up_k, up_s]
              refine R_iload_1 hX dX12_readsTimed_153 ?_
              refine R_iast hX dX12_readsTimed_154 a_154 ⟨by omega, by omega⟩ ?_
              refine R_aload_0 hX dX12_readsTimed_155 ?_
              refine R_getq (v := 155) hX dX12_readsTimed_156 fl_X12_76 o_136 rfl (by omega) ?_
              refine R_aload_0 hX dX12_readsTimed_159 ?_
              refine R_geti hX dX12_readsTimed_160 fl_X12_205 o_136 rfl ?_
              try simp (disch := omega) only [up_i, up_k, up_s]
              refine R_iload_2 hX dX12_readsTimed_163 ?_
              refine R_iast hX dX12_readsTimed_164 a_155 ⟨by omega, by omega⟩ ?_
              refine R_aload_0 hX dX12_readsTimed_165 ?_
              refine R_getq (v := 156) hX dX12_readsTimed_166 fl_X12_79 o_136 rfl (by omega) ?_
              refine R_aload_0 hX dX12_readsTimed_169 ?_
              refine R_geti hX dX12_readsTimed_170 fl_X12_205 o_136 rfl ?_
              try simp (disch := omega) only [up_i, up_k, up_s]
              refine R_iload_3 hX dX12_readsTimed_173 ?_
              refine R_iast hX dX12_readsTimed_174 a_156 ⟨by omega, by omega⟩ ?_
              refine R_aload_0 hX dX12_readsTimed_175 ?_
              refine R_getq (v := 157) hX dX12_readsTimed_176 fl_X12_82 o_136 rfl (by omega) ?_
              refine R_aload_0 hX dX12_readsTimed_179 ?_
              refine R_geti hX dX12_readsTimed_180 fl_X12_205 o_136 rfl ?_
              try simp (disch := omega) only [up_i, up_k, up_s]
              refine R_iload_4 hX dX12_readsTimed_183 ?_
              refine R_iast hX dX12_readsTimed_185 a_157 ⟨by omega, by omega⟩ ?_
              refine R_aload_0 hX dX12_readsTimed_186 ?_
              refine R_dup hX c1_r dX12_readsTimed_187 ?_
              refine R_geti hX dX12_readsTimed_188 fl_X12_205 o_136 rfl ?_
              try simp (disch := omega) only [up_i, up_k, up_s]
              refine R_iconst hX dX12_readsTimed_191 ?_
              refine R_iadd hX dX12_readsTimed_192 ?_
              refine R_puti hX dX12_readsTimed_193 fl_X12_205 o_136 rfl ?_
              exact R_vret hX dX12_readsTimed_196 (by unfold tmS tmP; rw [if_pos hg0])
            · skip
              exact R_vret hX dX12_readsTimed_144 (by unfold tmS; rw [if_neg (by omega)])
        · skip
          refine R_iconst hX dX12_readsTimed_105 ?_
          refine R_goto (tgt := 110) hX dX12_readsTimed_106 (by decide) ?_
          refine R_iload_3 hX dX12_readsTimed_110 ?_
          refine R_ifne (tgt := 119) hX dX12_readsTimed_111 (by decide) (by constructor <;> first | omega | (simp (disch := omega) only [up_k, up_i, up_s]; omega)) (fun c_111 => ?_) (fun c_111 => ?_)
          · skip
            refine R_iload_3 hX dX12_readsTimed_119 ?_
            refine R_iconst hX dX12_readsTimed_120 ?_
            refine R_icmpne (tgt := 130) hX dX12_readsTimed_121 (by decide) (by constructor <;> first | omega | (simp (disch := omega) only [up_k, up_i, up_s]; omega)) (by constructor <;> first | omega | (simp (disch := omega) only [up_k, up_i, up_s]; omega)) (fun c_121 => ?_) (fun c_121 => ?_)
            · skip
              refine R_bipush hX dX12_readsTimed_130 (by decide) ?_
              refine R_v2i hX dX12_readsTimed_132 li_X12_195 mk_X12_readsNumber mi_X12_readsNumber rfl o_136 (r_readsNumber nE.1 (by constructor <;> omega) (by constructor <;> omega)) ⟨⟨by decide, by decide⟩, by decide, by decide, rfl, Nat.le_of_ble_eq_true rfl, rfl⟩ (fun x_132 F_132 h_132 => ?_)
              obtain ⟨hx, hF⟩ := h_132
              subst hx
              subst hF
              refine R.eq rfl rfl (show _ = tmG F by unfold tmG; first | (rw [if_pos (by omega), if_neg (by omega), if_neg (by omega)]; done) | (rw [if_neg (by omega), if_pos (by omega)]; done) | (rw [if_neg (by omega), if_neg (by omega), if_pos (by omega)]; done) | (rw [if_neg (by omega), if_neg (by omega), if_neg (by omega)]; done) | (exfalso; omega)) ?_
              refine R_istore_4 hX c1_i dX12_readsTimed_135 ?_
              refine R_aload_0 hX dX12_readsTimed_137 ?_
              refine R_v0i hX dX12_readsTimed_138 li_X12_112 mk_X12_isGood mi_X12_isGood rfl o_136 (r_isGood (by have z := nG.1.2.1; constructor <;> omega)) ⟨⟨by decide, by decide⟩, by decide, by decide, rfl, Nat.le_of_ble_eq_true rfl, rfl⟩ (fun x_138 F_138 h_138 => ?_)
              obtain ⟨h_138, e_138⟩ := h_138; replace e_138 := e_138.symm; subst e_138
              refine R_ifne (tgt := 145) hX dX12_readsTimed_141 (by decide) (by constructor <;> first | omega | (simp (disch := omega) only [up_k, up_i, up_s]; omega)) (fun c_141 => ?_) (fun c_141 => ?_)
              · skip
                have hg0 : tmG F 136 19 = 0 := by omega
                have h12 := tm_39 h ha hg0
                have e39 : tmG F 136 39 = F 136 39 := nG.2.2.2.2.1
                have b39 := nG.1.2.2.2.2.2.2.1
                refine R_aload_0 hX dX12_readsTimed_145 ?_
                refine R_getq (v := 154) hX dX12_readsTimed_146 fl_X12_73 o_136 rfl (by omega) ?_
                refine R_aload_0 hX dX12_readsTimed_149 ?_
                refine R_geti hX dX12_readsTimed_150 fl_X12_205 o_136 rfl ?_
                try simp (disch := omega) only [up_i, up_k, up_s]
                refine R_iload_1 hX dX12_readsTimed_153 ?_
                refine R_iast hX dX12_readsTimed_154 a_154 ⟨by omega, by omega⟩ ?_
                refine R_aload_0 hX dX12_readsTimed_155 ?_
                refine R_getq (v := 155) hX dX12_readsTimed_156 fl_X12_76 o_136 rfl (by omega) ?_
                refine R_aload_0 hX dX12_readsTimed_159 ?_
                refine R_geti hX dX12_readsTimed_160 fl_X12_205 o_136 rfl ?_
                try simp (disch := omega) only [up_i, up_k, up_s]
                refine R_iload_2 hX dX12_readsTimed_163 ?_
                refine R_iast hX dX12_readsTimed_164 a_155 ⟨by omega, by omega⟩ ?_
                refine R_aload_0 hX dX12_readsTimed_165 ?_
                refine R_getq (v := 156) hX dX12_readsTimed_166 fl_X12_79 o_136 rfl (by omega) ?_
                refine R_aload_0 hX dX12_readsTimed_169 ?_
                refine R_geti hX dX12_readsTimed_170 fl_X12_205 o_136 rfl ?_
                try simp (disch := omega) only [up_i, up_k, up_s]
                refine R_iload_3 hX dX12_readsTimed_173 ?_
                refine R_iast hX dX12_readsTimed_174 a_156 ⟨by omega, by omega⟩ ?_
                refine R_aload_0 hX dX12_readsTimed_175 ?_
                refine R_getq (v := 157) hX dX12_readsTimed_176 fl_X12_82 o_136 rfl (by omega) ?_
                refine R_aload_0 hX dX12_readsTimed_179 ?_
                refine R_geti hX dX12_readsTimed_180 fl_X12_205 o_136 rfl ?_
                try simp (disch := omega) only [up_i, up_k, up_s]
                refine R_iload_4 hX dX12_readsTimed_183 ?_
                refine R_iast hX dX12_readsTimed_185 a_157 ⟨by omega, by omega⟩ ?_
                refine R_aload_0 hX dX12_readsTimed_186 ?_
                refine R_dup hX c1_r dX12_readsTimed_187 ?_
                refine R_geti hX dX12_readsTimed_188 fl_X12_205 o_136 rfl ?_
                try simp (disch := omega) only [up_i, up_k, up_s]
                refine R_iconst hX dX12_readsTimed_191 ?_
                refine R_iadd hX dX12_readsTimed_192 ?_
                refine R_puti hX dX12_readsTimed_193 fl_X12_205 o_136 rfl ?_
                exact R_vret hX dX12_readsTimed_196 (by unfold tmS tmP; rw [if_pos hg0])
              · skip
                exact R_vret hX dX12_readsTimed_144 (by unfold tmS; rw [if_neg (by omega)])
            · skip
              refine R_sipush hX dX12_readsTimed_124 (by decide) ?_
              refine R_goto (tgt := 132) hX dX12_readsTimed_127 (by decide) ?_
              refine R_v2i hX dX12_readsTimed_132 li_X12_195 mk_X12_readsNumber mi_X12_readsNumber rfl o_136 (r_readsNumber nE.1 (by constructor <;> omega) (by constructor <;> omega)) ⟨⟨by decide, by decide⟩, by decide, by decide, rfl, Nat.le_of_ble_eq_true rfl, rfl⟩ (fun x_132 F_132 h_132 => ?_)
              obtain ⟨hx, hF⟩ := h_132
              subst hx
              subst hF
              refine R.eq rfl rfl (show _ = tmG F by unfold tmG; first | (rw [if_pos (by omega), if_neg (by omega), if_neg (by omega)]; done) | (rw [if_neg (by omega), if_pos (by omega)]; done) | (rw [if_neg (by omega), if_neg (by omega), if_pos (by omega)]; done) | (rw [if_neg (by omega), if_neg (by omega), if_neg (by omega)]; done) | (exfalso; omega)) ?_
              refine R_istore_4 hX c1_i dX12_readsTimed_135 ?_
              refine R_aload_0 hX dX12_readsTimed_137 ?_
              refine R_v0i hX dX12_readsTimed_138 li_X12_112 mk_X12_isGood mi_X12_isGood rfl o_136 (r_isGood (by have z := nG.1.2.1; constructor <;> omega)) ⟨⟨by decide, by decide⟩, by decide, by decide, rfl, Nat.le_of_ble_eq_true rfl, rfl⟩ (fun x_138 F_138 h_138 => ?_)
              obtain ⟨h_138, e_138⟩ := h_138; replace e_138 := e_138.symm; subst e_138
              refine R_ifne (tgt := 145) hX dX12_readsTimed_141 (by decide) (by constructor <;> first | omega | (simp (disch := omega) only [up_k, up_i, up_s]; omega)) (fun c_141 => ?_) (fun c_141 => ?_)
              · skip
                have hg0 : tmG F 136 19 = 0 := by omega
                have h12 := tm_39 h ha hg0
                have e39 : tmG F 136 39 = F 136 39 := nG.2.2.2.2.1
                have b39 := nG.1.2.2.2.2.2.2.1
                refine R_aload_0 hX dX12_readsTimed_145 ?_
                refine R_getq (v := 154) hX dX12_readsTimed_146 fl_X12_73 o_136 rfl (by omega) ?_
                refine R_aload_0 hX dX12_readsTimed_149 ?_
                refine R_geti hX dX12_readsTimed_150 fl_X12_205 o_136 rfl ?_
                try simp (disch := omega) only [up_i, up_k, up_s]
                refine R_iload_1 hX dX12_readsTimed_153 ?_
                refine R_iast hX dX12_readsTimed_154 a_154 ⟨by omega, by omega⟩ ?_
                refine R_aload_0 hX dX12_readsTimed_155 ?_
                refine R_getq (v := 155) hX dX12_readsTimed_156 fl_X12_76 o_136 rfl (by omega) ?_
                refine R_aload_0 hX dX12_readsTimed_159 ?_
                refine R_geti hX dX12_readsTimed_160 fl_X12_205 o_136 rfl ?_
                try simp (disch := omega) only [up_i, up_k, up_s]
                refine R_iload_2 hX dX12_readsTimed_163 ?_
                refine R_iast hX dX12_readsTimed_164 a_155 ⟨by omega, by omega⟩ ?_
                refine R_aload_0 hX dX12_readsTimed_165 ?_
                refine R_getq (v := 156) hX dX12_readsTimed_166 fl_X12_79 o_136 rfl (by omega) ?_
                refine R_aload_0 hX dX12_readsTimed_169 ?_
                refine R_geti hX dX12_readsTimed_170 fl_X12_205 o_136 rfl ?_
                try simp (disch := omega) only [up_i, up_k, up_s]
                refine R_iload_3 hX dX12_readsTimed_173 ?_
                refine R_iast hX dX12_readsTimed_174 a_156 ⟨by omega, by omega⟩ ?_
                refine R_aload_0 hX dX12_readsTimed_175 ?_
                refine R_getq (v := 157) hX dX12_readsTimed_176 fl_X12_82 o_136 rfl (by omega) ?_
                refine R_aload_0 hX dX12_readsTimed_179 ?_
                refine R_geti hX dX12_readsTimed_180 fl_X12_205 o_136 rfl ?_
                try simp (disch := omega) only [up_i, up_k, up_s]
                refine R_iload_4 hX dX12_readsTimed_183 ?_
                refine R_iast hX dX12_readsTimed_185 a_157 ⟨by omega, by omega⟩ ?_
                refine R_aload_0 hX dX12_readsTimed_186 ?_
                refine R_dup hX c1_r dX12_readsTimed_187 ?_
                refine R_geti hX dX12_readsTimed_188 fl_X12_205 o_136 rfl ?_
                try simp (disch := omega) only [up_i, up_k, up_s]
                refine R_iconst hX dX12_readsTimed_191 ?_
                refine R_iadd hX dX12_readsTimed_192 ?_
                refine R_puti hX dX12_readsTimed_193 fl_X12_205 o_136 rfl ?_
                exact R_vret hX dX12_readsTimed_196 (by unfold tmS tmP; rw [if_pos hg0])
              · skip
                exact R_vret hX dX12_readsTimed_144 (by unfold tmS; rw [if_neg (by omega)])
          · skip
            refine R_bipush hX dX12_readsTimed_114 (by decide) ?_
            refine R_goto (tgt := 132) hX dX12_readsTimed_116 (by decide) ?_
            refine R_v2i hX dX12_readsTimed_132 li_X12_195 mk_X12_readsNumber mi_X12_readsNumber rfl o_136 (r_readsNumber nE.1 (by constructor <;> omega) (by constructor <;> omega)) ⟨⟨by decide, by decide⟩, by decide, by decide, rfl, Nat.le_of_ble_eq_true rfl, rfl⟩ (fun x_132 F_132 h_132 => ?_)
            obtain ⟨hx, hF⟩ := h_132
            subst hx
            subst hF
            refine R.eq rfl rfl (show _ = tmG F by unfold tmG; first | (rw [if_pos (by omega), if_neg (by omega), if_neg (by omega)]; done) | (rw [if_neg (by omega), if_pos (by omega)]; done) | (rw [if_neg (by omega), if_neg (by omega), if_pos (by omega)]; done) | (rw [if_neg (by omega), if_neg (by omega), if_neg (by omega)]; done) | (exfalso; omega)) ?_
            refine R_istore_4 hX c1_i dX12_readsTimed_135 ?_
            refine R_aload_0 hX dX12_readsTimed_137 ?_
            refine R_v0i hX dX12_readsTimed_138 li_X12_112 mk_X12_isGood mi_X12_isGood rfl o_136 (r_isGood (by have z := nG.1.2.1; constructor <;> omega)) ⟨⟨by decide, by decide⟩, by decide, by decide, rfl, Nat.le_of_ble_eq_true rfl, rfl⟩ (fun x_138 F_138 h_138 => ?_)
            obtain ⟨h_138, e_138⟩ := h_138; replace e_138 := e_138.symm; subst e_138
            refine R_ifne (tgt := 145) hX dX12_readsTimed_141 (by decide) (by constructor <;> first | omega | (simp (disch := omega) only [up_k, up_i, up_s]; omega)) (fun c_141 => ?_) (fun c_141 => ?_)
            · skip
              have hg0 : tmG F 136 19 = 0 := by omega
              have h12 := tm_39 h ha hg0
              have e39 : tmG F 136 39 = F 136 39 := nG.2.2.2.2.1
              have b39 := nG.1.2.2.2.2.2.2.1
              refine R_aload_0 hX dX12_readsTimed_145 ?_
              refine R_getq (v := 154) hX dX12_readsTimed_146 fl_X12_73 o_136 rfl (by omega) ?_
              refine R_aload_0 hX dX12_readsTimed_149 ?_
              refine R_geti hX dX12_readsTimed_150 fl_X12_205 o_136 rfl ?_
              try simp (disch := omega) only [up_i, up_k, up_s]
              refine R_iload_1 hX dX12_readsTimed_153 ?_
              refine R_iast hX dX12_readsTimed_154 a_154 ⟨by omega, by omega⟩ ?_
              refine R_aload_0 hX dX12_readsTimed_155 ?_
              refine R_getq (v := 155) hX dX12_readsTimed_156 fl_X12_76 o_136 rfl (by omega) ?_
              refine R_aload_0 hX dX12_readsTimed_159 ?_
              refine R_geti hX dX12_readsTimed_160 fl_X12_205 o_136 rfl ?_
              try simp (disch := omega) only [up_i, up_k, up_s]
              refine R_iload_2 hX dX12_readsTimed_163 ?_
              refine R_iast hX dX12_readsTimed_164 a_155 ⟨by omega, by omega⟩ ?_
              refine R_aload_0 hX dX12_readsTimed_165 ?_
              refine R_getq (v := 156) hX dX12_readsTimed_166 fl_X12_79 o_136 rfl (by omega) ?_
              refine R_aload_0 hX dX12_readsTimed_169 ?_
              refine R_geti hX dX12_readsTimed_170 fl_X12_205 o_136 rfl ?_
              try simp (disch := omega) only [up_i, up_k, up_s]
              refine R_iload_3 hX dX12_readsTimed_173 ?_
              refine R_iast hX dX12_readsTimed_174 a_156 ⟨by omega, by omega⟩ ?_
              refine R_aload_0 hX dX12_readsTimed_175 ?_
              refine R_getq (v := 157) hX dX12_readsTimed_176 fl_X12_82 o_136 rfl (by omega) ?_
              refine R_aload_0 hX dX12_readsTimed_179 ?_
              refine R_geti hX dX12_readsTimed_180 fl_X12_205 o_136 rfl ?_
              try simp (disch := omega) only [up_i, up_k, up_s]
              refine R_iload_4 hX dX12_readsTimed_183 ?_
              refine R_iast hX dX12_readsTimed_185 a_157 ⟨by omega, by omega⟩ ?_
              refine R_aload_0 hX dX12_readsTimed_186 ?_
              refine R_dup hX c1_r dX12_readsTimed_187 ?_
              refine R_geti hX dX12_readsTimed_188 fl_X12_205 o_136 rfl ?_
              try simp (disch := omega) only [up_i, up_k, up_s]
              refine R_iconst hX dX12_readsTimed_191 ?_
              refine R_iadd hX dX12_readsTimed_192 ?_
              refine R_puti hX dX12_readsTimed_193 fl_X12_205 o_136 rfl ?_
              exact R_vret hX dX12_readsTimed_196 (by unfold tmS tmP; rw [if_pos hg0])
            · skip
              exact R_vret hX dX12_readsTimed_144 (by unfold tmS; rw [if_neg (by omega)])
      · skip
        refine R_iload_3 hX dX12_readsTimed_76 ?_
        refine R_iconst hX dX12_readsTimed_77 ?_
        refine R_icmpeq (tgt := 86) hX dX12_readsTimed_78 (by decide) (by constructor <;> first | omega | (simp (disch := omega) only [up_k, up_i, up_s]; omega)) (by constructor <;> first | omega | (simp (disch := omega) only [up_k, up_i, up_s]; omega)) (fun c_78 => ?_) (fun c_78 => ?_)
        · skip
          refine R_iconst hX dX12_readsTimed_86 ?_
          refine R_goto (tgt := 91) hX dX12_readsTimed_87 (by decide) ?_
          refine R_iconst hX dX12_readsTimed_91 ?_
          refine R_v2v hX dX12_readsTimed_92 li_X12_175 mk_X12_must mi_X12_must rfl o_136 (r_must (by have z := (nD.1).2.1; constructor <;> omega) (by have z := (nD.1).2.2.1; constructor <;> omega) (by omega)) ⟨⟨by decide, by decide⟩, by decide, by decide, rfl, Nat.le_of_ble_eq_true rfl, rfl⟩ (fun x_92 F_92 h_92 => ?_)
          subst h_92
          refine R.eq rfl rfl (show _ = mu (stH (tmD F) = 0 ∨ stH (tmD F) = 1 ∨ stH (tmD F) = 4) 1 (tmD F) from mu_iff (by omega)) ?_
          refine R_aload_0 hX dX12_readsTimed_95 ?_
          refine R_v0v hX dX12_readsTimed_96 li_X12_179 mk_X12_scans mi_X12_scans rfl o_136 (r_scans (nD.1.mu (g := stH (tmD F) = 0 ∨ stH (tmD F) = 1 ∨ stH (tmD F) = 4) (c := 1) (by omega)).1 (by have z := (nD.1.mu (g := stH (tmD F) = 0 ∨ stH (tmD F) = 1 ∨ stH (tmD F) = 4) (c := 1) (by omega)).2.1; constructor <;> omega)) ⟨⟨by decide, by decide⟩, by decide, by decide, rfl, Nat.le_of_ble_eq_true rfl, rfl⟩ (fun x_96 F_96 h_96 => ?_)
          subst h_96
          refine R.eq rfl rfl (show _ = tmE F from rfl) ?_
          refine R_aload_0 hX dX12_readsTimed_99 ?_
          refine R_iload_3 hX dX12_readsTimed_100 ?_
          refine R_iconst hX dX12_readsTimed_101 ?_
          refine R_icmpne (tgt := 109) hX dX12_readsTimed_102 (by decide) (by constructor <;> first | omega | (simp (disch := omega) only [up_k, up_i, up_s]; omega)) (by constructor <;> first | omega | (simp (disch := omega) only [up_k, up_i, up_s]; omega)) (fun c_102 => ?_) (fun c_102 => ?_)
          · skip
            refine R_iconst hX dX12_readsTimed_109 ?_
            refine R_iload_3 hX dX12_readsTimed_110 ?_
            refine R_ifne (tgt := 119) hX dX12_readsTimed_111 (by decide) (by constructor <;> first | omega | (simp (disch := omega) only [up_k, up_i, up_s]; omega)) (fun c_111 => ?_) (fun c_111 => ?_)
            · skip
              refine R_iload_3 hX dX12_readsTimed_119 ?_
              refine R_iconst hX dX12_readsTimed_120 ?_
              refine R_icmpne (tgt := 130) hX dX12_readsTimed_121 (by decide) (by constructor <;> first | omega | (simp (disch := omega) only [up_k, up_i, up_s]; omega)) (by constructor <;> first | omega | (simp (disch := omega) only [up_k, up_i, up_s]; omega)) (fun c_121 => ?_) (fun c_121 => ?_)
              · skip
                refine R_bipush hX dX12_readsTimed_130 (by decide) ?_
                refine R_v2i hX dX12_readsTimed_132 li_X12_195 mk_X12_readsNumber mi_X12_readsNumber rfl o_136 (r_readsNumber nE.1 (by constructor <;> omega) (by constructor <;> omega)) ⟨⟨by decide, by decide⟩, by decide, by decide, rfl, Nat.le_of_ble_eq_true rfl, rfl⟩ (fun x_132 F_132 h_132 => ?_)
                obtain ⟨hx, hF⟩ := h_132
                subst hx
                subst hF
                refine R.eq rfl rfl (show _ = tmG F by unfold tmG; first | (rw [if_pos (by omega), if_neg (by omega), if_neg (by omega)]; done) | (rw [if_neg (by omega), if_pos (by omega)]; done) | (rw [if_neg (by omega), if_neg (by omega), if_pos (by omega)]; done) | (rw [if_neg (by omega), if_neg (by omega), if_neg (by omega)]; done) | (exfalso; omega)) ?_
                refine R_istore_4 hX c1_i dX12_readsTimed_135 ?_
                refine R_aload_0 hX dX12_readsTimed_137 ?_
                refine R_v0i hX dX12_readsTimed_138 li_X12_112 mk_X12_isGood mi_X12_isGood rfl o_136 (r_isGood (by have z := nG.1.2.1; constructor <;> omega)) ⟨⟨by decide, by decide⟩, by decide, by decide, rfl, Nat.le_of_ble_eq_true rfl, rfl⟩ (fun x_138 F_138 h_138 => ?_)
                obtain ⟨h_138, e_138⟩ := h_138; replace e_138 := e_138.symm; subst e_138
                refine R_ifne (tgt := 145) hX dX12_readsTimed_141 (by decide) (by constructor <;> first | omega | (simp (disch := omega) only [up_k, up_i, up_s]; omega)) (fun c_141 => ?_) (fun c_141 => ?_)
                · skip
                  have hg0 : tmG F 136 19 = 0 := by omega
                  have h12 := tm_39 h ha hg0
                  have e39 : tmG F 136 39 = F 136 39 := nG.2.2.2.2.1
                  have b39 := nG.1.2.2.2.2.2.2.1
                  refine R_aload_0 hX dX12_readsTimed_145 ?_
                  refine R_getq (v := 154) hX dX12_readsTimed_146 fl_X12_73 o_136 rfl (by omega) ?_
                  refine R_aload_0 hX dX12_readsTimed_149 ?_
                  refine R_geti hX dX12_readsTimed_150 fl_X12_205 o_136 rfl ?_
                  try simp (disch := omega) only [up_i, up_k, up_s]
                  refine R_iload_1 hX dX12_readsTimed_153 ?_
                  refine R_iast hX dX12_readsTimed_154 a_154 ⟨by omega, by omega⟩ ?_
                  refine R_aload_0 hX dX12_readsTimed_155 ?_
                  refine R_getq (v := 155) hX dX12_readsTimed_156 fl_X12_76 o_136 rfl (by omega) ?_
                  refine R_aload_0 hX dX12_readsTimed_159 ?_
                  refine R_geti hX dX12_readsTimed_160 fl_X12_205 o_136 rfl ?_
                  try simp (disch := omega) only [up_i, up_k, up_s]
                  refine R_iload_2 hX dX12_readsTimed_163 ?_
                  refine R_iast hX dX12_readsTimed_164 a_155 ⟨by omega, by omega⟩ ?_
                  refine R_aload_0 hX dX12_readsTimed_165 ?_
                  refine R_getq (v := 156) hX dX12_readsTimed_166 fl_X12_79 o_136 rfl (by omega) ?_
                  refine R_aload_0 hX dX12_readsTimed_169 ?_
                  refine R_geti hX dX12_readsTimed_170 fl_X12_205 o_136 rfl ?_
                  try simp (disch := omega) only [up_i, up_k, up_s]
                  refine R_iload_3 hX dX12_readsTimed_173 ?_
                  refine R_iast hX dX12_readsTimed_174 a_156 ⟨by omega, by omega⟩ ?_
                  refine R_aload_0 hX dX12_readsTimed_175 ?_
                  refine R_getq (v := 157) hX dX12_readsTimed_176 fl_X12_82 o_136 rfl (by omega) ?_
                  refine R_aload_0 hX dX12_readsTimed_179 ?_
                  refine R_geti hX dX12_readsTimed_180 fl_X12_205 o_136 rfl ?_
                  try simp (disch := omega) only [up_i, up_k, up_s]
                  refine R_iload_4 hX dX12_readsTimed_183 ?_
                  refine R_iast hX dX12_readsTimed_185 a_157 ⟨by omega, by omega⟩ ?_
                  refine R_aload_0 hX dX12_readsTimed_186 ?_
                  refine R_dup hX c1_r dX12_readsTimed_187 ?_
                  refine R_geti hX dX12_readsTimed_188 fl_X12_205 o_136 rfl ?_
                  try simp (disch := omega) only [up_i, up_k, up_s]
                  refine R_iconst hX dX12_readsTimed_191 ?_
                  refine R_iadd hX dX12_readsTimed_192 ?_
                  refine R_puti hX dX12_readsTimed_193 fl_X12_205 o_136 rfl ?_
                  exact R_vret hX dX12_readsTimed_196 (by unfold tmS tmP; rw [if_pos hg0])
                · skip
                  exact R_vret hX dX12_readsTimed_144 (by unfold tmS; rw [if_neg (by omega)])
              · skip
                refine R_sipush hX dX12_readsTimed_124 (by decide) ?_
                refine R_goto (tgt := 132) hX dX12_readsTimed_127 (by decide) ?_
                refine R_v2i hX dX12_readsTimed_132 li_X12_195 mk_X12_readsNumber mi_X12_readsNumber rfl o_136 (r_readsNumber nE.1 (by constructor <;> omega) (by constructor <;> omega)) ⟨⟨by decide, by decide⟩, by decide, by decide, rfl, Nat.le_of_ble_eq_true rfl, rfl⟩ (fun x_132 F_132 h_132 => ?_)
                obtain ⟨hx, hF⟩ := h_132
                subst hx
                subst hF
                refine R.eq rfl rfl (show _ = tmG F by unfold tmG; first | (rw [if_pos (by omega), if_neg (by omega), if_neg (by omega)]; done) | (rw [if_neg (by omega), if_pos (by omega)]; done) | (rw [if_neg (by omega), if_neg (by omega), if_pos (by omega)]; done) | (rw [if_neg (by omega), if_neg (by omega), if_neg (by omega)]; done) | (exfalso; omega)) ?_
                refine R_istore_4 hX c1_i dX12_readsTimed_135 ?_
                refine R_aload_0 hX dX12_readsTimed_137 ?_
                refine R_v0i hX dX12_readsTimed_138 li_X12_112 mk_X12_isGood mi_X12_isGood rfl o_136 (r_isGood (by have z := nG.1.2.1; constructor <;> omega)) ⟨⟨by decide, by decide⟩, by decide, by decide, rfl, Nat.le_of_ble_eq_true rfl, rfl⟩ (fun x_138 F_138 h_138 => ?_)
                obtain ⟨h_138, e_138⟩ := h_138; replace e_138 := e_138.symm; subst e_138
                refine R_ifne (tgt := 145) hX dX12_readsTimed_141 (by decide) (by constructor <;> first | omega | (simp (disch := omega) only [up_k, up_i, up_s]; omega)) (fun c_141 => ?_) (fun c_141 => ?_)
                · skip
                  have hg0 : tmG F 136 19 = 0 := by omega
                  have h12 := tm_39 h ha hg0
                  have e39 : tmG F 136 39 = F 136 39 := nG.2.2.2.2.1
                  have b39 := nG.1.2.2.2.2.2.2.1
                  refine R_aload_0 hX dX12_readsTimed_145 ?_
                  refine R_getq (v := 154) hX dX12_readsTimed_146 fl_X12_73 o_136 rfl (by omega) ?_
                  refine R_aload_0 hX dX12_readsTimed_149 ?_
                  refine R_geti hX dX12_readsTimed_150 fl_X12_205 o_136 rfl ?_
                  try simp (disch := omega) only [up_i, up_k, up_s]
                  refine R_iload_1 hX dX12_readsTimed_153 ?_
                  refine R_iast hX dX12_readsTimed_154 a_154 ⟨by omega, by omega⟩ ?_
                  refine R_aload_0 hX dX12_readsTimed_155 ?_
                  refine R_getq (v := 155) hX dX12_readsTimed_156 fl_X12_76 o_136 rfl (by omega) ?_
                  refine R_aload_0 hX dX12_readsTimed_159 ?_
                  refine R_geti hX dX12_readsTimed_160 fl_X12_205 o_136 rfl ?_
                  try simp (disch := omega) only [up_i, up_k, up_s]
                  refine R_iload_2 hX dX12_readsTimed_163 ?_
                  refine R_iast hX dX12_readsTimed_164 a_155 ⟨by omega, by omega⟩ ?_
                  refine R_aload_0 hX dX12_readsTimed_165 ?_
                  refine R_getq (v := 156) hX dX12_readsTimed_166 fl_X12_79 o_136 rfl (by omega) ?_
                  refine R_aload_0 hX dX12_readsTimed_169 ?_
                  refine R_geti hX dX12_readsTimed_170 fl_X12_205 o_136 rfl ?_
                  try simp (disch := omega) only [up_i, up_k, up_s]
                  refine R_iload_3 hX dX12_readsTimed_173 ?_
                  refine R_iast hX dX12_readsTimed_174 a_156 ⟨by omega, by omega⟩ ?_
                  refine R_aload_0 hX dX12_readsTimed_175 ?_
                  refine R_getq (v := 157) hX dX12_readsTimed_176 fl_X12_82 o_136 rfl (by omega) ?_
                  refine R_aload_0 hX dX12_readsTimed_179 ?_
                  refine R_geti hX dX12_readsTimed_180 fl_X12_205 o_136 rfl ?_
                  try simp (disch := omega) only [up_i, up_k, up_s]
                  refine R_iload_4 hX dX12_readsTimed_183 ?_
                  refine R_iast hX dX12_readsTimed_185 a_157 ⟨by omega, by omega⟩ ?_
                  refine R_aload_0 hX dX12_readsTimed_186 ?_
                  refine R_dup hX c1_r dX12_readsTimed_187 ?_
                  refine R_geti hX dX12_readsTimed_188 fl_X12_205 o_136 rfl ?_
                  try simp (disch := omega) only [up_i, up_k, up_s]
                  refine R_iconst hX dX12_readsTimed_191 ?_
                  refine R_iadd hX dX12_readsTimed_192 ?_
                  refine R_puti hX dX12_readsTimed_193 fl_X12_205 o_136 rfl ?_
                  exact R_vret hX dX12_readsTimed_196 (by unfold tmS tmP; rw [if_pos hg0])
                · skip
                  exact R_vret hX dX12_readsTimed_144 (by unfold tmS; rw [if_neg (by omega)])
            · skip
              refine R_bipush hX dX12_readsTimed_114 (by decide) ?_
              refine R_goto (tgt := 132) hX dX12_readsTimed_116 (by decide) ?_
              refine R_v2i hX dX12_readsTimed_132 li_X12_195 mk_X12_readsNumber mi_X12_readsNumber rfl o_136 (r_readsNumber nE.1 (by constructor <;> omega) (by constructor <;> omega)) ⟨⟨by decide, by decide⟩, by decide, by decide, rfl, Nat.le_of_ble_eq_true rfl, rfl⟩ (fun x_132 F_132 h_132 => ?_)
              obtain ⟨hx, hF⟩ := h_132
              subst hx
              subst hF
              refine R.eq rfl rfl (show _ = tmG F by unfold tmG; first | (rw [if_pos (by omega), if_neg (by omega), if_neg (by omega)]; done) | (rw [if_neg (by omega), if_pos (by omega)]; done) | (rw [if_neg (by omega), if_neg (by omega), if_pos (by omega)]; done) | (rw [if_neg (by omega), if_neg (by omega), if_neg (by omega)]; done) | (exfalso; omega)) ?_
              refine R_istore_4 hX c1_i dX12_readsTimed_135 ?_
              refine R_aload_0 hX dX12_readsTimed_137 ?_
              refine R_v0i hX dX12_readsTimed_138 li_X12_112 mk_X12_isGood mi_X12_isGood rfl o_136 (r_isGood (by have z := nG.1.2.1; constructor <;> omega)) ⟨⟨by decide, by decide⟩, by decide, by decide, rfl, Nat.le_of_ble_eq_true rfl, rfl⟩ (fun x_138 F_138 h_138 => ?_)
              obtain ⟨h_138, e_138⟩ := h_138; replace e_138 := e_138.symm; subst e_138
              refine R_ifne (tgt := 145) hX dX12_readsTimed_141 (by decide) (by constructor <;> first | omega | (simp (disch := omega) only [up_k, up_i, up_s]; omega)) (fun c_141 => ?_) (fun c_141 => ?_)
              · skip
                have hg0 : tmG F 136 19 = 0 := by omega
                have h12 := tm_39 h ha hg0
                have e39 : tmG F 136 39 = F 136 39 := nG.2.2.2.2.1
                have b39 := nG.1.2.2.2.2.2.2.1
                refine R_aload_0 hX dX12_readsTimed_145 ?_
                refine R_getq (v := 154) hX dX12_readsTimed_146 fl_X12_73 o_136 rfl (by omega) ?_
                refine R_aload_0 hX dX12_readsTimed_149 ?_
                refine R_geti hX dX12_readsTimed_150 fl_X12_205 o_136 rfl ?_
                try simp (disch := omega) only [up_i, up_k, up_s]
                refine R_iload_1 hX dX12_readsTimed_153 ?_
                refine R_iast hX dX12_readsTimed_154 a_154 ⟨by omega, by omega⟩ ?_
                refine R_aload_0 hX dX12_readsTimed_155 ?_
                refine R_getq (v := 155) hX dX12_readsTimed_156 fl_X12_76 o_136 rfl (by omega) ?_
                refine R_aload_0 hX dX12_readsTimed_159 ?_
                refine R_geti hX dX12_readsTimed_160 fl_X12_205 o_136 rfl ?_
                try simp (disch := omega) only [up_i, up_k, up_s]
                refine R_iload_2 hX dX12_readsTimed_163 ?_
                refine R_iast hX dX12_readsTimed_164 a_155 ⟨by omega, by omega⟩ ?_
                refine R_aload_0 hX dX12_readsTimed_165 ?_
                refine R_getq (v := 156) hX dX12_readsTimed_166 fl_X12_79 o_136 rfl (by omega) ?_
                refine R_aload_0 hX dX12_readsTimed_169 ?_
                refine R_geti hX dX12_readsTimed_170 fl_X12_205 o_136 rfl ?_
                try simp (disch := omega) only [up_i, up_k, up_s]
                refine R_iload_3 hX dX12_readsTimed_173 ?_
                refine R_iast hX dX12_readsTimed_174 a_156 ⟨by omega, by omega⟩ ?_
                refine R_aload_0 hX dX12_readsTimed_175 ?_
                refine R_getq (v := 157) hX dX12_readsTimed_176 fl_X12_82 o_136 rfl (by omega) ?_
                refine R_aload_0 hX dX12_readsTimed_179 ?_
                refine R_geti hX dX12_readsTimed_180 fl_X12_205 o_136 rfl ?_
                try simp (disch := omega) only [up_i, up_k, up_s]
                refine R_iload_4 hX dX12_readsTimed_183 ?_
                refine R_iast hX dX12_readsTimed_185 a_157 ⟨by omega, by omega⟩ ?_
                refine R_aload_0 hX dX12_readsTimed_186 ?_
                refine R_dup hX c1_r dX12_readsTimed_187 ?_
                refine R_geti hX dX12_readsTimed_188 fl_X12_205 o_136 rfl ?_
                try simp (disch := omega) only [up_i, up_k, up_s]
                refine R_iconst hX dX12_readsTimed_191 ?_
                refine R_iadd hX dX12_readsTimed_192 ?_
                refine R_puti hX dX12_readsTimed_193 fl_X12_205 o_136 rfl ?_
                exact R_vret hX dX12_readsTimed_196 (by unfold tmS tmP; rw [if_pos hg0])
              · skip
                exact R_vret hX dX12_readsTimed_144 (by unfold tmS; rw [if_neg (by omega)])
          · skip
            refine R_iconst hX dX12_readsTimed_105 ?_
            refine R_goto (tgt := 110) hX dX12_readsTimed_106 (by decide) ?_
            refine R_iload_3 hX dX12_readsTimed_110 ?_
            refine R_ifne (tgt := 119) hX dX12_readsTimed_111 (by decide) (by constructor <;> first | omega | (simp (disch := omega) only [up_k, up_i, up_s]; omega)) (fun c_111 => ?_) (fun c_111 => ?_)
            · skip
              refine R_iload_3 hX dX12_readsTimed_119 ?_
              refine R_iconst hX dX12_readsTimed_120 ?_
              refine R_icmpne (tgt := 130) hX dX12_readsTimed_121 (by decide) (by constructor <;> first | omega | (simp (disch := omega) only [up_k, up_i, up_s]; omega)) (by constructor <;> first | omega | (simp (disch := omega) only [up_k, up_i, up_s]; omega)) (fun c_121 => ?_) (fun c_121 => ?_)
              · skip
                refine R_bipush hX dX12_readsTimed_130 (by decide) ?_
                refine R_v2i hX dX12_readsTimed_132 li_X12_195 mk_X12_readsNumber mi_X12_readsNumber rfl o_136 (r_readsNumber nE.1 (by constructor <;> omega) (by constructor <;> omega)) ⟨⟨by decide, by decide⟩, by decide, by decide, rfl, Nat.le_of_ble_eq_true rfl, rfl⟩ (fun x_132 F_132 h_132 => ?_)
                obtain ⟨hx, hF⟩ := h_132
                subst hx
                subst hF
                refine R.eq rfl rfl (show _ = tmG F by unfold tmG; first | (rw [if_pos (by omega), if_neg (by omega), if_neg (by omega)]; done) | (rw [if_neg (by omega), if_pos (by omega)]; done) | (rw [if_neg (by omega), if_neg (by omega), if_pos (by omega)]; done) | (rw [if_neg (by omega), if_neg (by omega), if_neg (by omega)]; done) | (exfalso; omega)) ?_
                refine R_istore_4 hX c1_i dX12_readsTimed_135 ?_
                refine R_aload_0 hX dX12_readsTimed_137 ?_
                refine R_v0i hX dX12_readsTimed_138 li_X12_112 mk_X12_isGood mi_X12_isGood rfl o_136 (r_isGood (by have z := nG.1.2.1; constructor <;> omega)) ⟨⟨by decide, by decide⟩, by decide, by decide, rfl, Nat.le_of_ble_eq_true rfl, rfl⟩ (fun x_138 F_138 h_138 => ?_)
                obtain ⟨h_138, e_138⟩ := h_138; replace e_138 := e_138.symm; subst e_138
                refine R_ifne (tgt := 145) hX dX12_readsTimed_141 (by decide) (by constructor <;> first | omega | (simp (disch := omega) only [up_k, up_i, up_s]; omega)) (fun c_141 => ?_) (fun c_141 => ?_)
                · skip
                  have hg0 : tmG F 136 19 = 0 := by omega
                  have h12 := tm_39 h ha hg0
                  have e39 : tmG F 136 39 = F 136 39 := nG.2.2.2.2.1
                  have b39 := nG.1.2.2.2.2.2.2.1
                  refine R_aload_0 hX dX12_readsTimed_145 ?_
                  refine R_getq (v := 154) hX dX12_readsTimed_146 fl_X12_73 o_136 rfl (by omega) ?_
                  refine R_aload_0 hX dX12_readsTimed_149 ?_
                  refine R_geti hX dX12_readsTimed_150 fl_X12_205 o_136 rfl ?_
                  try simp (disch := omega) only [up_i, up_k, up_s]
                  refine R_iload_1 hX dX12_readsTimed_153 ?_
                  refine R_iast hX dX12_readsTimed_154 a_154 ⟨by omega, by omega⟩ ?_
                  refine R_aload_0 hX dX12_readsTimed_155 ?_
                  refine R_getq (v := 155) hX dX12_readsTimed_156 fl_X12_76 o_136 rfl (by omega) ?_
                  refine R_aload_0 hX dX12_readsTimed_159 ?_
                  refine R_geti hX dX12_readsTimed_160 fl_X12_205 o_136 rfl ?_
                  try simp (disch := omega) only [up_i, up_k, up_s]
                  refine R_iload_2 hX dX12_readsTimed_163 ?_
                  refine R_iast hX dX12_readsTimed_164 a_155 ⟨by omega, by omega⟩ ?_
                  refine R_aload_0 hX dX12_readsTimed_165 ?_
                  refine R_getq (v := 156) hX dX12_readsTimed_166 fl_X12_79 o_136 rfl (by omega) ?_
                  refine R_aload_0 hX dX12_readsTimed_169 ?_
                  refine R_geti hX dX12_readsTimed_170 fl_X12_205 o_136 rfl ?_
                  try simp (disch := omega) only [up_i, up_k, up_s]
                  refine R_iload_3 hX dX12_readsTimed_173 ?_
                  refine R_iast hX dX12_readsTimed_174 a_156 ⟨by omega, by omega⟩ ?_
                  refine R_aload_0 hX dX12_readsTimed_175 ?_
                  refine R_getq (v := 157) hX dX12_readsTimed_176 fl_X12_82 o_136 rfl (by omega) ?_
                  refine R_aload_0 hX dX12_readsTimed_179 ?_
                  refine R_geti hX dX12_readsTimed_180 fl_X12_205 o_136 rfl ?_
                  try simp (disch := omega) only [up_i, up_k, up_s]
                  refine R_iload_4 hX dX12_readsTimed_183 ?_
                  refine R_iast hX dX12_readsTimed_185 a_157 ⟨by omega, by omega⟩ ?_
                  refine R_aload_0 hX dX12_readsTimed_186 ?_
                  refine R_dup hX c1_r dX12_readsTimed_187 ?_
                  refine R_geti hX dX12_readsTimed_188 fl_X12_205 o_136 rfl ?_
                  try simp (disch := omega) only [up_i, up_k, up_s]
                  refine R_iconst hX dX12_readsTimed_191 ?_
                  refine R_iadd hX dX12_readsTimed_192 ?_
                  refine R_puti hX dX12_readsTimed_193 fl_X12_205 o_136 rfl ?_
                  exact R_vret hX dX12_readsTimed_196 (by unfold tmS tmP; rw [if_pos hg0])
                · skip
                  exact R_vret hX dX12_readsTimed_144 (by unfold tmS; rw [if_neg (by omega)])
              · skip
                refine R_sipush hX dX12_readsTimed_124 (by decide) ?_
                refine R_goto (tgt := 132) hX dX12_readsTimed_127 (by decide) ?_
                refine R_v2i hX dX12_readsTimed_132 li_X12_195 mk_X12_readsNumber mi_X12_readsNumber rfl o_136 (r_readsNumber nE.1 (by constructor <;> omega) (by constructor <;> omega)) ⟨⟨by decide, by decide⟩, by decide, by decide, rfl, Nat.le_of_ble_eq_true rfl, rfl⟩ (fun x_132 F_132 h_132 => ?_)
                obtain ⟨hx, hF⟩ := h_132
                subst hx
                subst hF
                refine R.eq rfl rfl (show _ = tmG F by unfold tmG; first | (rw [if_pos (by omega), if_neg (by omega), if_neg (by omega)]; done) | (rw [if_neg (by omega), if_pos (by omega)]; done) | (rw [if_neg (by omega), if_neg (by omega), if_pos (by omega)]; done) | (rw [if_neg (by omega), if_neg (by omega), if_neg (by omega)]; done) | (exfalso; omega)) ?_
                refine R_istore_4 hX c1_i dX12_readsTimed_135 ?_
                refine R_aload_0 hX dX12_readsTimed_137 ?_
                refine R_v0i hX dX12_readsTimed_138 li_X12_112 mk_X12_isGood mi_X12_isGood rfl o_136 (r_isGood (by have z := nG.1.2.1; constructor <;> omega)) ⟨⟨by decide, by decide⟩, by decide, by decide, rfl, Nat.le_of_ble_eq_true rfl, rfl⟩ (fun x_138 F_138 h_138 => ?_)
                obtain ⟨h_138, e_138⟩ := h_138; replace e_138 := e_138.symm; subst e_138
                refine R_ifne (tgt := 145) hX dX12_readsTimed_141 (by decide) (by constructor <;> first | omega | (simp (disch := omega) only [up_k, up_i, up_s]; omega)) (fun c_141 => ?_) (fun c_141 => ?_)
                · skip
                  have hg0 : tmG F 136 19 = 0 := by omega
                  have h12 := tm_39 h ha hg0
                  have e39 : tmG F 136 39 = F 136 39 := nG.2.2.2.2.1
                  have b39 := nG.1.2.2.2.2.2.2.1
                  refine R_aload_0 hX dX12_readsTimed_145 ?_
                  refine R_getq (v := 154) hX dX12_readsTimed_146 fl_X12_73 o_136 rfl (by omega) ?_
                  refine R_aload_0 hX dX12_readsTimed_149 ?_
                  refine R_geti hX dX12_readsTimed_150 fl_X12_205 o_136 rfl ?_
                  try simp (disch := omega) only [up_i, up_k, up_s]
                  refine R_iload_1 hX dX12_readsTimed_153 ?_
                  refine R_iast hX dX12_readsTimed_154 a_154 ⟨by omega, by omega⟩ ?_
                  refine R_aload_0 hX dX12_readsTimed_155 ?_
                  refine R_getq (v := 155) hX dX12_readsTimed_156 fl_X12_76 o_136 rfl (by omega) ?_
                  refine R_aload_0 hX dX12_readsTimed_159 ?_
                  refine R_geti hX dX12_readsTimed_160 fl_X12_205 o_136 rfl ?_
                  try simp (disch := omega) only [up_i, up_k, up_s]
                  refine R_iload_2 hX dX12_readsTimed_163 ?_
                  refine R_iast hX dX12_readsTimed_164 a_155 ⟨by omega, by omega⟩ ?_
                  refine R_aload_0 hX dX12_readsTimed_165 ?_
                  refine R_getq (v := 156) hX dX12_readsTimed_166 fl_X12_79 o_136 rfl (by omega) ?_
                  refine R_aload_0 hX dX12_readsTimed_169 ?_
                  refine R_geti hX dX12_readsTimed_170 fl_X12_205 o_136 rfl ?_
                  try simp (disch := omega) only [up_i, up_k, up_s]
                  refine R_iload_3 hX dX12_readsTimed_173 ?_
                  refine R_iast hX dX12_readsTimed_174 a_156 ⟨by omega, by omega⟩ ?_
                  refine R_aload_0 hX dX12_readsTimed_175 ?_
                  refine R_getq (v := 157) hX dX12_readsTimed_176 fl_X12_82 o_136 rfl (by omega) ?_
                  refine R_aload_0 hX dX12_readsTimed_179 ?_
                  refine R_geti hX dX12_readsTimed_180 fl_X12_205 o_136 rfl ?_
                  try simp (disch := omega) only [up_i, up_k, up_s]
                  refine R_iload_4 hX dX12_readsTimed_183 ?_
                  refine R_iast hX dX12_readsTimed_185 a_157 ⟨by omega, by omega⟩ ?_
                  refine R_aload_0 hX dX12_readsTimed_186 ?_
                  refine R_dup hX c1_r dX12_readsTimed_187 ?_
                  refine R_geti hX dX12_readsTimed_188 fl_X12_205 o_136 rfl ?_
                  try simp (disch := omega) only [up_i, up_k, up_s]
                  refine R_iconst hX dX12_readsTimed_191 ?_
                  refine R_iadd hX dX12_readsTimed_192 ?_
                  refine R_puti hX dX12_readsTimed_193 fl_X12_205 o_136 rfl ?_
                  exact R_vret hX dX12_readsTimed_196 (by unfold tmS tmP; rw [if_pos hg0])
                · skip
                  exact R_vret hX dX12_readsTimed_144 (by unfold tmS; rw [if_neg (by omega)])
            · skip
              refine R_bipush hX dX12_readsTimed_114 (by decide) ?_
              refine R_goto (tgt := 132) hX dX12_readsTimed_116 (by decide) ?_
              refine R_v2i hX dX12_readsTimed_132 li_X12_195 mk_X12_readsNumber mi_X12_readsNumber rfl o_136 (r_readsNumber nE.1 (by constructor <;> omega) (by constructor <;> omega)) ⟨⟨by decide, by decide⟩, by decide, by decide, rfl, Nat.le_of_ble_eq_true rfl, rfl⟩ (fun x_132 F_132 h_132 => ?_)
              obtain ⟨hx, hF⟩ := h_132
              subst hx
              subst hF
              refine R.eq rfl rfl (show _ = tmG F by unfold tmG; first | (rw [if_pos (by omega), if_neg (by omega), if_neg (by omega)]; done) | (rw [if_neg (by omega), if_pos (by omega)]; done) | (rw [if_neg (by omega), if_neg (by omega), if_pos (by omega)]; done) | (rw [if_neg (by omega), if_neg (by omega), if_neg (by omega)]; done) | (exfalso; omega)) ?_
              refine R_istore_4 hX c1_i dX12_readsTimed_135 ?_
              refine R_aload_0 hX dX12_readsTimed_137 ?_
              refine R_v0i hX dX12_readsTimed_138 li_X12_112 mk_X12_isGood mi_X12_isGood rfl o_136 (r_isGood (by have z := nG.1.2.1; constructor <;> omega)) ⟨⟨by decide, by decide⟩, by decide, by decide, rfl, Nat.le_of_ble_eq_true rfl, rfl⟩ (fun x_138 F_138 h_138 => ?_)
              obtain ⟨h_138, e_138⟩ := h_138; replace e_138 := e_138.symm; subst e_138
              refine R_ifne (tgt := 145) hX dX12_readsTimed_141 (by decide) (by constructor <;> first | omega | (simp (disch := omega) only [up_k, up_i, up_s]; omega)) (fun c_141 => ?_) (fun c_141 => ?_)
              · skip
                have hg0 : tmG F 136 19 = 0 := by omega
                have h12 := tm_39 h ha hg0
                have e39 : tmG F 136 39 = F 136 39 := nG.2.2.2.2.1
                have b39 := nG.1.2.2.2.2.2.2.1
                refine R_aload_0 hX dX12_readsTimed_145 ?_
                refine R_getq (v := 154) hX dX12_readsTimed_146 fl_X12_73 o_136 rfl (by omega) ?_
                refine R_aload_0 hX dX12_readsTimed_149 ?_
                refine R_geti hX dX12_readsTimed_150 fl_X12_205 o_136 rfl ?_
                try simp (disch := omega) only [up_i, up_k, up_s]
                refine R_iload_1 hX dX12_readsTimed_153 ?_
                refine R_iast hX dX12_readsTimed_154 a_154 ⟨by omega, by omega⟩ ?_
                refine R_aload_0 hX dX12_readsTimed_155 ?_
                refine R_getq (v := 155) hX dX12_readsTimed_156 fl_X12_76 o_136 rfl (by omega) ?_
                refine R_aload_0 hX dX12_readsTimed_159 ?_
                refine R_geti hX dX12_readsTimed_160 fl_X12_205 o_136 rfl ?_
                try simp (disch := omega) only [up_i, up_k, up_s]
                refine R_iload_2 hX dX12_readsTimed_163 ?_
                refine R_iast hX dX12_readsTimed_164 a_155 ⟨by omega, by omega⟩ ?_
                refine R_aload_0 hX dX12_readsTimed_165 ?_
                refine R_getq (v := 156) hX dX12_readsTimed_166 fl_X12_79 o_136 rfl (by omega) ?_
                refine R_aload_0 hX dX12_readsTimed_169 ?_
                refine R_geti hX dX12_readsTimed_170 fl_X12_205 o_136 rfl ?_
                try simp (disch := omega) only [up_i, up_k, up_s]
                refine R_iload_3 hX dX12_readsTimed_173 ?_
                refine R_iast hX dX12_readsTimed_174 a_156 ⟨by omega, by omega⟩ ?_
                refine R_aload_0 hX dX12_readsTimed_175 ?_
                refine R_getq (v := 157) hX dX12_readsTimed_176 fl_X12_82 o_136 rfl (by omega) ?_
                refine R_aload_0 hX dX12_readsTimed_179 ?_
                refine R_geti hX dX12_readsTimed_180 fl_X12_205 o_136 rfl ?_
                try simp (disch := omega) only [up_i, up_k, up_s]
                refine R_iload_4 hX dX12_readsTimed_183 ?_
                refine R_iast hX dX12_readsTimed_185 a_157 ⟨by omega, by omega⟩ ?_
                refine R_aload_0 hX dX12_readsTimed_186 ?_
                refine R_dup hX c1_r dX12_readsTimed_187 ?_
                refine R_geti hX dX12_readsTimed_188 fl_X12_205 o_136 rfl ?_
                try simp (disch := omega) only [up_i, up_k, up_s]
                refine R_iconst hX dX12_readsTimed_191 ?_
                refine R_iadd hX dX12_readsTimed_192 ?_
                refine R_puti hX dX12_readsTimed_193 fl_X12_205 o_136 rfl ?_
                exact R_vret hX dX12_readsTimed_196 (by unfold tmS tmP; rw [if_pos hg0])
              · skip
                exact R_vret hX dX12_readsTimed_144 (by unfold tmS; rw [if_neg (by omega)])
        · skip
          refine R_iload_3 hX dX12_readsTimed_81 ?_
          refine R_iconst hX dX12_readsTimed_82 ?_
          refine R_icmpne (tgt := 90) hX dX12_readsTimed_83 (by decide) (by constructor <;> first | omega | (simp (disch := omega) only [up_k, up_i, up_s]; omega)) (by constructor <;> first | omega | (simp (disch := omega) only [up_k, up_i, up_s]; omega)) (fun c_83 => ?_) (fun c_83 => ?_)
          · skip
            refine R_iconst hX dX12_readsTimed_90 ?_
            refine R_iconst hX dX12_readsTimed_91 ?_
            refine R_v2v hX dX12_readsTimed_92 li_X12_175 mk_X12_must mi_X12_must rfl o_136 (r_must (by have z := (nD.1).2.1; constructor <;> omega) (by have z := (nD.1).2.2.1; constructor <;> omega) (by omega)) ⟨⟨by decide, by decide⟩, by decide, by decide, rfl, Nat.le_of_ble_eq_true rfl, rfl⟩ (fun x_92 F_92 h_92 => ?_)
            subst h_92
            refine R.eq rfl rfl (show _ = mu (stH (tmD F) = 0 ∨ stH (tmD F) = 1 ∨ stH (tmD F) = 4) 1 (tmD F) from mu_iff (by omega)) ?_
            refine R_aload_0 hX dX12_readsTimed_95 ?_
            refine R_v0v hX dX12_readsTimed_96 li_X12_179 mk_X12_scans mi_X12_scans rfl o_136 (r_scans (nD.1.mu (g := stH (tmD F) = 0 ∨ stH (tmD F) = 1 ∨ stH (tmD F) = 4) (c := 1) (by omega)).1 (by have z := (nD.1.mu (g := stH (tmD F) = 0 ∨ stH (tmD F) = 1 ∨ stH (tmD F) = 4) (c := 1) (by omega)).2.1; constructor <;> omega)) ⟨⟨by decide, by decide⟩, by decide, by decide, rfl, Nat.le_of_ble_eq_true rfl, rfl⟩ (fun x_96 F_96 h_96 => ?_)
            subst h_96
            refine R.eq rfl rfl (show _ = tmE F from rfl) ?_
            refine R_aload_0 hX dX12_readsTimed_99 ?_
            refine R_iload_3 hX dX12_readsTimed_100 ?_
            refine R_iconst hX dX12_readsTimed_101 ?_
            refine R_icmpne (tgt := 109) hX dX12_readsTimed_102 (by decide) (by constructor <;> first | omega | (simp (disch := omega) only [up_k, up_i, up_s]; omega)) (by constructor <;> first | omega | (simp (disch := omega) only [up_k, up_i, up_s]; omega)) (fun c_102 => ?_) (fun c_102 => ?_)
            · skip
              refine R_iconst hX dX12_readsTimed_109 ?_
              refine R_iload_3 hX dX12_readsTimed_110 ?_
              refine R_ifne (tgt := 119) hX dX12_readsTimed_111 (by decide) (by constructor <;> first | omega | (simp (disch := omega) only [up_k, up_i, up_s]; omega)) (fun c_111 => ?_) (fun c_111 => ?_)
              · skip
                refine R_iload_3 hX dX12_readsTimed_119 ?_
                refine R_iconst hX dX12_readsTimed_120 ?_
                refine R_icmpne (tgt := 130) hX dX12_readsTimed_121 (by decide) (by constructor <;> first | omega | (simp (disch := omega) only [up_k, up_i, up_s]; omega)) (by constructor <;> first | omega | (simp (disch := omega) only [up_k, up_i, up_s]; omega)) (fun c_121 => ?_) (fun c_121 => ?_)
                · skip
                  refine R_bipush hX dX12_readsTimed_130 (by decide) ?_
                  refine R_v2i hX dX12_readsTimed_132 li_X12_195 mk_X12_readsNumber mi_X12_readsNumber rfl o_136 (r_readsNumber nE.1 (by constructor <;> omega) (by constructor <;> omega)) ⟨⟨by decide, by decide⟩, by decide, by decide, rfl, Nat.le_of_ble_eq_true rfl, rfl⟩ (fun x_132 F_132 h_132 => ?_)
                  obtain ⟨hx, hF⟩ := h_132
                  subst hx
                  subst hF
                  refine R.eq rfl rfl (show _ = tmG F by unfold tmG; first | (rw [if_pos (by omega), if_neg (by omega), if_neg (by omega)]; done) | (rw [if_neg (by omega), if_pos (by omega)]; done) | (rw [if_neg (by omega), if_neg (by omega), if_pos (by omega)]; done) | (rw [if_neg (by omega), if_neg (by omega), if_neg (by omega)]; done) | (exfalso; omega)) ?_
                  refine R_istore_4 hX c1_i dX12_readsTimed_135 ?_
                  refine R_aload_0 hX dX12_readsTimed_137 ?_
                  refine R_v0i hX dX12_readsTimed_138 li_X12_112 mk_X12_isGood mi_X12_isGood rfl o_136 (r_isGood (by have z := nG.1.2.1; constructor <;> omega)) ⟨⟨by decide, by decide⟩, by decide, by decide, rfl, Nat.le_of_ble_eq_true rfl, rfl⟩ (fun x_138 F_138 h_138 => ?_)
                  obtain ⟨h_138, e_138⟩ := h_138; replace e_138 := e_138.symm; subst e_138
                  refine R_ifne (tgt := 145) hX dX12_readsTimed_141 (by decide) (by constructor <;> first | omega | (simp (disch := omega) only [up_k, up_i, up_s]; omega)) (fun c_141 => ?_) (fun c_141 => ?_)
                  · skip
                    have hg0 : tmG F 136 19 = 0 := by omega
                    have h12 := tm_39 h ha hg0
                    have e39 : tmG F 136 39 = F 136 39 := nG.2.2.2.2.1
                    have b39 := nG.1.2.2.2.2.2.2.1
                    refine R_aload_0 hX dX12_readsTimed_145 ?_
                    refine R_getq (v := 154) hX dX12_readsTimed_146 fl_X12_73 o_136 rfl (by omega) ?_
                    refine R_aload_0 hX dX12_readsTimed_149 ?_
                    refine R_geti hX dX12_readsTimed_150 fl_X12_205 o_136 rfl ?_
                    try simp (disch := omega) only [up_i, up_k, up_s]
                    refine R_iload_1 hX dX12_readsTimed_153 ?_
                    refine R_iast hX dX12_readsTimed_154 a_154 ⟨by omega, by omega⟩ ?_
                    refine R_aload_0 hX dX12_readsTimed_155 ?_
                    refine R_getq (v := 155) hX dX12_readsTimed_156 fl_X12_76 o_136 rfl (by omega) ?_
                    refine R_aload_0 hX dX12_readsTimed_159 ?_
                    refine R_geti hX dX12_readsTimed_160 fl_X12_205 o_136 rfl ?_
                    try simp (disch := omega) only [up_i, up_k, up_s]
                    refine R_iload_2 hX dX12_readsTimed_163 ?_
                    refine R_iast hX dX12_readsTimed_164 a_155 ⟨by omega, by omega⟩ ?_
                    refine R_aload_0 hX dX12_readsTimed_165 ?_
                    refine R_getq (v := 156) hX dX12_readsTimed_166 fl_X12_79 o_136 rfl (by omega) ?_
                    refine R_aload_0 hX dX12_readsTimed_169 ?_
                    refine R_geti hX dX12_readsTimed_170 fl_X12_205 o_136 rfl ?_
                    try simp (disch := omega) only [up_i, up_k, up_s]
                    refine R_iload_3 hX dX12_readsTimed_173 ?_
                    refine R_iast hX dX12_readsTimed_174 a_156 ⟨by omega, by omega⟩ ?_
                    refine R_aload_0 hX dX12_readsTimed_175 ?_
                    refine R_getq (v := 157) hX dX12_readsTimed_176 fl_X12_82 o_136 rfl (by omega) ?_
                    refine R_aload_0 hX dX12_readsTimed_179 ?_
                    refine R_geti hX dX12_readsTimed_180 fl_X12_205 o_136 rfl ?_
                    try simp (disch := omega) only [up_i, up_k, up_s]
                    refine R_iload_4 hX dX12_readsTimed_183 ?_
                    refine R_iast hX dX12_readsTimed_185 a_157 ⟨by omega, by omega⟩ ?_
                    refine R_aload_0 hX dX12_readsTimed_186 ?_
                    refine R_dup hX c1_r dX12_readsTimed_187 ?_
                    refine R_geti hX dX12_readsTimed_188 fl_X12_205 o_136 rfl ?_
                    try simp (disch := omega) only [up_i, up_k, up_s]
                    refine R_iconst hX dX12_readsTimed_191 ?_
                    refine R_iadd hX dX12_readsTimed_192 ?_
                    refine R_puti hX dX12_readsTimed_193 fl_X12_205 o_136 rfl ?_
                    exact R_vret hX dX12_readsTimed_196 (by unfold tmS tmP; rw [if_pos hg0])
                  · skip
                    exact R_vret hX dX12_readsTimed_144 (by unfold tmS; rw [if_neg (by omega)])
                · skip
                  refine R_sipush hX dX12_readsTimed_124 (by decide) ?_
                  refine R_goto (tgt := 132) hX dX12_readsTimed_127 (by decide) ?_
                  refine R_v2i hX dX12_readsTimed_132 li_X12_195 mk_X12_readsNumber mi_X12_readsNumber rfl o_136 (r_readsNumber nE.1 (by constructor <;> omega) (by constructor <;> omega)) ⟨⟨by decide, by decide⟩, by decide, by decide, rfl, Nat.le_of_ble_eq_true rfl, rfl⟩ (fun x_132 F_132 h_132 => ?_)
                  obtain ⟨hx, hF⟩ := h_132
                  subst hx
                  subst hF
                  refine R.eq rfl rfl (show _ = tmG F by unfold tmG; first | (rw [if_pos (by omega), if_neg (by omega), if_neg (by omega)]; done) | (rw [if_neg (by omega), if_pos (by omega)]; done) | (rw [if_neg (by omega), if_neg (by omega), if_pos (by omega)]; done) | (rw [if_neg (by omega), if_neg (by omega), if_neg (by omega)]; done) | (exfalso; omega)) ?_
                  refine R_istore_4 hX c1_i dX12_readsTimed_135 ?_
                  refine R_aload_0 hX dX12_readsTimed_137 ?_
                  refine R_v0i hX dX12_readsTimed_138 li_X12_112 mk_X12_isGood mi_X12_isGood rfl o_136 (r_isGood (by have z := nG.1.2.1; constructor <;> omega)) ⟨⟨by decide, by decide⟩, by decide, by decide, rfl, Nat.le_of_ble_eq_true rfl, rfl⟩ (fun x_138 F_138 h_138 => ?_)
                  obtain ⟨h_138, e_138⟩ := h_138; replace e_138 := e_138.symm; subst e_138
                  refine R_ifne (tgt := 145) hX dX12_readsTimed_141 (by decide) (by constructor <;> first | omega | (simp (disch := omega) only [up_k, up_i, up_s]; omega)) (fun c_141 => ?_) (fun c_141 => ?_)
                  · skip
                    have hg0 : tmG F 136 19 = 0 := by omega
                    have h12 := tm_39 h ha hg0
                    have e39 : tmG F 136 39 = F 136 39 := nG.2.2.2.2.1
                    have b39 := nG.1.2.2.2.2.2.2.1
                    refine R_aload_0 hX dX12_readsTimed_145 ?_
                    refine R_getq (v := 154) hX dX12_readsTimed_146 fl_X12_73 o_136 rfl (by omega) ?_
                    refine R_aload_0 hX dX12_readsTimed_149 ?_
                    refine R_geti hX dX12_readsTimed_150 fl_X12_205 o_136 rfl ?_
                    try simp (disch := omega) only [up_i, up_k, up_s]
                    refine R_iload_1 hX dX12_readsTimed_153 ?_
                    refine R_iast hX dX12_readsTimed_154 a_154 ⟨by omega, by omega⟩ ?_
                    refine R_aload_0 hX dX12_readsTimed_155 ?_
                    refine R_getq (v := 155) hX dX12_readsTimed_156 fl_X12_76 o_136 rfl (by omega) ?_
                    refine R_aload_0 hX dX12_readsTimed_159 ?_
                    refine R_geti hX dX12_readsTimed_160 fl_X12_205 o_136 rfl ?_
                    try simp (disch := omega) only [up_i, up_k, up_s]
                    refine R_iload_2 hX dX12_readsTimed_163 ?_
                    refine R_iast hX dX12_readsTimed_164 a_155 ⟨by omega, by omega⟩ ?_
                    refine R_aload_0 hX dX12_readsTimed_165 ?_
                    refine R_getq (v := 156) hX dX12_readsTimed_166 fl_X12_79 o_136 rfl (by omega) ?_
                    refine R_aload_0 hX dX12_readsTimed_169 ?_
                    refine R_geti hX dX12_readsTimed_170 fl_X12_205 o_136 rfl ?_
                    try simp (disch := omega) only [up_i, up_k, up_s]
                    refine R_iload_3 hX dX12_readsTimed_173 ?_
                    refine R_iast hX dX12_readsTimed_174 a_156 ⟨by omega, by omega⟩ ?_
                    refine R_aload_0 hX dX12_readsTimed_175 ?_
                    refine R_getq (v := 157) hX dX12_readsTimed_176 fl_X12_82 o_136 rfl (by omega) ?_
                    refine R_aload_0 hX dX12_readsTimed_179 ?_
                    refine R_geti hX dX12_readsTimed_180 fl_X12_205 o_136 rfl ?_
                    try simp (disch := omega) only [up_i, up_k, up_s]
                    refine R_iload_4 hX dX12_readsTimed_183 ?_
                    refine R_iast hX dX12_readsTimed_185 a_157 ⟨by omega, by omega⟩ ?_
                    refine R_aload_0 hX dX12_readsTimed_186 ?_
                    refine R_dup hX c1_r dX12_readsTimed_187 ?_
                    refine R_geti hX dX12_readsTimed_188 fl_X12_205 o_136 rfl ?_
                    try simp (disch := omega) only [up_i, up_k, up_s]
                    refine R_iconst hX dX12_readsTimed_191 ?_
                    refine R_iadd hX dX12_readsTimed_192 ?_
                    refine R_puti hX dX12_readsTimed_193 fl_X12_205 o_136 rfl ?_
                    exact R_vret hX dX12_readsTimed_196 (by unfold tmS tmP; rw [if_pos hg0])
                  · skip
                    exact R_vret hX dX12_readsTimed_144 (by unfold tmS; rw [if_neg (by omega)])
              · skip
                refine R_bipush hX dX12_readsTimed_114 (by decide) ?_
                refine R_goto (tgt := 132) hX dX12_readsTimed_116 (by decide) ?_
                refine R_v2i hX dX12_readsTimed_132 li_X12_195 mk_X12_readsNumber mi_X12_readsNumber rfl o_136 (r_readsNumber nE.1 (by constructor <;> omega) (by constructor <;> omega)) ⟨⟨by decide, by decide⟩, by decide, by decide, rfl, Nat.le_of_ble_eq_true rfl, rfl⟩ (fun x_132 F_132 h_132 => ?_)
                obtain ⟨hx, hF⟩ := h_132
                subst hx
                subst hF
                refine R.eq rfl rfl (show _ = tmG F by unfold tmG; first | (rw [if_pos (by omega), if_neg (by omega), if_neg (by omega)]; done) | (rw [if_neg (by omega), if_pos (by omega)]; done) | (rw [if_neg (by omega), if_neg (by omega), if_pos (by omega)]; done) | (rw [if_neg (by omega), if_neg (by omega), if_neg (by omega)]; done) | (exfalso; omega)) ?_
                refine R_istore_4 hX c1_i dX12_readsTimed_135 ?_
                refine R_aload_0 hX dX12_readsTimed_137 ?_
                refine R_v0i hX dX12_readsTimed_138 li_X12_112 mk_X12_isGood mi_X12_isGood rfl o_136 (r_isGood (by have z := nG.1.2.1; constructor <;> omega)) ⟨⟨by decide, by decide⟩, by decide, by decide, rfl, Nat.le_of_ble_eq_true rfl, rfl⟩ (fun x_138 F_138 h_138 => ?_)
                obtain ⟨h_138, e_138⟩ := h_138; replace e_138 := e_138.symm; subst e_138
                refine R_ifne (tgt := 145) hX dX12_readsTimed_141 (by decide) (by constructor <;> first | omega | (simp (disch := omega) only [up_k, up_i, up_s]; omega)) (fun c_141 => ?_) (fun c_141 => ?_)
                · skip
                  have hg0 : tmG F 136 19 = 0 := by omega
                  have h12 := tm_39 h ha hg0
                  have e39 : tmG F 136 39 = F 136 39 := nG.2.2.2.2.1
                  have b39 := nG.1.2.2.2.2.2.2.1
                  refine R_aload_0 hX dX12_readsTimed_145 ?_
                  refine R_getq (v := 154) hX dX12_readsTimed_146 fl_X12_73 o_136 rfl (by omega) ?_
                  refine R_aload_0 hX dX12_readsTimed_149 ?_
                  refine R_geti hX dX12_readsTimed_150 fl_X12_205 o_136 rfl ?_
                  try simp (disch := omega) only [up_i, up_k, up_s]
                  refine R_iload_1 hX dX12_readsTimed_153 ?_
                  refine R_iast hX dX12_readsTimed_154 a_154 ⟨by omega, by omega⟩ ?_
                  refine R_aload_0 hX dX12_readsTimed_155 ?_
                  refine R_getq (v := 155) hX dX12_readsTimed_156 fl_X12_76 o_136 rfl (by omega) ?_
                  refine R_aload_0 hX dX12_readsTimed_159 ?_
                  refine R_geti hX dX12_readsTimed_160 fl_X12_205 o_136 rfl ?_
                  try simp (disch := omega) only [up_i, up_k, up_s]
                  refine R_iload_2 hX dX12_readsTimed_163 ?_
                  refine R_iast hX dX12_readsTimed_164 a_155 ⟨by omega, by omega⟩ ?_
                  refine R_aload_0 hX dX12_readsTimed_165 ?_
                  refine R_getq (v := 156) hX dX12_readsTimed_166 fl_X12_79 o_136 rfl (by omega) ?_
                  refine R_aload_0 hX dX12_readsTimed_169 ?_
                  refine R_geti hX dX12_readsTimed_170 fl_X12_205 o_136 rfl ?_
                  try simp (disch := omega) only [up_i, up_k, up_s]
                  refine R_iload_3 hX dX12_readsTimed_173 ?_
                  refine R_iast hX dX12_readsTimed_174 a_156 ⟨by omega, by omega⟩ ?_
                  refine R_aload_0 hX dX12_readsTimed_175 ?_
                  refine R_getq (v := 157) hX dX12_readsTimed_176 fl_X12_82 o_136 rfl (by omega) ?_
                  refine R_aload_0 hX dX12_readsTimed_179 ?_
                  refine R_geti hX dX12_readsTimed_180 fl_X12_205 o_136 rfl ?_
                  try simp (disch := omega) only [up_i, up_k, up_s]
                  refine R_iload_4 hX dX12_readsTimed_183 ?_
                  refine R_iast hX dX12_readsTimed_185 a_157 ⟨by omega, by omega⟩ ?_
                  refine R_aload_0 hX dX12_readsTimed_186 ?_
                  refine R_dup hX c1_r dX12_readsTimed_187 ?_
                  refine R_geti hX dX12_readsTimed_188 fl_X12_205 o_136 rfl ?_
                  try simp (disch := omega) only [up_i, up_k, up_s]
                  refine R_iconst hX dX12_readsTimed_191 ?_
                  refine R_iadd hX dX12_readsTimed_192 ?_
                  refine R_puti hX dX12_readsTimed_193 fl_X12_205 o_136 rfl ?_
                  exact R_vret hX dX12_readsTimed_196 (by unfold tmS tmP; rw [if_pos hg0])
                · skip
                  exact R_vret hX dX12_readsTimed_144 (by unfold tmS; rw [if_neg (by omega)])
            · skip
              refine R_iconst hX dX12_readsTimed_105 ?_
              refine R_goto (tgt := 110) hX dX12_readsTimed_106 (by decide) ?_
              refine R_iload_3 hX dX12_readsTimed_110 ?_
              refine R_ifne (tgt := 119) hX dX12_readsTimed_111 (by decide) (by constructor <;> first | omega | (simp (disch := omega) only [up_k, up_i, up_s]; omega)) (fun c_111 => ?_) (fun c_111 => ?_)
              · skip
                refine R_iload_3 hX dX12_readsTimed_119 ?_
                refine R_iconst hX dX12_readsTimed_120 ?_
                refine R_icmpne (tgt := 130) hX dX12_readsTimed_121 (by decide) (by constructor <;> first | omega | (simp (disch := omega) only [up_k, up_i, up_s]; omega)) (by constructor <;> first | omega | (simp (disch := omega) only [up_k, up_i, up_s]; omega)) (fun c_121 => ?_) (fun c_121 => ?_)
                · skip
                  refine R_bipush hX dX12_readsTimed_130 (by decide) ?_
                  refine R_v2i hX dX12_readsTimed_132 li_X12_195 mk_X12_readsNumber mi_X12_readsNumber rfl o_136 (r_readsNumber nE.1 (by constructor <;> omega) (by constructor <;> omega)) ⟨⟨by decide, by decide⟩, by decide, by decide, rfl, Nat.le_of_ble_eq_true rfl, rfl⟩ (fun x_132 F_132 h_132 => ?_)
                  obtain ⟨hx, hF⟩ := h_132
                  subst hx
                  subst hF
                  refine R.eq rfl rfl (show _ = tmG F by unfold tmG; first | (rw [if_pos (by omega), if_neg (by omega), if_neg (by omega)]; done) | (rw [if_neg (by omega), if_pos (by omega)]; done) | (rw [if_neg (by omega), if_neg (by omega), if_pos (by omega)]; done) | (rw [if_neg (by omega), if_neg (by omega), if_neg (by omega)]; done) | (exfalso; omega)) ?_
                  refine R_istore_4 hX c1_i dX12_readsTimed_135 ?_
                  refine R_aload_0 hX dX12_readsTimed_137 ?_
                  refine R_v0i hX dX12_readsTimed_138 li_X12_112 mk_X12_isGood mi_X12_isGood rfl o_136 (r_isGood (by have z := nG.1.2.1; constructor <;> omega)) ⟨⟨by decide, by decide⟩, by decide, by decide, rfl, Nat.le_of_ble_eq_true rfl, rfl⟩ (fun x_138 F_138 h_138 => ?_)
                  obtain ⟨h_138, e_138⟩ := h_138; replace e_138 := e_138.symm; subst e_138
                  refine R_ifne (tgt := 145) hX dX12_readsTimed_141 (by decide) (by constructor <;> first | omega | (simp (disch := omega) only [up_k, up_i, up_s]; omega)) (fun c_141 => ?_) (fun c_141 => ?_)
                  · skip
                    have hg0 : tmG F 136 19 = 0 := by omega
                    have h12 := tm_39 h ha hg0
                    have e39 : tmG F 136 39 = F 136 39 := nG.2.2.2.2.1
                    have b39 := nG.1.2.2.2.2.2.2.1
                    refine R_aload_0 hX dX12_readsTimed_145 ?_
                    refine R_getq (v := 154) hX dX12_readsTimed_146 fl_X12_73 o_136 rfl (by omega) ?_
                    refine R_aload_0 hX dX12_readsTimed_149 ?_
                    refine R_geti hX dX12_readsTimed_150 fl_X12_205 o_136 rfl ?_
                    try simp (disch := omega) only [up_i, up_k, up_s]
                    refine R_iload_1 hX dX12_readsTimed_153 ?_
                    refine R_iast hX dX12_readsTimed_154 a_154 ⟨by omega, by omega⟩ ?_
                    refine R_aload_0 hX dX12_readsTimed_155 ?_
                    refine R_getq (v := 155) hX dX12_readsTimed_156 fl_X12_76 o_136 rfl (by omega) ?_
                    refine R_aload_0 hX dX12_readsTimed_159 ?_
                    refine R_geti hX dX12_readsTimed_160 fl_X12_205 o_136 rfl ?_
                    try simp (disch := omega) only [up_i, up_k, up_s]
                    refine R_iload_2 hX dX12_readsTimed_163 ?_
                    refine R_iast hX dX12_readsTimed_164 a_155 ⟨by omega, by omega⟩ ?_
                    refine R_aload_0 hX dX12_readsTimed_165 ?_
                    refine R_getq (v := 156) hX dX12_readsTimed_166 fl_X12_79 o_136 rfl (by omega) ?_
                    refine R_aload_0 hX dX12_readsTimed_169 ?_
                    refine R_geti hX dX12_readsTimed_170 fl_X12_205 o_136 rfl ?_
                    try simp (disch := omega) only [up_i, up_k, up_s]
                    refine R_iload_3 hX dX12_readsTimed_173 ?_
                    refine R_iast hX dX12_readsTimed_174 a_156 ⟨by omega, by omega⟩ ?_
                    refine R_aload_0 hX dX12_readsTimed_175 ?_
                    refine R_getq (v := 157) hX dX12_readsTimed_176 fl_X12_82 o_136 rfl (by omega) ?_
                    refine R_aload_0 hX dX12_readsTimed_179 ?_
                    refine R_geti hX dX12_readsTimed_180 fl_X12_205 o_136 rfl ?_
                    try simp (disch := omega) only [up_i, up_k, up_s]
                    refine R_iload_4 hX dX12_readsTimed_183 ?_
                    refine R_iast hX dX12_readsTimed_185 a_157 ⟨by omega, by omega⟩ ?_
                    refine R_aload_0 hX dX12_readsTimed_186 ?_
                    refine R_dup hX c1_r dX12_readsTimed_187 ?_
                    refine R_geti hX dX12_readsTimed_188 fl_X12_205 o_136 rfl ?_
                    try simp (disch := omega) only [up_i, up_k, up_s]
                    refine R_iconst hX dX12_readsTimed_191 ?_
                    refine R_iadd hX dX12_readsTimed_192 ?_
                    refine R_puti hX dX12_readsTimed_193 fl_X12_205 o_136 rfl ?_
                    exact R_vret hX dX12_readsTimed_196 (by unfold tmS tmP; rw [if_pos hg0])
                  · skip
                    exact R_vret hX dX12_readsTimed_144 (by unfold tmS; rw [if_neg (by omega)])
                · skip
                  refine R_sipush hX dX12_readsTimed_124 (by decide) ?_
                  refine R_goto (tgt := 132) hX dX12_readsTimed_127 (by decide) ?_
                  refine R_v2i hX dX12_readsTimed_132 li_X12_195 mk_X12_readsNumber mi_X12_readsNumber rfl o_136 (r_readsNumber nE.1 (by constructor <;> omega) (by constructor <;> omega)) ⟨⟨by decide, by decide⟩, by decide, by decide, rfl, Nat.le_of_ble_eq_true rfl, rfl⟩ (fun x_132 F_132 h_132 => ?_)
                  obtain ⟨hx, hF⟩ := h_132
                  subst hx
                  subst hF
                  refine R.eq rfl rfl (show _ = tmG F by unfold tmG; first | (rw [if_pos (by omega), if_neg (by omega), if_neg (by omega)]; done) | (rw [if_neg (by omega), if_pos (by omega)]; done) | (rw [if_neg (by omega), if_neg (by omega), if_pos (by omega)]; done) | (rw [if_neg (by omega), if_neg (by omega), if_neg (by omega)]; done) | (exfalso; omega)) ?_
                  refine R_istore_4 hX c1_i dX12_readsTimed_135 ?_
                  refine R_aload_0 hX dX12_readsTimed_137 ?_
                  refine R_v0i hX dX12_readsTimed_138 li_X12_112 mk_X12_isGood mi_X12_isGood rfl o_136 (r_isGood (by have z := nG.1.2.1; constructor <;> omega)) ⟨⟨by decide, by decide⟩, by decide, by decide, rfl, Nat.le_of_ble_eq_true rfl, rfl⟩ (fun x_138 F_138 h_138 => ?_)
                  obtain ⟨h_138, e_138⟩ := h_138; replace e_138 := e_138.symm; subst e_138
                  refine R_ifne (tgt := 145) hX dX12_readsTimed_141 (by decide) (by constructor <;> first | omega | (simp (disch := omega) only [up_k, up_i, up_s]; omega)) (fun c_141 => ?_) (fun c_141 => ?_)
                  · skip
                    have hg0 : tmG F 136 19 = 0 := by omega
                    have h12 := tm_39 h ha hg0
                    have e39 : tmG F 136 39 = F 136 39 := nG.2.2.2.2.1
                    have b39 := nG.1.2.2.2.2.2.2.1
                    refine R_aload_0 hX dX12_readsTimed_145 ?_
                    refine R_getq (v := 154) hX dX12_readsTimed_146 fl_X12_73 o_136 rfl (by omega) ?_
                    refine R_aload_0 hX dX12_readsTimed_149 ?_
                    refine R_geti hX dX12_readsTimed_150 fl_X12_205 o_136 rfl ?_
                    try simp (disch := omega) only [up_i, up_k, up_s]
                    refine R_iload_1 hX dX12_readsTimed_153 ?_
                    refine R_iast hX dX12_readsTimed_154 a_154 ⟨by omega, by omega⟩ ?_
                    refine R_aload_0 hX dX12_readsTimed_155 ?_
                    refine R_getq (v := 155) hX dX12_readsTimed_156 fl_X12_76 o_136 rfl (by omega) ?_
                    refine R_aload_0 hX dX12_readsTimed_159 ?_
                    refine R_geti hX dX12_readsTimed_160 fl_X12_205 o_136 rfl ?_
                    try simp (disch := omega) only [up_i, up_k, up_s]
                    refine R_iload_2 hX dX12_readsTimed_163 ?_
                    refine R_iast hX dX12_readsTimed_164 a_155 ⟨by omega, by omega⟩ ?_
                    refine R_aload_0 hX dX12_readsTimed_165 ?_
                    refine R_getq (v := 156) hX dX12_readsTimed_166 fl_X12_79 o_136 rfl (by omega) ?_
                    refine R_aload_0 hX dX12_readsTimed_169 ?_
                    refine R_geti hX dX12_readsTimed_170 fl_X12_205 o_136 rfl ?_
                    try simp (disch := omega) only [up_i, up_k, up_s]
                    refine R_iload_3 hX dX12_readsTimed_173 ?_
                    refine R_iast hX dX12_readsTimed_174 a_156 ⟨by omega, by omega⟩ ?_
                    refine R_aload_0 hX dX12_readsTimed_175 ?_
                    refine R_getq (v := 157) hX dX12_readsTimed_176 fl_X12_82 o_136 rfl (by omega) ?_
                    refine R_aload_0 hX dX12_readsTimed_179 ?_
                    refine R_geti hX dX12_readsTimed_180 fl_X12_205 o_136 rfl ?_
                    try simp (disch := omega) only [up_i, up_k, up_s]
                    refine R_iload_4 hX dX12_readsTimed_183 ?_
                    refine R_iast hX dX12_readsTimed_185 a_157 ⟨by omega, by omega⟩ ?_
                    refine R_aload_0 hX dX12_readsTimed_186 ?_
                    refine R_dup hX c1_r dX12_readsTimed_187 ?_
                    refine R_geti hX dX12_readsTimed_188 fl_X12_205 o_136 rfl ?_
                    try simp (disch := omega) only [up_i, up_k, up_s]
                    refine R_iconst hX dX12_readsTimed_191 ?_
                    refine R_iadd hX dX12_readsTimed_192 ?_
                    refine R_puti hX dX12_readsTimed_193 fl_X12_205 o_136 rfl ?_
                    exact R_vret hX dX12_readsTimed_196 (by unfold tmS tmP; rw [if_pos hg0])
                  · skip
                    exact R_vret hX dX12_readsTimed_144 (by unfold tmS; rw [if_neg (by omega)])
              · skip
                refine R_bipush hX dX12_readsTimed_114 (by decide) ?_
                refine R_goto (tgt := 132) hX dX12_readsTimed_116 (by decide) ?_
                refine R_v2i hX dX12_readsTimed_132 li_X12_195 mk_X12_readsNumber mi_X12_readsNumber rfl o_136 (r_readsNumber nE.1 (by constructor <;> omega) (by constructor <;> omega)) ⟨⟨by decide, by decide⟩, by decide, by decide, rfl, Nat.le_of_ble_eq_true rfl, rfl⟩ (fun x_132 F_132 h_132 => ?_)
                obtain ⟨hx, hF⟩ := h_132
                subst hx
                subst hF
                refine R.eq rfl rfl (show _ = tmG F by unfold tmG; first | (rw [if_pos (by omega), if_neg (by omega), if_neg (by omega)]; done) | (rw [if_neg (by omega), if_pos (by omega)]; done) | (rw [if_neg (by omega), if_neg (by omega), if_pos (by omega)]; done) | (rw [if_neg (by omega), if_neg (by omega), if_neg (by omega)]; done) | (exfalso; omega)) ?_
                refine R_istore_4 hX c1_i dX12_readsTimed_135 ?_
                refine R_aload_0 hX dX12_readsTimed_137 ?_
                refine R_v0i hX dX12_readsTimed_138 li_X12_112 mk_X12_isGood mi_X12_isGood rfl o_136 (r_isGood (by have z := nG.1.2.1; constructor <;> omega)) ⟨⟨by decide, by decide⟩, by decide, by decide, rfl, Nat.le_of_ble_eq_true rfl, rfl⟩ (fun x_138 F_138 h_138 => ?_)
                obtain ⟨h_138, e_138⟩ := h_138; replace e_138 := e_138.symm; subst e_138
                refine R_ifne (tgt := 145) hX dX12_readsTimed_141 (by decide) (by constructor <;> first | omega | (simp (disch := omega) only [up_k, up_i, up_s]; omega)) (fun c_141 => ?_) (fun c_141 => ?_)
                · skip
                  have hg0 : tmG F 136 19 = 0 := by omega
                  have h12 := tm_39 h ha hg0
                  have e39 : tmG F 136 39 = F 136 39 := nG.2.2.2.2.1
                  have b39 := nG.1.2.2.2.2.2.2.1
                  refine R_aload_0 hX dX12_readsTimed_145 ?_
                  refine R_getq (v := 154) hX dX12_readsTimed_146 fl_X12_73 o_136 rfl (by omega) ?_
                  refine R_aload_0 hX dX12_readsTimed_149 ?_
                  refine R_geti hX dX12_readsTimed_150 fl_X12_205 o_136 rfl ?_
                  try simp (disch := omega) only [up_i, up_k, up_s]
                  refine R_iload_1 hX dX12_readsTimed_153 ?_
                  refine R_iast hX dX12_readsTimed_154 a_154 ⟨by omega, by omega⟩ ?_
                  refine R_aload_0 hX dX12_readsTimed_155 ?_
                  refine R_getq (v := 155) hX dX12_readsTimed_156 fl_X12_76 o_136 rfl (by omega) ?_
                  refine R_aload_0 hX dX12_readsTimed_159 ?_
                  refine R_geti hX dX12_readsTimed_160 fl_X12_205 o_136 rfl ?_
                  try simp (disch := omega) only [up_i, up_k, up_s]
                  refine R_iload_2 hX dX12_readsTimed_163 ?_
                  refine R_iast hX dX12_readsTimed_164 a_155 ⟨by omega, by omega⟩ ?_
                  refine R_aload_0 hX dX12_readsTimed_165 ?_
                  refine R_getq (v := 156) hX dX12_readsTimed_166 fl_X12_79 o_136 rfl (by omega) ?_
                  refine R_aload_0 hX dX12_readsTimed_169 ?_
                  refine R_geti hX dX12_readsTimed_170 fl_X12_205 o_136 rfl ?_
                  try simp (disch := omega) only [up_i, up_k, up_s]
                  refine R_iload_3 hX dX12_readsTimed_173 ?_
                  refine R_iast hX dX12_readsTimed_174 a_156 ⟨by omega, by omega⟩ ?_
                  refine R_aload_0 hX dX12_readsTimed_175 ?_
                  refine R_getq (v := 157) hX dX12_readsTimed_176 fl_X12_82 o_136 rfl (by omega) ?_
                  refine R_aload_0 hX dX12_readsTimed_179 ?_
                  refine R_geti hX dX12_readsTimed_180 fl_X12_205 o_136 rfl ?_
                  try simp (disch := omega) only [up_i, up_k, up_s]
                  refine R_iload_4 hX dX12_readsTimed_183 ?_
                  refine R_iast hX dX12_readsTimed_185 a_157 ⟨by omega, by omega⟩ ?_
                  refine R_aload_0 hX dX12_readsTimed_186 ?_
                  refine R_dup hX c1_r dX12_readsTimed_187 ?_
                  refine R_geti hX dX12_readsTimed_188 fl_X12_205 o_136 rfl ?_
                  try simp (disch := omega) only [up_i, up_k, up_s]
                  refine R_iconst hX dX12_readsTimed_191 ?_
                  refine R_iadd hX dX12_readsTimed_192 ?_
                  refine R_puti hX dX12_readsTimed_193 fl_X12_205 o_136 rfl ?_
                  exact R_vret hX dX12_readsTimed_196 (by unfold tmS tmP; rw [if_pos hg0])
                · skip
                  exact R_vret hX dX12_readsTimed_144 (by unfold tmS; rw [if_neg (by omega)])
          · skip
            refine R_iconst hX dX12_readsTimed_86 ?_
            refine R_goto (tgt := 91) hX dX12_readsTimed_87 (by decide) ?_
            refine R_iconst hX dX12_readsTimed_91 ?_
            refine R_v2v hX dX12_readsTimed_92 li_X12_175 mk_X12_must mi_X12_must rfl o_136 (r_must (by have z := (nD.1).2.1; constructor <;> omega) (by have z := (nD.1).2.2.1; constructor <;> omega) (by omega)) ⟨⟨by decide, by decide⟩, by decide, by decide, rfl, Nat.le_of_ble_eq_true rfl, rfl⟩ (fun x_92 F_92 h_92 => ?_)
            subst h_92
            refine R.eq rfl rfl (show _ = mu (stH (tmD F) = 0 ∨ stH (tmD F) = 1 ∨ stH (tmD F) = 4) 1 (tmD F) from mu_iff (by omega)) ?_
            refine R_aload_0 hX dX12_readsTimed_95 ?_
            refine R_v0v hX dX12_readsTimed_96 li_X12_179 mk_X12_scans mi_X12_scans rfl o_136 (r_scans (nD.1.mu (g := stH (tmD F) = 0 ∨ stH (tmD F) = 1 ∨ stH (tmD F) = 4) (c := 1) (by omega)).1 (by have z := (nD.1.mu (g := stH (tmD F) = 0 ∨ stH (tmD F) = 1 ∨ stH (tmD F) = 4) (c := 1) (by omega)).2.1; constructor <;> omega)) ⟨⟨by decide, by decide⟩, by decide, by decide, rfl, Nat.le_of_ble_eq_true rfl, rfl⟩ (fun x_96 F_96 h_96 => ?_)
            subst h_96
            refine R.eq rfl rfl (show _ = tmE F from rfl) ?_
            refine R_aload_0 hX dX12_readsTimed_99 ?_
            refine R_iload_3 hX dX12_readsTimed_100 ?_
            refine R_iconst hX dX12_readsTimed_101 ?_
            refine R_icmpne (tgt := 109) hX dX12_readsTimed_102 (by decide) (by constructor <;> first | omega | (simp (disch := omega) only [up_k, up_i, up_s]; omega)) (by constructor <;> first | omega | (simp (disch := omega) only [up_k, up_i, up_s]; omega)) (fun c_102 => ?_) (fun c_102 => ?_)
            · skip
              refine R_iconst hX dX12_readsTimed_109 ?_
              refine R_iload_3 hX dX12_readsTimed_110 ?_
              refine R_ifne (tgt := 119) hX dX12_readsTimed_111 (by decide) (by constructor <;> first | omega | (simp (disch := omega) only [up_k, up_i, up_s]; omega)) (fun c_111 => ?_) (fun c_111 => ?_)
              · skip
                refine R_iload_3 hX dX12_readsTimed_119 ?_
                refine R_iconst hX dX12_readsTimed_120 ?_
                refine R_icmpne (tgt := 130) hX dX12_readsTimed_121 (by decide) (by constructor <;> first | omega | (simp (disch := omega) only [up_k, up_i, up_s]; omega)) (by constructor <;> first | omega | (simp (disch := omega) only [up_k, up_i, up_s]; omega)) (fun c_121 => ?_) (fun c_121 => ?_)
                · skip
                  refine R_bipush hX dX12_readsTimed_130 (by decide) ?_
                  refine R_v2i hX dX12_readsTimed_132 li_X12_195 mk_X12_readsNumber mi_X12_readsNumber rfl o_136 (r_readsNumber nE.1 (by constructor <;> omega) (by constructor <;> omega)) ⟨⟨by decide, by decide⟩, by decide, by decide, rfl, Nat.le_of_ble_eq_true rfl, rfl⟩ (fun x_132 F_132 h_132 => ?_)
                  obtain ⟨hx, hF⟩ := h_132
                  subst hx
                  subst hF
                  refine R.eq rfl rfl (show _ = tmG F by unfold tmG; first | (rw [if_pos (by omega), if_neg (by omega), if_neg (by omega)]; done) | (rw [if_neg (by omega), if_pos (by omega)]; done) | (rw [if_neg (by omega), if_neg (by omega), if_pos (by omega)]; done) | (rw [if_neg (by omega), if_neg (by omega), if_neg (by omega)]; done) | (exfalso; omega)) ?_
                  refine R_istore_4 hX c1_i dX12_readsTimed_135 ?_
                  refine R_aload_0 hX dX12_readsTimed_137 ?_
                  refine R_v0i hX dX12_readsTimed_138 li_X12_112 mk_X12_isGood mi_X12_isGood rfl o_136 (r_isGood (by have z := nG.1.2.1; constructor <;> omega)) ⟨⟨by decide, by decide⟩, by decide, by decide, rfl, Nat.le_of_ble_eq_true rfl, rfl⟩ (fun x_138 F_138 h_138 => ?_)
                  obtain ⟨h_138, e_138⟩ := h_138; replace e_138 := e_138.symm; subst e_138
                  refine R_ifne (tgt := 145) hX dX12_readsTimed_141 (by decide) (by constructor <;> first | omega | (simp (disch := omega) only [up_k, up_i, up_s]; omega)) (fun c_141 => ?_) (fun c_141 => ?_)
                  · skip
                    have hg0 : tmG F 136 19 = 0 := by omega
                    have h12 := tm_39 h ha hg0
                    have e39 : tmG F 136 39 = F 136 39 := nG.2.2.2.2.1
                    have b39 := nG.1.2.2.2.2.2.2.1
                    refine R_aload_0 hX dX12_readsTimed_145 ?_
                    refine R_getq (v := 154) hX dX12_readsTimed_146 fl_X12_73 o_136 rfl (by omega) ?_
                    refine R_aload_0 hX dX12_readsTimed_149 ?_
                    refine R_geti hX dX12_readsTimed_150 fl_X12_205 o_136 rfl ?_
                    try simp (disch := omega) only [up_i, up_k, up_s]
                    refine R_iload_1 hX dX12_readsTimed_153 ?_
                    refine R_iast hX dX12_readsTimed_154 a_154 ⟨by omega, by omega⟩ ?_
                    refine R_aload_0 hX dX12_readsTimed_155 ?_
                    refine R_getq (v := 155) hX dX12_readsTimed_156 fl_X12_76 o_136 rfl (by omega) ?_
                    refine R_aload_0 hX dX12_readsTimed_159 ?_
                    refine R_geti hX dX12_readsTimed_160 fl_X12_205 o_136 rfl ?_
                    try simp (disch := omega) only [up_i, up_k, up_s]
                    refine R_iload_2 hX dX12_readsTimed_163 ?_
                    refine R_iast hX dX12_readsTimed_164 a_155 ⟨by omega, by omega⟩ ?_
                    refine R_aload_0 hX dX12_readsTimed_165 ?_
                    refine R_getq (v := 156) hX dX12_readsTimed_166 fl_X12_79 o_136 rfl (by omega) ?_
                    refine R_aload_0 hX dX12_readsTimed_169 ?_
                    refine R_geti hX dX12_readsTimed_170 fl_X12_205 o_136 rfl ?_
                    try simp (disch := omega) only [up_i, up_k, up_s]
                    refine R_iload_3 hX dX12_readsTimed_173 ?_
                    refine R_iast hX dX12_readsTimed_174 a_156 ⟨by omega, by omega⟩ ?_
                    refine R_aload_0 hX dX12_readsTimed_175 ?_
                    refine R_getq (v := 157) hX dX12_readsTimed_176 fl_X12_82 o_136 rfl (by omega) ?_
                    refine R_aload_0 hX dX12_readsTimed_179 ?_
                    refine R_geti hX dX12_readsTimed_180 fl_X12_205 o_136 rfl ?_
                    try simp (disch := omega) only [up_i, up_k, up_s]
                    refine R_iload_4 hX dX12_readsTimed_183 ?_
                    refine R_iast hX dX12_readsTimed_185 a_157 ⟨by omega, by omega⟩ ?_
                    refine R_aload_0 hX dX12_readsTimed_186 ?_
                    refine R_dup hX c1_r dX12_readsTimed_187 ?_
                    refine R_geti hX dX12_readsTimed_188 fl_X12_205 o_136 rfl ?_
                    try simp (disch := omega) only [up_i, up_k, up_s]
                    refine R_iconst hX dX12_readsTimed_191 ?_
                    refine R_iadd hX dX12_readsTimed_192 ?_
                    refine R_puti hX dX12_readsTimed_193 fl_X12_205 o_136 rfl ?_
                    exact R_vret hX dX12_readsTimed_196 (by unfold tmS tmP; rw [if_pos hg0])
                  · skip
                    exact R_vret hX dX12_readsTimed_144 (by unfold tmS; rw [if_neg (by omega)])
                · skip
                  refine R_sipush hX dX12_readsTimed_124 (by decide) ?_
                  refine R_goto (tgt := 132) hX dX12_readsTimed_127 (by decide) ?_
                  refine R_v2i hX dX12_readsTimed_132 li_X12_195 mk_X12_readsNumber mi_X12_readsNumber rfl o_136 (r_readsNumber nE.1 (by constructor <;> omega) (by constructor <;> omega)) ⟨⟨by decide, by decide⟩, by decide, by decide, rfl, Nat.le_of_ble_eq_true rfl, rfl⟩ (fun x_132 F_132 h_132 => ?_)
                  obtain ⟨hx, hF⟩ := h_132
                  subst hx
                  subst hF
                  refine R.eq rfl rfl (show _ = tmG F by unfold tmG; first | (rw [if_pos (by omega), if_neg (by omega), if_neg (by omega)]; done) | (rw [if_neg (by omega), if_pos (by omega)]; done) | (rw [if_neg (by omega), if_neg (by omega), if_pos (by omega)]; done) | (rw [if_neg (by omega), if_neg (by omega), if_neg (by omega)]; done) | (exfalso; omega)) ?_
                  refine R_istore_4 hX c1_i dX12_readsTimed_135 ?_
                  refine R_aload_0 hX dX12_readsTimed_137 ?_
                  refine R_v0i hX dX12_readsTimed_138 li_X12_112 mk_X12_isGood mi_X12_isGood rfl o_136 (r_isGood (by have z := nG.1.2.1; constructor <;> omega)) ⟨⟨by decide, by decide⟩, by decide, by decide, rfl, Nat.le_of_ble_eq_true rfl, rfl⟩ (fun x_138 F_138 h_138 => ?_)
                  obtain ⟨h_138, e_138⟩ := h_138; replace e_138 := e_138.symm; subst e_138
                  refine R_ifne (tgt := 145) hX dX12_readsTimed_141 (by decide) (by constructor <;> first | omega | (simp (disch := omega) only [up_k, up_i, up_s]; omega)) (fun c_141 => ?_) (fun c_141 => ?_)
                  · skip
                    have hg0 : tmG F 136 19 = 0 := by omega
                    have h12 := tm_39 h ha hg0
                    have e39 : tmG F 136 39 = F 136 39 := nG.2.2.2.2.1
                    have b39 := nG.1.2.2.2.2.2.2.1
                    refine R_aload_0 hX dX12_readsTimed_145 ?_
                    refine R_getq (v := 154) hX dX12_readsTimed_146 fl_X12_73 o_136 rfl (by omega) ?_
                    refine R_aload_0 hX dX12_readsTimed_149 ?_
                    refine R_geti hX dX12_readsTimed_150 fl_X12_205 o_136 rfl ?_
                    try simp (disch := omega) only [up_i, up_k, up_s]
                    refine R_iload_1 hX dX12_readsTimed_153 ?_
                    refine R_iast hX dX12_readsTimed_154 a_154 ⟨by omega, by omega⟩ ?_
                    refine R_aload_0 hX dX12_readsTimed_155 ?_
                    refine R_getq (v := 155) hX dX12_readsTimed_156 fl_X12_76 o_136 rfl (by omega) ?_
                    refine R_aload_0 hX dX12_readsTimed_159 ?_
                    refine R_geti hX dX12_readsTimed_160 fl_X12_205 o_136 rfl ?_
                    try simp (disch := omega) only [up_i, up_k, up_s]
                    refine R_iload_2 hX dX12_readsTimed_163 ?_
                    refine R_iast hX dX12_readsTimed_164 a_155 ⟨by omega, by omega⟩ ?_
                    refine R_aload_0 hX dX12_readsTimed_165 ?_
                    refine R_getq (v := 156) hX dX12_readsTimed_166 fl_X12_79 o_136 rfl (by omega) ?_
                    refine R_aload_0 hX dX12_readsTimed_169 ?_
                    refine R_geti hX dX12_readsTimed_170 fl_X12_205 o_136 rfl ?_
                    try simp (disch := omega) only [up_i, up_k, up_s]
                    refine R_iload_3 hX dX12_readsTimed_173 ?_
                    refine R_iast hX dX12_readsTimed_174 a_156 ⟨by omega, by omega⟩ ?_
                    refine R_aload_0 hX dX12_readsTimed_175 ?_
                    refine R_getq (v := 157) hX dX12_readsTimed_176 fl_X12_82 o_136 rfl (by omega) ?_
                    refine R_aload_0 hX dX12_readsTimed_179 ?_
                    refine R_geti hX dX12_readsTimed_180 fl_X12_205 o_136 rfl ?_
                    try simp (disch := omega) only [up_i, up_k, up_s]
                    refine R_iload_4 hX dX12_readsTimed_183 ?_
                    refine R_iast hX dX12_readsTimed_185 a_157 ⟨by omega, by omega⟩ ?_
                    refine R_aload_0 hX dX12_readsTimed_186 ?_
                    refine R_dup hX c1_r dX12_readsTimed_187 ?_
                    refine R_geti hX dX12_readsTimed_188 fl_X12_205 o_136 rfl ?_
                    try simp (disch := omega) only [up_i, up_k, up_s]
                    refine R_iconst hX dX12_readsTimed_191 ?_
                    refine R_iadd hX dX12_readsTimed_192 ?_
                    refine R_puti hX dX12_readsTimed_193 fl_X12_205 o_136 rfl ?_
                    exact R_vret hX dX12_readsTimed_196 (by unfold tmS tmP; rw [if_pos hg0])
                  · skip
                    exact R_vret hX dX12_readsTimed_144 (by unfold tmS; rw [if_neg (by omega)])
              · skip
                refine R_bipush hX dX12_readsTimed_114 (by decide) ?_
                refine R_goto (tgt := 132) hX dX12_readsTimed_116 (by decide) ?_
                refine R_v2i hX dX12_readsTimed_132 li_X12_195 mk_X12_readsNumber mi_X12_readsNumber rfl o_136 (r_readsNumber nE.1 (by constructor <;> omega) (by constructor <;> omega)) ⟨⟨by decide, by decide⟩, by decide, by decide, rfl, Nat.le_of_ble_eq_true rfl, rfl⟩ (fun x_132 F_132 h_132 => ?_)
                obtain ⟨hx, hF⟩ := h_132
                subst hx
                subst hF
                refine R.eq rfl rfl (show _ = tmG F by unfold tmG; first | (rw [if_pos (by omega), if_neg (by omega), if_neg (by omega)]; done) | (rw [if_neg (by omega), if_pos (by omega)]; done) | (rw [if_neg (by omega), if_neg (by omega), if_pos (by omega)]; done) | (rw [if_neg (by omega), if_neg (by omega), if_neg (by omega)]; done) | (exfalso; omega)) ?_
                refine R_istore_4 hX c1_i dX12_readsTimed_135 ?_
                refine R_aload_0 hX dX12_readsTimed_137 ?_
                refine R_v0i hX dX12_readsTimed_138 li_X12_112 mk_X12_isGood mi_X12_isGood rfl o_136 (r_isGood (by have z := nG.1.2.1; constructor <;> omega)) ⟨⟨by decide, by decide⟩, by decide, by decide, rfl, Nat.le_of_ble_eq_true rfl, rfl⟩ (fun x_138 F_138 h_138 => ?_)
                obtain ⟨h_138, e_138⟩ := h_138; replace e_138 := e_138.symm; subst e_138
                refine R_ifne (tgt := 145) hX dX12_readsTimed_141 (by decide) (by constructor <;> first | omega | (simp (disch := omega) only [up_k, up_i, up_s]; omega)) (fun c_141 => ?_) (fun c_141 => ?_)
                · skip
                  have hg0 : tmG F 136 19 = 0 := by omega
                  have h12 := tm_39 h ha hg0
                  have e39 : tmG F 136 39 = F 136 39 := nG.2.2.2.2.1
                  have b39 := nG.1.2.2.2.2.2.2.1
                  refine R_aload_0 hX dX12_readsTimed_145 ?_
                  refine R_getq (v := 154) hX dX12_readsTimed_146 fl_X12_73 o_136 rfl (by omega) ?_
                  refine R_aload_0 hX dX12_readsTimed_149 ?_
                  refine R_geti hX dX12_readsTimed_150 fl_X12_205 o_136 rfl ?_
                  try simp (disch := omega) only [up_i, up_k, up_s]
                  refine R_iload_1 hX dX12_readsTimed_153 ?_
                  refine R_iast hX dX12_readsTimed_154 a_154 ⟨by omega, by omega⟩ ?_
                  refine R_aload_0 hX dX12_readsTimed_155 ?_
                  refine R_getq (v := 155) hX dX12_readsTimed_156 fl_X12_76 o_136 rfl (by omega) ?_
                  refine R_aload_0 hX dX12_readsTimed_159 ?_
                  refine R_geti hX dX12_readsTimed_160 fl_X12_205 o_136 rfl ?_
                  try simp (disch := omega) only [up_i, up_k, up_s]
                  refine R_iload_2 hX dX12_readsTimed_163 ?_
                  refine R_iast hX dX12_readsTimed_164 a_155 ⟨by omega, by omega⟩ ?_
                  refine R_aload_0 hX dX12_readsTimed_165 ?_
                  refine R_getq (v := 156) hX dX12_readsTimed_166 fl_X12_79 o_136 rfl (by omega) ?_
                  refine R_aload_0 hX dX12_readsTimed_169 ?_
                  refine R_geti hX dX12_readsTimed_170 fl_X12_205 o_136 rfl ?_
                  try simp (disch := omega) only [up_i, up_k, up_s]
                  refine R_iload_3 hX dX12_readsTimed_173 ?_
                  refine R_iast hX dX12_readsTimed_174 a_156 ⟨by omega, by omega⟩ ?_
                  refine R_aload_0 hX dX12_readsTimed_175 ?_
                  refine R_getq (v := 157) hX dX12_readsTimed_176 fl_X12_82 o_136 rfl (by omega) ?_
                  refine R_aload_0 hX dX12_readsTimed_179 ?_
                  refine R_geti hX dX12_readsTimed_180 fl_X12_205 o_136 rfl ?_
                  try simp (disch := omega) only [up_i, up_k, up_s]
                  refine R_iload_4 hX dX12_readsTimed_183 ?_
                  refine R_iast hX dX12_readsTimed_185 a_157 ⟨by omega, by omega⟩ ?_
                  refine R_aload_0 hX dX12_readsTimed_186 ?_
                  refine R_dup hX c1_r dX12_readsTimed_187 ?_
                  refine R_geti hX dX12_readsTimed_188 fl_X12_205 o_136 rfl ?_
                  try simp (disch := omega) only [up_i, up_k, up_s]
                  refine R_iconst hX dX12_readsTimed_191 ?_
                  refine R_iadd hX dX12_readsTimed_192 ?_
                  refine R_puti hX dX12_readsTimed_193 fl_X12_205 o_136 rfl ?_
                  exact R_vret hX dX12_readsTimed_196 (by unfold tmS tmP; rw [if_pos hg0])
                · skip
                  exact R_vret hX dX12_readsTimed_144 (by unfold tmS; rw [if_neg (by omega)])
            · skip
              refine R_iconst hX dX12_readsTimed_105 ?_
              refine R_goto (tgt := 110) hX dX12_readsTimed_106 (by decide) ?_
              refine R_iload_3 hX dX12_readsTimed_110 ?_
              refine R_ifne (tgt := 119) hX dX12_readsTimed_111 (by decide) (by constructor <;> first | omega | (simp (disch := omega) only [up_k, up_i, up_s]; omega)) (fun c_111 => ?_) (fun c_111 => ?_)
              · skip
                refine R_iload_3 hX dX12_readsTimed_119 ?_
                refine R_iconst hX dX12_readsTimed_120 ?_
                refine R_icmpne (tgt := 130) hX dX12_readsTimed_121 (by decide) (by constructor <;> first | omega | (simp (disch := omega) only [up_k, up_i, up_s]; omega)) (by constructor <;> first | omega | (simp (disch := omega) only [up_k, up_i, up_s]; omega)) (fun c_121 => ?_) (fun c_121 => ?_)
                · skip
                  refine R_bipush hX dX12_readsTimed_130 (by decide) ?_
                  refine R_v2i hX dX12_readsTimed_132 li_X12_195 mk_X12_readsNumber mi_X12_readsNumber rfl o_136 (r_readsNumber nE.1 (by constructor <;> omega) (by constructor <;> omega)) ⟨⟨by decide, by decide⟩, by decide, by decide, rfl, Nat.le_of_ble_eq_true rfl, rfl⟩ (fun x_132 F_132 h_132 => ?_)
                  obtain ⟨hx, hF⟩ := h_132
                  subst hx
                  subst hF
                  refine R.eq rfl rfl (show _ = tmG F by unfold tmG; first | (rw [if_pos (by omega), if_neg (by omega), if_neg (by omega)]; done) | (rw [if_neg (by omega), if_pos (by omega)]; done) | (rw [if_neg (by omega), if_neg (by omega), if_pos (by omega)]; done) | (rw [if_neg (by omega), if_neg (by omega), if_neg (by omega)]; done) | (exfalso; omega)) ?_
                  refine R_istore_4 hX c1_i dX12_readsTimed_135 ?_
                  refine R_aload_0 hX dX12_readsTimed_137 ?_
                  refine R_v0i hX dX12_readsTimed_138 li_X12_112 mk_X12_isGood mi_X12_isGood rfl o_136 (r_isGood (by have z := nG.1.2.1; constructor <;> omega)) ⟨⟨by decide, by decide⟩, by decide, by decide, rfl, Nat.le_of_ble_eq_true rfl, rfl⟩ (fun x_138 F_138 h_138 => ?_)
                  obtain ⟨h_138, e_138⟩ := h_138; replace e_138 := e_138.symm; subst e_138
                  refine R_ifne (tgt := 145) hX dX12_readsTimed_141 (by decide) (by constructor <;> first | omega | (simp (disch := omega) only [up_k, up_i, up_s]; omega)) (fun c_141 => ?_) (fun c_141 => ?_)
                  · skip
                    have hg0 : tmG F 136 19 = 0 := by omega
                    have h12 := tm_39 h ha hg0
                    have e39 : tmG F 136 39 = F 136 39 := nG.2.2.2.2.1
                    have b39 := nG.1.2.2.2.2.2.2.1
                    refine R_aload_0 hX dX12_readsTimed_145 ?_
                    refine R_getq (v := 154) hX dX12_readsTimed_146 fl_X12_73 o_136 rfl (by omega) ?_
                    refine R_aload_0 hX dX12_readsTimed_149 ?_
                    refine R_geti hX dX12_readsTimed_150 fl_X12_205 o_136 rfl ?_
                    try simp (disch := omega) only [up_i, up_k, up_s]
                    refine R_iload_1 hX dX12_readsTimed_153 ?_
                    refine R_iast hX dX12_readsTimed_154 a_154 ⟨by omega, by omega⟩ ?_
                    refine R_aload_0 hX dX12_readsTimed_155 ?_
                    refine R_getq (v := 155) hX dX12_readsTimed_156 fl_X12_76 o_136 rfl (by omega) ?_
                    refine R_aload_0 hX dX12_readsTimed_159 ?_
                    refine R_geti hX dX12_readsTimed_160 fl_X12_205 o_136 rfl ?_
                    try simp (disch := omega) only [up_i, up_k, up_s]
                    refine R_iload_2 hX dX12_readsTimed_163 ?_
                    refine R_iast hX dX12_readsTimed_164 a_155 ⟨by omega, by omega⟩ ?_
                    refine R_aload_0 hX dX12_readsTimed_165 ?_
                    refine R_getq (v := 156) hX dX12_readsTimed_166 fl_X12_79 o_136 rfl (by omega) ?_
                    refine R_aload_0 hX dX12_readsTimed_169 ?_
                    refine R_geti hX dX12_readsTimed_170 fl_X12_205 o_136 rfl ?_
                    try simp (disch := omega) only [up_i, up_k, up_s]
                    refine R_iload_3 hX dX12_readsTimed_173 ?_
                    refine R_iast hX dX12_readsTimed_174 a_156 ⟨by omega, by omega⟩ ?_
                    refine R_aload_0 hX dX12_readsTimed_175 ?_
                    refine R_getq (v := 157) hX dX12_readsTimed_176 fl_X12_82 o_136 rfl (by omega) ?_
                    refine R_aload_0 hX dX12_readsTimed_179 ?_
                    refine R_geti hX dX12_readsTimed_180 fl_X12_205 o_136 rfl ?_
                    try simp (disch := omega) only [up_i, up_k, up_s]
                    refine R_iload_4 hX dX12_readsTimed_183 ?_
                    refine R_iast hX dX12_readsTimed_185 a_157 ⟨by omega, by omega⟩ ?_
                    refine R_aload_0 hX dX12_readsTimed_186 ?_
                    refine R_dup hX c1_r dX12_readsTimed_187 ?_
                    refine R_geti hX dX12_readsTimed_188 fl_X12_205 o_136 rfl ?_
                    try simp (disch := omega) only [up_i, up_k, up_s]
                    refine R_iconst hX dX12_readsTimed_191 ?_
                    refine R_iadd hX dX12_readsTimed_192 ?_
                    refine R_puti hX dX12_readsTimed_193 fl_X12_205 o_136 rfl ?_
                    exact R_vret hX dX12_readsTimed_196 (by unfold tmS tmP; rw [if_pos hg0])
                  · skip
                    exact R_vret hX dX12_readsTimed_144 (by unfold tmS; rw [if_neg (by omega)])
                · skip
                  refine R_sipush hX dX12_readsTimed_124 (by decide) ?_
                  refine R_goto (tgt := 132) hX dX12_readsTimed_127 (by decide) ?_
                  refine R_v2i hX dX12_readsTimed_132 li_X12_195 mk_X12_readsNumber mi_X12_readsNumber rfl o_136 (r_readsNumber nE.1 (by constructor <;> omega) (by constructor <;> omega)) ⟨⟨by decide, by decide⟩, by decide, by decide, rfl, Nat.le_of_ble_eq_true rfl, rfl⟩ (fun x_132 F_132 h_132 => ?_)
                  obtain ⟨hx, hF⟩ := h_132
                  subst hx
                  subst hF
                  refine R.eq rfl rfl (show _ = tmG F by unfold tmG; first | (rw [if_pos (by omega), if_neg (by omega), if_neg (by omega)]; done) | (rw [if_neg (by omega), if_pos (by omega)]; done) | (rw [if_neg (by omega), if_neg (by omega), if_pos (by omega)]; done) | (rw [if_neg (by omega), if_neg (by omega), if_neg (by omega)]; done) | (exfalso; omega)) ?_
                  refine R_istore_4 hX c1_i dX12_readsTimed_135 ?_
                  refine R_aload_0 hX dX12_readsTimed_137 ?_
                  refine R_v0i hX dX12_readsTimed_138 li_X12_112 mk_X12_isGood mi_X12_isGood rfl o_136 (r_isGood (by have z := nG.1.2.1; constructor <;> omega)) ⟨⟨by decide, by decide⟩, by decide, by decide, rfl, Nat.le_of_ble_eq_true rfl, rfl⟩ (fun x_138 F_138 h_138 => ?_)
                  obtain ⟨h_138, e_138⟩ := h_138; replace e_138 := e_138.symm; subst e_138
                  refine R_ifne (tgt := 145) hX dX12_readsTimed_141 (by decide) (by constructor <;> first | omega | (simp (disch := omega) only [up_k, up_i, up_s]; omega)) (fun c_141 => ?_) (fun c_141 => ?_)
                  · skip
                    have hg0 : tmG F 136 19 = 0 := by omega
                    have h12 := tm_39 h ha hg0
                    have e39 : tmG F 136 39 = F 136 39 := nG.2.2.2.2.1
                    have b39 := nG.1.2.2.2.2.2.2.1
                    refine R_aload_0 hX dX12_readsTimed_145 ?_
                    refine R_getq (v := 154) hX dX12_readsTimed_146 fl_X12_73 o_136 rfl (by omega) ?_
                    refine R_aload_0 hX dX12_readsTimed_149 ?_
                    refine R_geti hX dX12_readsTimed_150 fl_X12_205 o_136 rfl ?_
                    try simp (disch := omega) only [up_i, up_k, up_s]
                    refine R_iload_1 hX dX12_readsTimed_153 ?_
                    refine R_iast hX dX12_readsTimed_154 a_154 ⟨by omega, by omega⟩ ?_
                    refine R_aload_0 hX dX12_readsTimed_155 ?_
                    refine R_getq (v := 155) hX dX12_readsTimed_156 fl_X12_76 o_136 rfl (by omega) ?_
                    refine R_aload_0 hX dX12_readsTimed_159 ?_
                    refine R_geti hX dX12_readsTimed_160 fl_X12_205 o_136 rfl ?_
                    try simp (disch := omega) only [up_i, up_k, up_s]
                    refine R_iload_2 hX dX12_readsTimed_163 ?_
                    refine R_iast hX dX12_readsTimed_164 a_155 ⟨by omega, by omega⟩ ?_
                    refine R_aload_0 hX dX12_readsTimed_165 ?_
                    refine R_getq (v := 156) hX dX12_readsTimed_166 fl_X12_79 o_136 rfl (by omega) ?_
                    refine R_aload_0 hX dX12_readsTimed_169 ?_
                    refine R_geti hX dX12_readsTimed_170 fl_X12_205 o_136 rfl ?_
                    try simp (disch := omega) only [up_i, up_k, up_s]
                    refine R_iload_3 hX dX12_readsTimed_173 ?_
                    refine R_iast hX dX12_readsTimed_174 a_156 ⟨by omega, by omega⟩ ?_
                    refine R_aload_0 hX dX12_readsTimed_175 ?_
                    refine R_getq (v := 157) hX dX12_readsTimed_176 fl_X12_82 o_136 rfl (by omega) ?_
                    refine R_aload_0 hX dX12_readsTimed_179 ?_
                    refine R_geti hX dX12_readsTimed_180 fl_X12_205 o_136 rfl ?_
                    try simp (disch := omega) only [up_i, up_k, up_s]
                    refine R_iload_4 hX dX12_readsTimed_183 ?_
                    refine R_iast hX dX12_readsTimed_185 a_157 ⟨by omega, by omega⟩ ?_
                    refine R_aload_0 hX dX12_readsTimed_186 ?_
                    refine R_dup hX c1_r dX12_readsTimed_187 ?_
                    refine R_geti hX dX12_readsTimed_188 fl_X12_205 o_136 rfl ?_
                    try simp (disch := omega) only [up_i, up_k, up_s]
                    refine R_iconst hX dX12_readsTimed_191 ?_
                    refine R_iadd hX dX12_readsTimed_192 ?_
                    refine R_puti hX dX12_readsTimed_193 fl_X12_205 o_136 rfl ?_
                    exact R_vret hX dX12_readsTimed_196 (by unfold tmS tmP; rw [if_pos hg0])
                  · skip
                    exact R_vret hX dX12_readsTimed_144 (by unfold tmS; rw [if_neg (by omega)])
              · skip
                refine R_bipush hX dX12_readsTimed_114 (by decide) ?_
                refine R_goto (tgt := 132) hX dX12_readsTimed_116 (by decide) ?_
                refine R_v2i hX dX12_readsTimed_132 li_X12_195 mk_X12_readsNumber mi_X12_readsNumber rfl o_136 (r_readsNumber nE.1 (by constructor <;> omega) (by constructor <;> omega)) ⟨⟨by decide, by decide⟩, by decide, by decide, rfl, Nat.le_of_ble_eq_true rfl, rfl⟩ (fun x_132 F_132 h_132 => ?_)
                obtain ⟨hx, hF⟩ := h_132
                subst hx
                subst hF
                refine R.eq rfl rfl (show _ = tmG F by unfold tmG; first | (rw [if_pos (by omega), if_neg (by omega), if_neg (by omega)]; done) | (rw [if_neg (by omega), if_pos (by omega)]; done) | (rw [if_neg (by omega), if_neg (by omega), if_pos (by omega)]; done) | (rw [if_neg (by omega), if_neg (by omega), if_neg (by omega)]; done) | (exfalso; omega)) ?_
                refine R_istore_4 hX c1_i dX12_readsTimed_135 ?_
                refine R_aload_0 hX dX12_readsTimed_137 ?_
                refine R_v0i hX dX12_readsTimed_138 li_X12_112 mk_X12_isGood mi_X12_isGood rfl o_136 (r_isGood (by have z := nG.1.2.1; constructor <;> omega)) ⟨⟨by decide, by decide⟩, by decide, by decide, rfl, Nat.le_of_ble_eq_true rfl, rfl⟩ (fun x_138 F_138 h_138 => ?_)
                obtain ⟨h_138, e_138⟩ := h_138; replace e_138 := e_138.symm; subst e_138
                refine R_ifne (tgt := 145) hX dX12_readsTimed_141 (by decide) (by constructor <;> first | omega | (simp (disch := omega) only [up_k, up_i, up_s]; omega)) (fun c_141 => ?_) (fun c_141 => ?_)
                · skip
                  have hg0 : tmG F 136 19 = 0 := by omega
                  have h12 := tm_39 h ha hg0
                  have e39 : tmG F 136 39 = F 136 39 := nG.2.2.2.2.1
                  have b39 := nG.1.2.2.2.2.2.2.1
                  refine R_aload_0 hX dX12_readsTimed_145 ?_
                  refine R_getq (v := 154) hX dX12_readsTimed_146 fl_X12_73 o_136 rfl (by omega) ?_
                  refine R_aload_0 hX dX12_readsTimed_149 ?_
                  refine R_geti hX dX12_readsTimed_150 fl_X12_205 o_136 rfl ?_
                  try simp (disch := omega) only [up_i, up_k, up_s]
                  refine R_iload_1 hX dX12_readsTimed_153 ?_
                  refine R_iast hX dX12_readsTimed_154 a_154 ⟨by omega, by omega⟩ ?_
                  refine R_aload_0 hX dX12_readsTimed_155 ?_
                  refine R_getq (v := 155) hX dX12_readsTimed_156 fl_X12_76 o_136 rfl (by omega) ?_
                  refine R_aload_0 hX dX12_readsTimed_159 ?_
                  refine R_geti hX dX12_readsTimed_160 fl_X12_205 o_136 rfl ?_
                  try simp (disch := omega) only [up_i, up_k, up_s]
                  refine R_iload_2 hX dX12_readsTimed_163 ?_
                  refine R_iast hX dX12_readsTimed_164 a_155 ⟨by omega, by omega⟩ ?_
                  refine R_aload_0 hX dX12_readsTimed_165 ?_
                  refine R_getq (v := 156) hX dX12_readsTimed_166 fl_X12_79 o_136 rfl (by omega) ?_
                  refine R_aload_0 hX dX12_readsTimed_169 ?_
                  refine R_geti hX dX12_readsTimed_170 fl_X12_205 o_136 rfl ?_
                  try simp (disch := omega) only [up_i, up_k, up_s]
                  refine R_iload_3 hX dX12_readsTimed_173 ?_
                  refine R_iast hX dX12_readsTimed_174 a_156 ⟨by omega, by omega⟩ ?_
                  refine R_aload_0 hX dX12_readsTimed_175 ?_
                  refine R_getq (v := 157) hX dX12_readsTimed_176 fl_X12_82 o_136 rfl (by omega) ?_
                  refine R_aload_0 hX dX12_readsTimed_179 ?_
                  refine R_geti hX dX12_readsTimed_180 fl_X12_205 o_136 rfl ?_
                  try simp (disch := omega) only [up_i, up_k, up_s]
                  refine R_iload_4 hX dX12_readsTimed_183 ?_
                  refine R_iast hX dX12_readsTimed_185 a_157 ⟨by omega, by omega⟩ ?_
                  refine R_aload_0 hX dX12_readsTimed_186 ?_
                  refine R_dup hX c1_r dX12_readsTimed_187 ?_
                  refine R_geti hX dX12_readsTimed_188 fl_X12_205 o_136 rfl ?_
                  try simp (disch := omega) only [up_i, up_k, up_s]
                  refine R_iconst hX dX12_readsTimed_191 ?_
                  refine R_iadd hX dX12_readsTimed_192 ?_
                  refine R_puti hX dX12_readsTimed_193 fl_X12_205 o_136 rfl ?_
                  exact R_vret hX dX12_readsTimed_196 (by unfold tmS tmP; rw [if_pos hg0])
                · skip
                  exact R_vret hX dX12_readsTimed_144 (by unfold tmS; rw [if_neg (by omega)])
