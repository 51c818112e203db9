/-- the spec heap D stands for the reference's heap G, which came from F -/
def Tv (F D G : Hp) : Prop := AgS 1000 1100 D 1000 (vw 0 G) ∧ (∀ a : Int, 1100 ≤ a → D a = vw 0 F a) ∧ Fr F G
theorem Fr.su {F G : Hp} (h : Fr F G) {a : Int} (ha : 1100 ≤ a) : vw 0 G a = vw 0 F a := by
  funext i
  rw [vw_su ha, vw_su ha]
  unfold sv
  rw [h.1 136 (by decide), h.1 139 (by decide), h.1 141 (by decide), h.1 142 (by decide), h.1 143 (by decide), h.1 144 (by decide), h.1 145 (by decide), h.1 150 (by decide), h.1 151 (by decide), h.1 152 (by decide), h.1 153 (by decide)]
theorem Tv.rf {F : Hp} : Tv F (vw 0 F) F := ⟨AgS.rf, fun _ _ => rfl, Fr.rf⟩
theorem Tv.of {F G : Hp} (h : Fr F G) : Tv F (vw 0 G) G := ⟨AgS.rf, fun _ z => h.su z, h⟩
theorem Tv.U {F D G : Hp} (h : Tv F D G) : AgU 1100 D 1100 (vw 0 G) := AgU.rf.fr (fun a z1 z2 => h.2.1 a z1) (fun a z1 z2 => h.2.2.su z1)
theorem Tv.ri {K : Int} {F D G : Hp} (h : Tv F D G) (hR : RI K F) (hD : StA 1000 1100 K D) : RI K G := by
  refine StA.ag hD h.U ?_ h.1
  have := hR.1
  unfold SuI at this ⊢
  rw [h.2.2.su (a := 1100) (by decide), h.2.2.su (a := 1100 + 2) (by decide), h.2.2.su (a := 1100 + 3) (by decide), h.2.2.su (a := 1100 + 4) (by decide), h.2.2.su (a := 1100 + 5) (by decide), h.2.2.su (a := 1100 + 6) (by decide), h.2.2.su (a := 1100 + 7) (by decide), h.2.2.su (a := 1100 + 8) (by decide), h.2.2.su (a := 1100 + 9) (by decide), h.2.2.su (a := 1100 + 10) (by decide), h.2.2.su (a := 1100 + 11) (by decide), h.2.2.su (a := 1100 + 12) (by decide), h.2.2.su (a := 1100 + 13) (by decide), h.2.2.su (a := 1100 + 14) (by decide), h.2.2.su (a := 1100 + 15) (by decide), h.2.2.su (a := 1100 + 16) (by decide)]
  exact this
theorem Tv.N {F D G : Hp} (h : Tv F D G) : D 1100 0 = F 136 3 := by rw [h.2.1 1100 (by decide)]; exact vw_1100_0
theorem Tv.l9 {F D G : Hp} (h : Tv F D G) {l : Int} (hN : F 136 3 ≤ 12) (hl : 0 ≤ l ∧ l < F 136 3) : D 1009 l = G 137 (135 + l) := by
  have := (h.1.2.2.2.1 l hl.1 (by rw [h.N]; exact hl.2)).2.2.2.2.2.2
  rw [show (1000 : Int) + 9 = 1009 from rfl, vw_9 (by omega)] at this
  exact this
theorem Tv.sh {K l : Int} {F D G : Hp} (h : Tv F D G) (hR : RI K F) (hD : StA 1000 1100 K D) (hl : 0 ≤ l ∧ l < F 136 3) (hq : 1 ≤ D 1009 l) : Tv F (rmS 1000 l D) (shR l G) := by
  have hN := ri_N hR
  have hG := h.ri hR hD
  have e9 := h.l9 hN.2 hl
  have b9 := hD.2.2.1.2.1 l hl.1 (by rw [h.N]; exact hl.2)
  have g3 : G 136 3 = F 136 3 := by rw [h.2.2.1 136 (by decide)]
  rw [show (1000 : Int) + 9 = 1009 from rfl] at b9
  refine ⟨(Ag.rm (l := l) dj1 h.1 (fun n h0 h1 => (hD.2.2.1.2.1 n h0 h1).1)).tr ?_ (ag_sh hG (by omega) (by omega)), fun a z => by rw [rmS_r (by omega)]; exact h.2.1 a z, h.2.2.sh (by omega) (by omega)⟩
  · rw [rmS_r (by omega), rmS_r (by omega), h.2.1 1100 (by decide), h.2.2.su (by decide)]
theorem Tv.dr {l : Int} {F D G : Hp} (h : Tv F D G) (hN : F 136 3 ≤ 12) (hl : 0 ≤ l ∧ l < F 136 3) : Tv F (up D 1018 l (D 1018 l + 1)) (up G 137 (87 + l) (G 137 (87 + l) + 1)) := by
  refine ⟨?_, fun a z => by rw [up_r (by omega)]; exact h.2.1 a z, h.2.2.up (by omega)⟩
  have := Ag.dr (l := l) dj1 h.1 (by rw [h.N]; exact hl)
  rw [show (1000 : Int) + 18 = 1018 from rfl, vw_18 (by omega)] at this
  rw [vu_18 (by omega)]
  exact this
theorem Tv.sn {K l f c : Int} {F D G H : Hp} (h : Tv F D G) (hR : RI K F) (hD : StA 1000 1100 K D) (hl : l < F 136 3) (hf : 0 ≤ f ∧ f < F 136 3) (hv : vw 0 H = sndS 1000 1100 l f c (vw 0 G)) (hF : Fr G H) : Tv F (sndS 1000 1100 l f c D) H := by
  refine ⟨?_, fun a z => by rw [sndS_r (by omega)]; exact h.2.1 a z, h.2.2.tr hF⟩
  rw [hv]
  exact Ag.snd dj1 dj1 h.U h.1 hD.1.2.1 hD.2.2.2.1.1 (by rw [h.N]; exact hl) (by rw [h.N]; exact hf)
theorem Tv.old {l age : Int} {F D G : Hp} (h : Tv F D G) (hN : F 136 3 ≤ 12) (hl : 0 ≤ l ∧ l < F 136 3) : oldF 1000 l age D = true ↔ (0 < G 137 (135 + l) ∧ age < G 137 0 - G 137 (147 + 3 * (l * 16 + 0) + 2)) := by
  rw [Ag.old h.1 (by rw [h.N]; exact hl)]
  unfold oldF
  rw [decide_eq_true_iff, show (1000 : Int) + 9 = 1009 from rfl, vw_9 (by omega), vw_t, show (1000 : Int) + 12 = 1012 from rfl, vw_q2 (by omega), Int.add_zero]
set_option maxRecDepth 100000 in
set_option maxHeartbeats 4000000 in
theorem r_drops {V : VX} {F : Hp} {K : Int} (h : RI K F)  : Ct V yX12_drops cX12_drops 2 none 2 44 0 0 SH [vr V 136] F SH 0 (fun r F' => Tv F (drpA 1000 1100 (vw 0 F)) F') := by
  refine Ct.of [some (vr V 136), none] (by decide) (by simp [lg_sl, vi_cat, vl_cat, vr_cat]) rfl (by simp [asc, lv_args, vi_cat, vl_cat, vr_cat]) (fun X hV hX => ?_)
  subst hV
  have hN := ri_N h
  have hT := ri_T h
  have hL := ri_L h
  have hN0 : vw 0 F 1100 0 = F 136 3 := vw_1100_0
  have hA0 : ∀ q : F 136 5 ≠ -1, drpA 1000 1100 (vw 0 F) = drpS 1000 1100 (F 136 3).toNat (vw 0 F) := fun q => by unfold drpA; rw [vw_1100_14, if_neg q, hN0]
  have hA1 : F 136 5 = -1 → drpA 1000 1100 (vw 0 F) = vw 0 F := fun q => by unfold drpA; rw [vw_1100_14, if_pos q]
  refine R_iconst hX dX12_drops_0 ?_
  refine R_istore_1 hX c1_r dX12_drops_1 ?_
  have lp_2 : ∀ (n : Nat) (x : Int) (G : Hp), (0 ≤ x ∧ x ≤ F 136 3 ∧ (F 136 5 = -1 → x = 0)) → (Tv F (drpS 1000 1100 x.toNat (vw 0 F)) G) → (13 - x).toNat < n → R X SH 0 0 2 [some (vr (xV X) 136), some (vi x)] [] G (Zq X SH 0 (fun r F' => Tv F (drpA 1000 1100 (vw 0 F)) F') 0 0) := by
    intro n
    induction n with
    | zero => intro x G iv2_0 iv2_1 hm; exact absurd hm (Nat.not_lt_zero _)
    | succ n ih_2 =>
      intro x G iv2_0 iv2_1 hm_2
      have g3 : G 136 3 = F 136 3 := by rw [iv2_1.2.2.1 136 (by decide)]
      have g5 : G 136 5 = F 136 5 := by rw [iv2_1.2.2.1 136 (by decide)]
      refine R_iload_1 hX dX12_drops_2 ?_
      refine R_aload_0 hX dX12_drops_3 ?_
      refine R_geti hX dX12_drops_4 fl_X12_91 o_136 rfl ?_
      refine R_icmpge (tgt := 83) hX dX12_drops_7 (by decide) ⟨by omega, by omega⟩ ⟨by omega, by omega⟩ (fun c_7 => ?_) (fun c_7 => ?_)
      · skip
        exact R_vret hX dX12_drops_83 (by by_cases q : F 136 5 = -1; (rw [hA1 q]; have e : x = 0 := (by omega); subst e; exact iv2_1); (rw [hA0 q]; exact (show F 136 3 = x by omega) ▸ iv2_1))
      · skip
        refine R_aload_0 hX dX12_drops_10 ?_
        refine R_geti hX dX12_drops_11 fl_X12_21 o_136 rfl ?_
        rw [g5]
        refine R_iflt (tgt := 83) hX dX12_drops_14 (by decide) ⟨by omega, by omega⟩ (fun c_14 => ?_) (fun c_14 => ?_)
        · skip
          exact R_vret hX dX12_drops_83 (by by_cases q : F 136 5 = -1; (rw [hA1 q]; have e : x = 0 := (by omega); subst e; exact iv2_1); (rw [hA0 q]; exact (show F 136 3 = x by omega) ▸ iv2_1))
        · skip
          have lp_17 : ∀ (n : Nat) (k : Nat) (D : Hp) (H : Hp), (D 1009 x ≤ k) → (drp1 1000 1100 x k D = drp1 1000 1100 x 16 (drpS 1000 1100 x.toNat (vw 0 F))) → (Tv F D H) → (StA 1000 1100 K D) → (D 1000 1 = F 137 0) → k < n → R X SH 0 0 17 [some (vr (xV X) 136), some (vi x)] [] H (Zq X SH 0 (fun r F' => Tv F (drpA 1000 1100 (vw 0 F)) F') 0 0) := by
            intro n
            induction n with
            | zero => intro k D H iv17_0 iv17_1 iv17_2 iv17_3 iv17_4 hm; exact absurd hm (Nat.not_lt_zero _)
            | succ n ih_17 =>
              intro k D H iv17_0 iv17_1 iv17_2 iv17_3 iv17_4 hm_17
              have hH := iv17_2.ri h iv17_3
              have q3 : H 136 3 = F 136 3 := by rw [iv17_2.2.2.1 136 (by decide)]
              have q5 : H 136 5 = F 136 5 := by rw [iv17_2.2.2.1 136 (by decide)]
              have hl9 := iv17_2.l9 hN.2 (l := x) (by omega)
              have hQ := ri_Q hH
              have hQx := hQ.2.1 x (by omega) (by omega)
              have hQe := hQ.2.2 x (by omega) (by omega)
              have h0 : H 137 0 = F 137 0 := by have := iv17_2.1.1; rw [iv17_4] at this; exact this.symm
              refine R_aload_0 hX dX12_drops_17 ?_
              refine R_getq (v := 137) hX dX12_drops_18 fl_X12_7 o_136 rfl (by omega) ?_
              refine R_sipush hX dX12_drops_21 (by decide) ?_
              refine R_iload_1 hX dX12_drops_24 ?_
              refine R_iadd hX dX12_drops_25 ?_
              refine R_iald hX dX12_drops_26 a_137 ⟨by omega, by omega⟩ ?_
              refine R_ifle (tgt := 77) hX dX12_drops_27 (by decide) ⟨by omega, by omega⟩ (fun c_27 => ?_) (fun c_27 => ?_)
              · skip
                have hno : ¬ oldF 1000 x (F 136 5) D = true := fun z => by have := (iv17_2.old (age := F 136 5) hN.2 (l := x) (by omega)).mp z; omega
                refine R_iinc_1 hX c1_r dX12_drops_77 ?_
                refine R_goto (tgt := 2) hX dX12_drops_80 (by decide) ?_
                exact ih_2 (x + 1) _ (by omega) (by rw [drpS_s (by omega), ← iv17_1, drp1_stop (by rw [iv17_2.2.1 1100 (by decide), vw_1100_14]; exact hno)]; exact iv17_2) (by omega)
              · skip
                have hq0 := hQe 0 (by omega) (by omega)
                refine R_aload_0 hX dX12_drops_30 ?_
                refine R_getq (v := 137) hX dX12_drops_31 fl_X12_7 o_136 rfl (by omega) ?_
                refine R_iconst hX dX12_drops_34 ?_
                refine R_iald hX dX12_drops_35 a_137 ⟨by omega, by omega⟩ ?_
                refine R_aload_0 hX dX12_drops_36 ?_
                refine R_getq (v := 137) hX dX12_drops_37 fl_X12_7 o_136 rfl (by omega) ?_
                refine R_iload_1 hX dX12_drops_40 ?_
                refine R_iconst hX dX12_drops_41 ?_
                refine R_s2i hX dX12_drops_42 li_X12_272 mk_X12_place ms_X12_place (r_place) ⟨⟨by decide, by decide⟩, by decide, by decide, rfl, Nat.le_of_ble_eq_true rfl, rfl⟩ (fun x_42 F_42 h_42 => ?_)
                obtain ⟨h_42, e_42⟩ := h_42; replace e_42 := e_42.symm; subst e_42
                rw [h_42]
                refine R_iconst hX dX12_drops_45 ?_
                refine R_iadd hX dX12_drops_46 ?_
                refine R_iald hX dX12_drops_47 a_137 ⟨by omega, by omega⟩ ?_
                refine R_isub hX dX12_drops_48 ?_
                refine R_aload_0 hX dX12_drops_49 ?_
                refine R_geti hX dX12_drops_50 fl_X12_21 o_136 rfl ?_
                refine R_icmple (tgt := 77) hX dX12_drops_53 (by decide) ⟨by omega, by omega⟩ ⟨by omega, by omega⟩ (fun c_53 => ?_) (fun c_53 => ?_)
                · skip
                  have hno : ¬ oldF 1000 x (F 136 5) D = true := fun z => by have := (iv17_2.old (age := F 136 5) hN.2 (l := x) (by omega)).mp z; omega
                  refine R_iinc_1 hX c1_r dX12_drops_77 ?_
                  refine R_goto (tgt := 2) hX dX12_drops_80 (by decide) ?_
                  exact ih_2 (x + 1) _ (by omega) (by rw [drpS_s (by omega), ← iv17_1, drp1_stop (by rw [iv17_2.2.1 1100 (by decide), vw_1100_14]; exact hno)]; exact iv17_2) (by omega)
                · skip
                  have e14 : D 1100 14 = F 136 5 := by rw [iv17_2.2.1 1100 (by decide), vw_1100_14]
                  have hyes := (iv17_2.old (age := F 136 5) hN.2 (l := x) (by omega)).mpr (by omega)
                  have hb9 : up (rmS 1000 x D) 1018 x (D 1018 x + 1) 1009 x ≤ ((k - 1 : Nat) : Int) := by have e := rmS_9 (b := 1000) (leaf := x) (n := x) (F := D); rw [if_pos rfl, show (1000 : Int) + 9 = 1009 from rfl] at e; rw [up_k (by decide), e]; omega
                  refine R_aload_0 hX dX12_drops_56 ?_
                  refine R_iload_1 hX dX12_drops_57 ?_
                  refine R_v1v hX dX12_drops_58 li_X12_292 mk_X12_shifts mi_X12_shifts rfl o_136 (r_shifts (by omega) (by omega)) ⟨⟨by decide, by decide⟩, by decide, by decide, rfl, Nat.le_of_ble_eq_true rfl, rfl⟩ (fun x_58 F_58 h_58 => ?_)
                  subst h_58
                  refine R_aload_0 hX dX12_drops_61 ?_
                  refine R_getq (v := 137) hX dX12_drops_62 fl_X12_7 o_136 rfl (by omega) ?_
                  refine R_bipush hX dX12_drops_65 (by decide) ?_
                  refine R_iload_1 hX dX12_drops_67 ?_
                  refine R_iadd hX dX12_drops_68 ?_
                  refine R_dup2 hX c1_i c1_r dX12_drops_69 ?_
                  refine R_iald hX dX12_drops_70 a_137 ⟨by omega, by omega⟩ ?_
                  refine R_iconst hX dX12_drops_71 ?_
                  refine R_iadd hX dX12_drops_72 ?_
                  refine R_iast hX dX12_drops_73 a_137 ⟨by omega, by omega⟩ ?_
                  refine R_goto (tgt := 17) hX dX12_drops_74 (by decide) ?_
                  exact ih_17 (k - 1) _ _ hb9 (by rw [← iv17_1]; exact (drp1_go (by omega) (by rw [e14]; exact hyes)).symm) ((iv17_2.sh h iv17_3 (by omega) (by omega)).dr hN.2 (by omega)) (StA.dr1 dj1 iv17_3 (by rw [iv17_2.N]; omega) (show 1 ≤ D 1009 x by omega)) (by rw [up_r (by omega), rmS_r (by omega)]; exact iv17_4) (by omega)
          exact lp_17 20 16 _ _ (by have := (StA.pdrpS dj1 h x.toNat (by rw [hN0]; omega)).2.2.1.2.1 x (by omega) (by rw [drpS_r (by omega), hN0]; omega); exact this.1.2) rfl iv2_1 (StA.pdrpS dj1 h x.toNat (by rw [hN0]; omega)) (by rw [drpS_r (by omega)]; rfl) (by omega)
  exact lp_2 14 0 _ (by omega) Tv.rf (by omega)
