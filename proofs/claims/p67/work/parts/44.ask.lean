theorem StA.mono {b u K K' : Int} {F : Hp} (h : StA b u K F) (hk : K ≤ K') : StA b u K' F := ⟨h.1, h.2.1, h.2.2.1, h.2.2.2.1, fun n h0 h1 => by have := h.2.2.2.2 n h0 h1; omega⟩
/-- a copied state -/
theorem cpT_r {e b a : Int} {F : Hp} (h : a < b ∨ b + 23 < a) : cpT e b F a = F a := by
  unfold cpT loT coT quT acT
  simp (disch := omega) only [up_r, cpy_r]
theorem cpT_f {e b : Int} {F : Hp} (hbe : b + 24 ≤ e ∨ e + 24 ≤ b) : cpT e b F b 1 = F e 1 ∧ cpT e b F b 0 = F b 0 ∧ cpT e b F (b + 8) 4 = F (e + 8) 4 ∧ cpT e b F (b + 19) 0 = F (e + 19) 0 ∧
    (∀ i : Int, 0 ≤ i → i < 12 → cpT e b F (b + 1) i = F (e + 1) i ∧ cpT e b F (b + 2) i = F (e + 2) i ∧ cpT e b F (b + 3) i = F (e + 3) i ∧ cpT e b F (b + 5) i = F (e + 5) i ∧ cpT e b F (b + 6) i = F (e + 6) i ∧ cpT e b F (b + 7) i = F (e + 7) i ∧ cpT e b F (b + 9) i = F (e + 9) i) ∧
    (∀ i : Int, 0 ≤ i → i < 12 → cpT e b F (b + 14) i = F (e + 14) i ∧ cpT e b F (b + 15) i = F (e + 15) i ∧ cpT e b F (b + 16) i = F (e + 16) i ∧ cpT e b F (b + 17) i = F (e + 17) i ∧ cpT e b F (b + 18) i = F (e + 18) i) ∧
    (∀ i : Int, 0 ≤ i → i < 192 → cpT e b F (b + 10) i = F (e + 10) i ∧ cpT e b F (b + 11) i = F (e + 11) i ∧ cpT e b F (b + 12) i = F (e + 12) i) ∧
    (∀ i : Int, 0 ≤ i → i < 24 → cpT e b F (b + 20) i = F (e + 20) i ∧ cpT e b F (b + 21) i = F (e + 21) i ∧ cpT e b F (b + 22) i = F (e + 22) i ∧ cpT e b F (b + 23) i = F (e + 23) i) := by
  unfold cpT loT coT quT acT
  refine ⟨?_, ?_, ?_, ?_, fun i h0 h1 => ?_, fun i h0 h1 => ?_, fun i h0 h1 => ?_, fun i h0 h1 => ?_⟩ <;> simp (disch := omega) only [up_k, up_i, up_s, cpy_k, cpy_in, Int.zero_add, Int.sub_zero, and_self]
theorem StA.cp {e b u K : Int} {F : Hp} (hbe : b + 24 ≤ e ∨ e + 24 ≤ b) (hd : dj b u) (h : StA e u K F) : StA b u K (cpT e b F) := by
  obtain ⟨h1, h2, h3, h4, h5⟩ := h
  obtain ⟨f1, f0, f8, f19, fA, fC, fQ, fL⟩ := cpT_f (F := F) hbe
  have er : ∀ a : Int, u ≤ a → a < u + 17 → cpT e b F a = F a := fun a z1 z2 => cpT_r (by unfold dj at hd; omega)
  have hN := h1.1
  refine ⟨h1.fr er, ?_, ?_, ?_, ?_⟩
  · intro n q0 q1
    rw [er u (by omega) (by omega)] at q1
    obtain ⟨a1, a2, a3, a5, a6, a7, -⟩ := fA n q0 (by omega)
    rw [er (u + 7) (by omega) (by omega), er (u + 8) (by omega) (by omega), a1, a2, a3, a5, a6, a7]
    exact h2 n q0 q1
  · unfold QuI
    rw [er u (by omega) (by omega), er (u + 4) (by omega) (by omega), f1]
    refine ⟨h3.1, fun n q0 q1 => ?_, fun n q0 q1 k k0 k1 => ?_⟩
    · rw [(fA n q0 (by omega)).2.2.2.2.2.2]; exact h3.2.1 n q0 q1
    · rw [(fA n q0 (by omega)).2.2.2.2.2.2] at k1
      have := h3.2.1 n q0 q1
      obtain ⟨-, g1, g2⟩ := fQ (n * 16 + k) (by omega) (by omega)
      rw [g1, g2]
      exact h3.2.2 n q0 q1 k k0 k1
  · unfold LoI
    rw [f19, f1]
    refine ⟨h4.1, fun k k0 k1 => ?_⟩
    have := h4.1
    obtain ⟨-, g1, -, g2⟩ := fL k k0 (by omega)
    rw [g1, g2]
    exact h4.2 k k0 k1
  · intro n q0 q1
    rw [er u (by omega) (by omega)] at q1
    rw [(fA n q0 (by omega)).2.2.2.2.2.2, (fC n q0 (by omega)).1]
    exact h5 n q0 q1
def AcJ (b u : Int) (F : Hp) : Prop := ∀ n : Int, 0 ≤ n → n < F u 0 → (0 ≤ F (b + 5) n ∧ F (b + 5) n ≤ F (u + 7) n) ∧ (0 ≤ F (b + 6) n ∧ F (b + 6) n ≤ F (u + 8) n) ∧ (0 ≤ F (b + 7) n ∧ F (b + 7) n ≤ F (u + 7) n)
theorem AcJ.pay {b u leaf l c : Int} {F : Hp} (hd : dj b u) (hb : 0 ≤ b) (h : AcJ b u F) (hl : lOk b u F leaf l c) (hc : 1 ≤ c) : AcJ b u (payS b u leaf l c F) := by
  intro n h0 h1
  rw [payS_r (a := u) (by omega)] at h1
  have k := h n h0 h1
  rw [payS_r (a := u + 7) (by omega), payS_r (a := u + 8) (by omega), payS_5, payS_6, payS_7]
  have k2 := hl.2.2.2 n
  refine ⟨?_, ?_, ?_⟩
  · split <;> omega
  · split
    · rename_i q; subst q; have := hl.2.2.1; omega
    · exact k.2.1
  · split
    · rename_i q; have := k2 q; omega
    · exact k.2.2
/-- ticks until a queue is empty: from t on, at most n more -/
def drS (b u l : Int) : Nat → Int → Hp → Int
  | 0, t, F => if F (b + 9) l = 0 then t else -2
  | k + 1, t, F => if F (b + 9) l = 0 then t else drS b u l k (t + 1) (tikS b u F).2
theorem drS_hit {b u l t : Int} {k : Nat} {F : Hp} (h : F (b + 9) l = 0) : drS b u l k t F = t := by
  cases k with
  | zero => exact if_pos h
  | succ k => exact if_pos h
theorem drS_go {b u l t : Int} {k : Nat} {F : Hp} (hk : 0 < k) (h : ¬ F (b + 9) l = 0) : drS b u l k t F = drS b u l (k - 1) (t + 1) (tikS b u F).2 := by
  cases k with
  | zero => omega
  | succ k => exact if_neg h
set_option maxRecDepth 100000 in
set_option maxHeartbeats 4000000 in
theorem c_acquire {V : VX} {T : Shp} {F : Hp} {b u v K : Int} (hbq : b = 40) (hu : isSu u) (h : CI b u v K F) {l c : Int} (h1 : I32 l) (h2 : I32 c)  : Ct V yX11_acquire cX11_acquire 4 (some .int) 4 129 0 0 (SH T) [vr V 0, vi l, vi c] F (SH T) 1 (fun r F' => (¬ (0 ≤ l ∧ l < F u 0 ∧ F (u + 4) l = 0 ∧ 1 ≤ c ∧ c ≤ 99) ∧ r = -1 ∧ F' = F) ∨ (((0 ≤ l ∧ l < F u 0 ∧ F (u + 4) l = 0 ∧ 1 ≤ c ∧ c ≤ 99) ∧ lndS b u F l c = -2) ∧ r = -2 ∧ F' = F) ∨ (((0 ≤ l ∧ l < F u 0 ∧ F (u + 4) l = 0 ∧ 1 ≤ c ∧ c ≤ 99) ∧ lndS b u F l c ≠ -2) ∧ r = F (u + 3) l - F (u + 3) (lndS b u F l c) ∧ F' = sndS b u l (lndS b u F l c) c F)) := by
  refine Ct.of [some (vr V 0), some (vi l), some (vi c), none] (by decide) (by simp [lg_sl, vi_cat, vl_cat, vr_cat]) rfl (by simp [asc, lv_args, vi_cat, vl_cat, vr_cat]) (fun X hV hX => ?_)
  subst hV
  have hb : isSt b := Or.inl hbq
  obtain ⟨hs, hd, hS, hK, hL, hB, hk1, hk2, hS1, hS2⟩ := id h
  obtain ⟨hU, hA, hQ, hLo, hBd⟩ := id hS
  have hN := hU.1
  have hCC := hU.2.2.2.2.1
  refine R_aload_0 hX dX11_acquire_0 ?_
  refine R_iload_1 hX dX11_acquire_1 ?_
  refine R_iload_2 hX dX11_acquire_2 ?_
  refine R_v2i hX dX11_acquire_3 li_X11_158 mk_X11_isRequest mi_X11_isRequest rfl o_0 (c_isRequest hbq hu h h1 h2) ⟨⟨by decide, by decide⟩, by decide, by decide, rfl, Nat.le_of_ble_eq_true rfl, rfl⟩ (fun x_3 F_3 h_3 => ?_)
  obtain ⟨h_3, e_3⟩ := h_3; replace e_3 := e_3.symm; subst e_3
  refine R_ifne (tgt := 11) hX dX11_acquire_6 (by decide) ⟨by omega, by omega⟩ (fun c_6 => ?_) (fun c_6 => ?_)
  · skip
    refine R_aload_0 hX dX11_acquire_11 ?_
    refine R_getq (v := b) hX dX11_acquire_12 fl_X11_40 o_0 hbq.symm (by omega) ?_
    refine R_getq (v := b + 4) hX dX11_acquire_15 fl_X11_143 (so_0 hb) rfl (by omega) ?_
    refine R_aload_0 hX dX11_acquire_18 ?_
    refine R_getoE (v := u) hX dX11_acquire_19 fl_X11_33 o_0 rfl hs ?_
    refine R_iload_1 hX dX11_acquire_22 ?_
    refine R_iload_2 hX dX11_acquire_23 ?_
    refine R_v3i hX dX11_acquire_24 li_X11_162 mk_X0_findLender mi_X0_findLender rfl (so_4 hb) (c_findLender hu hN hb hU.2.1 (fun n q0 q1 => by have k1 := hA n q0 q1; have k2 := hU.2.2.2.2.2.2.1 n q0 q1; omega) hU.2.2.2.2.2.2.2.1 (by omega) (by omega)) ⟨⟨by decide, by decide⟩, by decide, by decide, rfl, Nat.le_of_ble_eq_true rfl, rfl⟩ (fun x_24 F_24 h_24 => ?_)
    obtain ⟨h_24, e_24⟩ := h_24; replace e_24 := e_24.symm; subst e_24
    replace h_24 : x_24 = lndS b u F l c := h_24
    subst h_24
    have hlr := lndS_rng (b := b) (c := c) hU.2.1 (show l < F u 0 by omega)
    refine R_istore_3 hX c1_i dX11_acquire_27 ?_
    refine R_iload_3 hX dX11_acquire_28 ?_
    refine R_bipush hX dX11_acquire_29 (by decide) ?_
    refine R_icmpne (tgt := 37) hX dX11_acquire_31 (by decide) ⟨by omega, by omega⟩ ⟨by omega, by omega⟩ (fun c_31 => ?_) (fun c_31 => ?_)
    · skip
      refine R_aload_0 hX dX11_acquire_37 ?_
      refine R_getq (v := b) hX dX11_acquire_38 fl_X11_40 o_0 hbq.symm (by omega) ?_
      refine R_aload_0 hX dX11_acquire_41 ?_
      refine R_getoE (v := u) hX dX11_acquire_42 fl_X11_33 o_0 rfl hs ?_
      refine R_iload_1 hX dX11_acquire_45 ?_
      refine R_iload_3 hX dX11_acquire_46 ?_
      refine R_iload_2 hX dX11_acquire_47 ?_
      refine R_v4v hX dX11_acquire_48 li_X11_166 mk_X8_send mi_X8_send rfl (so_0 hb) (c_send hu hb hS hK (by omega) (lndS_ok hU.2.1 (show l < F u 0 by omega) c_31) (by omega)) ⟨⟨by decide, by decide⟩, by decide, by decide, rfl, Nat.le_of_ble_eq_true rfl, rfl⟩ (fun x_48 F_48 h_48 => ?_)
      subst h_48
      refine R_aload_0 hX dX11_acquire_51 ?_
      refine R_getoE (v := u) hX dX11_acquire_52 fl_X11_33 o_0 rfl (by rw [sndS_r (by omega)]; exact hs) ?_
      refine R_iload_1 hX dX11_acquire_55 ?_
      refine R_iload_3 hX dX11_acquire_56 ?_
      refine R_v2i hX dX11_acquire_57 li_X11_170 mk_X7_distance mi_X7_distance rfl (to_0 hu) (c_distance hu (by rw [sndS_r (by omega)]; exact hN) (by constructor <;> omega) (by constructor <;> omega)) ⟨⟨by decide, by decide⟩, by decide, by decide, rfl, Nat.le_of_ble_eq_true rfl, rfl⟩ (fun x_57 F_57 h_57 => ?_)
      obtain ⟨h_57, e_57⟩ := h_57; replace e_57 := e_57.symm; subst e_57
      rw [sndS_r (a := u) (by omega), sndS_r (a := u + 3) (by omega)] at h_57
      exact R_iret hX dX11_acquire_60 (Or.inr (Or.inr ⟨⟨by omega, c_31⟩, by omega, rfl⟩))
    · skip
      refine R_bipush hX dX11_acquire_34 (by decide) ?_
      exact R_iret hX dX11_acquire_36 (Or.inr (Or.inl ⟨⟨by omega, c_31⟩, rfl, rfl⟩))
  · skip
    refine R_iconst hX dX11_acquire_9 ?_
    exact R_iret hX dX11_acquire_10 (Or.inl ⟨by omega, rfl, rfl⟩)
set_option maxRecDepth 100000 in
set_option maxHeartbeats 4000000 in
theorem c_payOften2 {V : VX} {T : Shp} {F : Hp} {u b : Int} (hu : isSu u) (hb : isSt b) (hU : SuI u F) (hA : AcJ b u F) {leaf c : Int} (hl : 0 ≤ leaf ∧ leaf < F u 0) (hc : 1 ≤ c ∧ c ≤ 99) : Ct V yX0_payOften cX0_payOften 6 (some .int) 2 49 0 0 (SH T) [vr V (b + 4), vr V u, vi leaf, vi c] F (SH T) 1 (fun r F' => r = (pofS b u leaf c 999 F).1 ∧ F' = (pofS b u leaf c 999 F).2) := by
  refine Ct.of [some (vr V (b + 4)), some (vr V u), some (vi leaf), some (vi c), none, none] (by decide) (by simp [lg_sl, vi_cat, vl_cat, vr_cat]) rfl (by simp [asc, lv_args, vi_cat, vl_cat, vr_cat]) (fun X hV hX => ?_)
  subst hV
  have hd := dj_of hu hb
  refine R_iconst hX dX0_payOften_0 ?_
  refine R_istore_4 hX c1_i dX0_payOften_1 ?_
  have lp_3 : ∀ (n : Nat) (t : Int) (G : Hp), (0 ≤ t ∧ t ≤ 999) → (SuI u G ∧ AcJ b u G ∧ leaf < G u 0) → (pofS b u leaf c 999 F = ((pofS b u leaf c (999 - t).toNat G).1 + t, (pofS b u leaf c (999 - t).toNat G).2)) → (1000 - t).toNat < n → R X (SH T) 0 0 3 [some (vr (xV X) (b + 4)), some (vr (xV X) u), some (vi leaf), some (vi c), some (vi t), none] [] G (Zq X (SH T) 1 (fun r F' => r = (pofS b u leaf c 999 F).1 ∧ F' = (pofS b u leaf c 999 F).2) 0 0) := by
    intro n
    induction n with
    | zero => intro t G iv3_0 iv3_1 iv3_2 hm; exact absurd hm (Nat.not_lt_zero _)
    | succ n ih_3 =>
      intro t G iv3_0 iv3_1 iv3_2 hm_3
      refine R_iload_4 hX dX0_payOften_3 ?_
      refine R_sipush hX dX0_payOften_5 (by decide) ?_
      refine R_icmpge (tgt := 45) hX dX0_payOften_8 (by decide) ⟨by omega, by omega⟩ ⟨by omega, by omega⟩ (fun c_8 => ?_) (fun c_8 => ?_)
      · skip
        refine R_sipush hX dX0_payOften_45 (by decide) ?_
        exact R_iret hX dX0_payOften_48 (by rw [iv3_2, show t = 999 by omega]; exact ⟨(Int.zero_add _).symm, rfl⟩)
      · skip
        refine R_aload_0 hX dX0_payOften_11 ?_
        refine R_aload_1 hX dX0_payOften_12 ?_
        refine R_iload_2 hX dX0_payOften_13 ?_
        refine R_iload_3 hX dX0_payOften_14 ?_
        refine R_v3i hX dX0_payOften_15 li_X0_57 mk_X0_findLender mi_X0_findLender rfl (so_4 hb) (c_findLender hu iv3_1.1.1 hb iv3_1.1.2.1 (fun n q0 q1 => by have k1 := iv3_1.2.1 n q0 q1; have k2 := iv3_1.1.2.2.2.2.2.2.1 n q0 q1; omega) iv3_1.1.2.2.2.2.2.2.2.1 ⟨hl.1, iv3_1.2.2⟩ hc) ⟨⟨by decide, by decide⟩, by decide, by decide, rfl, Nat.le_of_ble_eq_true rfl, rfl⟩ (fun x_15 F_15 h_15 => ?_)
        obtain ⟨h_15, e_15⟩ := h_15; replace e_15 := e_15.symm; subst e_15
        replace h_15 : x_15 = lndS b u G leaf c := h_15
        subst h_15
        have hr := lndS_rng (b := b) (c := c) iv3_1.1.2.1 iv3_1.2.2
        have hNG := iv3_1.1.1
        refine R_istore_5 hX c1_i dX0_payOften_18 ?_
        refine R_iload_5 hX dX0_payOften_20 ?_
        refine R_bipush hX dX0_payOften_22 (by decide) ?_
        refine R_icmpne (tgt := 30) hX dX0_payOften_24 (by decide) ⟨by omega, by omega⟩ ⟨by omega, by omega⟩ (fun c_24 => ?_) (fun c_24 => ?_)
        · skip
          have hok := lndS_ok iv3_1.1.2.1 iv3_1.2.2 c_24
          have hnext : SuI u (payS b u leaf (lndS b u G leaf c) c G) ∧ AcJ b u (payS b u leaf (lndS b u G leaf c) c G) ∧ leaf < payS b u leaf (lndS b u G leaf c) c G u 0 := ⟨iv3_1.1.fr (fun a q1 q2 => payS_r (by omega)), iv3_1.2.1.pay hd (by omega) hok hc.1, by rw [payS_r (by omega)]; exact iv3_1.2.2⟩
          refine R_aload_0 hX dX0_payOften_30 ?_
          refine R_aload_1 hX dX0_payOften_31 ?_
          refine R_iload_2 hX dX0_payOften_32 ?_
          refine R_iload_5 hX dX0_payOften_33 ?_
          refine R_iload_3 hX dX0_payOften_35 ?_
          refine R_v4v hX dX0_payOften_36 li_X0_61 mk_X0_pay mi_X0_pay rfl (so_4 hb) (c_pay hu hb iv3_1.1.1 iv3_1.1.2.1 ⟨hl.1, iv3_1.2.2⟩ hok.1 hok.2.1 hc (fun n z0 z1 => by have k1 := iv3_1.2.1 n z0 z1; have k2 := iv3_1.1.2.2.2.2.2.2.1 n z0 z1; omega)) ⟨⟨by decide, by decide⟩, by decide, by decide, rfl, Nat.le_of_ble_eq_true rfl, rfl⟩ (fun x_36 F_36 h_36 => ?_)
          subst h_36
          refine R_iinc_4 hX c1_i dX0_payOften_39 ?_
          refine R_goto (tgt := 3) hX dX0_payOften_42 (by decide) ?_
          refine R_drop_5 ?_
          exact ih_3 _ _ (by omega) hnext (by rw [iv3_2, pofS_go (by omega) c_24, show (999 - t).toNat - 1 = (999 - (t + 1)).toNat by omega]; exact Prod.ext (by dsimp only; omega) rfl) (by omega)
        · skip
          refine R_iload_4 hX dX0_payOften_27 ?_
          exact R_iret hX dX0_payOften_29 (by rw [iv3_2, pofS_stop c_24]; exact ⟨(Int.zero_add _).symm, rfl⟩)
  exact lp_3 1001 _ _ (by omega) ⟨hU, hA, hl.2⟩ (by rw [Int.add_zero, show ((999 : Int) - 0).toNat = 999 from rfl]) (by omega)
set_option maxRecDepth 100000 in
set_option maxHeartbeats 4000000 in
theorem c_repeats {V : VX} {T : Shp} {F : Hp} {b u v K : Int} (hbq : b = 40) (hu : isSu u) (h : CI b u v K F) {e : Int} (heq : e = 64) {l c : Int} (h1 : I32 l) (h2 : I32 c)  : Ct V yX11_repeats cX11_repeats 3 (some .int) 3 102 0 0 (SH T) [vr V 0, vi l, vi c] F (SH T) 1 (fun r F' => (¬ (0 ≤ l ∧ l < F u 0 ∧ F (u + 4) l = 0 ∧ 1 ≤ c ∧ c ≤ 99) ∧ r = -1 ∧ F' = F) ∨ ((0 ≤ l ∧ l < F u 0 ∧ F (u + 4) l = 0 ∧ 1 ≤ c ∧ c ≤ 99) ∧ r = (pofS e u l c 999 (acT b e F)).1 ∧ F' = (pofS e u l c 999 (acT b e F)).2)) := by
  refine Ct.of [some (vr V 0), some (vi l), some (vi c)] (by decide) (by simp [lg_sl, vi_cat, vl_cat, vr_cat]) rfl (by simp [asc, lv_args, vi_cat, vl_cat, vr_cat]) (fun X hV hX => ?_)
  subst hV
  have hb : isSt b := Or.inl hbq
  obtain ⟨hs, hd, hS, hK, hL, hB, hk1, hk2, hS1, hS2⟩ := id h
  obtain ⟨hU, hA, hQ, hLo, hBd⟩ := id hS
  have hN := hU.1
  have hCC := hU.2.2.2.2.1
  have he : isSt e := Or.inr (Or.inl heq)
  refine R_aload_0 hX dX11_repeats_0 ?_
  refine R_iload_1 hX dX11_repeats_1 ?_
  refine R_iload_2 hX dX11_repeats_2 ?_
  refine R_v2i hX dX11_repeats_3 li_X11_158 mk_X11_isRequest mi_X11_isRequest rfl o_0 (c_isRequest hbq hu h h1 h2) ⟨⟨by decide, by decide⟩, by decide, by decide, rfl, Nat.le_of_ble_eq_true rfl, rfl⟩ (fun x_3 F_3 h_3 => ?_)
  obtain ⟨h_3, e_3⟩ := h_3; replace e_3 := e_3.symm; subst e_3
  refine R_ifne (tgt := 11) hX dX11_repeats_6 (by decide) ⟨by omega, by omega⟩ (fun c_6 => ?_) (fun c_6 => ?_)
  · skip
    refine R_aload_0 hX dX11_repeats_11 ?_
    refine R_getq (v := e) hX dX11_repeats_12 fl_X11_44 o_0 heq.symm (by omega) ?_
    refine R_getq (v := e + 4) hX dX11_repeats_15 fl_X11_143 (so_0 he) rfl (by omega) ?_
    refine R_aload_0 hX dX11_repeats_18 ?_
    refine R_getq (v := b) hX dX11_repeats_19 fl_X11_40 o_0 hbq.symm (by omega) ?_
    refine R_getq (v := b + 4) hX dX11_repeats_22 fl_X11_143 (so_0 hb) rfl (by omega) ?_
    refine R_v1v hX dX11_repeats_25 li_X11_179 mk_X0_copyFrom mi_X0_copyFrom rfl (so_4 he) (c_acCopy he hb) ⟨⟨by decide, by decide⟩, by decide, by decide, rfl, Nat.le_of_ble_eq_true rfl, rfl⟩ (fun x_25 F_25 h_25 => ?_)
    subst h_25
    refine R.eq rfl rfl (show _ = acT b e F from rfl) ?_
    have heu : ∀ a : Int, u ≤ a → a < u + 17 → acT b e F a = F a := fun a z1 z2 => by unfold acT; simp (disch := omega) only [cpy_r]
    have hAe : AcJ e u (acT b e F) := by
      intro n q0 q1
      rw [heu u (by omega) (by omega)] at q1
      have k := hA n q0 q1
      rw [heu (u + 7) (by omega) (by omega), heu (u + 8) (by omega) (by omega)]
      unfold acT
      simp (disch := omega) only [cpy_k, cpy_in, Int.zero_add, Int.sub_zero]
      omega
    refine R_aload_0 hX dX11_repeats_28 ?_
    refine R_getq (v := e) hX dX11_repeats_29 fl_X11_44 o_0 heq.symm (by omega) ?_
    refine R_getq (v := e + 4) hX dX11_repeats_32 fl_X11_143 (so_0 he) rfl (by omega) ?_
    refine R_aload_0 hX dX11_repeats_35 ?_
    refine R_getoE (v := u) hX dX11_repeats_36 fl_X11_33 o_0 rfl (by unfold acT; simp (disch := omega) only [cpy_k]; exact hs) ?_
    refine R_iload_1 hX dX11_repeats_39 ?_
    refine R_iload_2 hX dX11_repeats_40 ?_
    refine R_v3i hX dX11_repeats_41 li_X11_183 mk_X0_payOften mi_X0_payOften rfl (so_4 he) (c_payOften2 hu he (hU.fr heu) hAe (by rw [heu u (by omega) (by omega)]; omega) (by omega)) ⟨⟨by decide, by decide⟩, by decide, by decide, rfl, Nat.le_of_ble_eq_true rfl, rfl⟩ (fun x_41 F_41 h_41 => ?_)
    exact R_iret hX dX11_repeats_44 (Or.inr ⟨by omega, h_41.1, h_41.2⟩)
  · skip
    refine R_iconst hX dX11_repeats_9 ?_
    exact R_iret hX dX11_repeats_10 (Or.inl ⟨by omega, rfl, rfl⟩)
