theorem TxI.bg {v : Int} {F : Hp} (hv : isSu v) (hL : 0 ≤ F 1 1 ∧ F 1 1 ≤ 900) (hB : ∀ i : Int, 0 ≤ i → i < F 1 1 → -128 ≤ F 2 i ∧ F 2 i ≤ 127) : TxI (bgS v F) := by
  have hv' : v = 4 ∨ v = 23 := hv
  have b1 : bgS v F 1 = F 1 := by unfold bgS; simp (disch := omega) only [up_r]
  have b2 : bgS v F 2 = F 2 := by unfold bgS; simp (disch := omega) only [up_r]
  have b3 : bgS v F 21 0 = 0 := by unfold bgS; simp (disch := omega) only [up_k, up_s]
  unfold TxI
  rw [b1, b2, b3]
  exact ⟨hL, hB, by omega⟩
theorem bg_k {v a : Int} {F : Hp} (h : a ≠ 3 ∧ a ≠ 21 ∧ a ≠ v ∧ a ≠ v + 12) : bgS v F a = F a := by
  unfold bgS
  rw [up_r h.1, up_r h.1, up_r h.2.1, up_r h.2.2.1, up_r h.2.2.1, up_r h.2.2.2, up_r h.2.2.1, up_r h.1, up_r h.1]
/-- the tree's text is read and stands -/
theorem st_load {T : Shp} {F F5 F12 : Hp} {u v t x : Int} (hsv : SS u v) (hp : 136 ≤ t) (hV : TrV F t) (h20 : F t 20 = 0) (hB : TB0 F t) (hd : F5 3 2 = v) (htb : t + 19 < 136 + T.length) (h1 : F5 1 1 = (txL F t).length) (h2 : ∀ i : Int, 0 ≤ i → i < (txL F t).length → F5 2 i = tch (txL F t) i) (hq : ∀ q : Int, 40 ≤ q → q < 136 + T.length → F5 q = F q)
    (h : (rdS v 901 (bgS v F5) 3 0 ≠ 0 ∧ x = -1 ∧ F12 = up (rdS v 901 (bgS v F5)) 1 1 0) ∨ (rdS v 901 (bgS v F5) 3 0 = 0 ∧ x = rdS v 901 (bgS v F5) v 0 ∧ F12 = up (up (begS 40 v (up (up (up (rdS v 901 (bgS v F5)) 1 1 0) 0 3 v) 3 2 u)) 88 0 0) 112 0 0)) :
    x = F t 0 ∧ Rl v u 0 F12 t ∧ F12 3 0 = 0 ∧ F12 3 1 = -2 ∧ ∀ a : Int, 136 ≤ a → a < 136 + T.length → F12 a = F a := by
  have hsv' : (u = 4 ∧ v = 23) ∨ (u = 23 ∧ v = 4) := hsv
  have hv : isSu v := by unfold isSu; omega
  have htx := tx_ok hV
  have hrd := rd_text (F := F5) hv hV h20 h1 (by omega) h2
  have hP : PrI v (rdS v 901 (bgS v F5)) := by
    rcases rdS_ok hv 901 (bgS v F5) (PrI.bg hv hd) (TxI.bg hv (by omega) (fun i q0 q1 => by
      rw [h1] at q1
      rw [h2 i q0 q1]
      have := tch_r htx.1 i
      omega)) with z | z
    · exact z
    · exact absurd hrd.1 z
  have h31 : rdS v 901 (bgS v F5) 3 1 = -2 := by
    rw [rd_31 hv 901 _ hrd.1]
    unfold bgS
    simp (disch := omega) only [up_k, up_i, up_s]
  rcases h with ⟨z, _⟩ | ⟨_, e, h⟩
  · exact absurd hrd.1 z
  · have hl := Rl.load (B := 136 + T.length) hsv hp hV h20 hB hrd.1 h31 hrd.2 hP.2.1 (by omega) (fun a q0 q1 => by
      funext i
      rw [rdS_k hv (Or.inl ⟨by omega, by omega, by omega⟩), bg_k ⟨by omega, by omega, by omega, by omega⟩, hq a q0 q1])
    rw [← h] at hl
    exact ⟨by rw [e]; exact hrd.2.1.1, hl.1, hl.2.1, hl.2.2.1, hl.2.2.2⟩
set_option maxRecDepth 100000 in
set_option maxHeartbeats 4000000 in
theorem e_stands {V : VX} {T : Shp} {F : Hp} {t u v : Int} (hsv : SS u v) (hS : TrS T t) (hV : TrV F t) (h20 : F t 20 = 0) (hB : TB0 F t) (hs : F 0 3 = u) (hd : F 3 2 = v) (h11 : F 1 1 = 0) (htb : t + 19 < 136 + T.length) : CtE V yL_stands cL_stands 2 (some .boolean) 9 197 170 310000 (SH T) [vr V 0, vr V t] F 1 (fun r s F' => ∃ g, s = SH (T ++ g) ∧ (r = 1 ∧ Rl v u 0 F' t ∧ ∀ q : Int, 136 ≤ q → q < 136 + T.length → F' q = F q)) := by
  refine CtE.of [some (vr V 0), some (vr V t)] (by decide) (by simp [lg_sl, vi_cat, vl_cat, vr_cat, rf_cat]) rfl (by simp [asc, lv_args, vi_cat, vl_cat, vr_cat, rf_cat]) (fun X hV hX => ?_)
  subst hV
  have hp := hS.p
  have htx := tx_ok hV
  have hsv' : (u = 4 ∧ v = 23) ∨ (u = 23 ∧ v = 4) := hsv
  have hu : isSu u := by unfold isSu; omega
  have hv : isSu v := by unfold isSu; omega
  refine R_aload_0 hX dL_stands_0 ?_
  refine R_aload_1 hX dL_stands_1 ?_
  refine R_callVE (As := []) hX dL_stands_2 li_L_33 mk_X12_text mi_X12_text rfl hS.o (e_text hS hV htb) ⟨⟨by decide, by decide⟩, by omega, by omega, rfl, rfl, (by simp [vi_cat, vl_cat, vr_cat, rf_cat])⟩ (fun x_2 s_2 F_2 d_2 h_2 hl_2 hd_2 => ?_)
  obtain ⟨g_2, rfl, h_2⟩ := h_2
  obtain ⟨hst, hq_2⟩ := h_2
  clear hl_2
  refine R_callSE (As := [_, _]) hX dL_stands_5 li_L_39 mk_L_fill ms_L_fill (e_fill hst htx.1 (by rw [hq_2 1 (by omega)]; exact h11) htx.2) ⟨⟨by decide, by decide⟩, by omega, by omega, rfl, rfl, (by first | decide | exact Nat.zero_le _)⟩ (fun x_5 s_5 F_5 d_5 h_5 hl_5 hd_5 => ?_)
  obtain ⟨g_5, rfl, h_5⟩ := h_5
  obtain ⟨r5, f2, f3, f4, f5⟩ := h_5
  subst r5
  have hd5 : F_5 3 2 = v := by rw [f5 3 (by omega) (by omega) (by rw [List.length_append]; omega), hq_2 3 (by omega)]; exact hd
  clear hl_5
  refine R_ifeq (tgt := 42) hX dL_stands_8 (by decide) (by first | exact ⟨by omega, by omega⟩ | (rw [hl.2.2.2.2 t (by omega) (by omega)]; have := hV.n; constructor <;> omega) | (have := hV.n; have := hl.1; constructor <;> omega)) (fun c_8 => ?_) (fun c_8 => ?_)
  · exact absurd c_8 (by decide)
  · skip
    refine R_aload_0 hX dL_stands_11 ?_
    refine R_v0i hX dL_stands_12 li_L_43 mk_X11_load mi_X11_load rfl o_0 (c_load (u := u) (v := v) hu hv (by rw [f5 0 (by omega) (by omega) (by omega), hq_2 0 (by omega)]; exact hs) hd5 (by omega) (fun i q0 q1 => by rw [f3 i q0 (by omega)]; have := tch_r htx.1 i; omega)) ⟨⟨by decide, by decide⟩, by omega, by omega, rfl, Nat.le_of_ble_eq_true rfl, rfl⟩ (fun x_12 F_12 h_12 => ?_)
    have hl := st_load hsv hp hV h20 hB hd5 htb f2 f3 (fun q q0 q1 => by rw [f5 q (by omega) (by omega) (by rw [List.length_append]; omega), hq_2 q q1]) h_12
    clear h_12
    refine R_aload_1 hX dL_stands_15 ?_
    refine R_getNi hX dL_stands_16 fn_L_46 (hS.o.up.up) rfl ?_
    refine R_icmpne (tgt := 42) hX dL_stands_19 (by decide) (by first | exact ⟨by omega, by omega⟩ | (rw [hl.2.2.2.2 t (by omega) (by omega)]; have := hV.n; constructor <;> omega) | (have := hV.n; have := hl.1; constructor <;> omega)) (by first | exact ⟨by omega, by omega⟩ | (rw [hl.2.2.2.2 t (by omega) (by omega)]; have := hV.n; constructor <;> omega) | (have := hV.n; have := hl.1; constructor <;> omega)) (fun c_19 => ?_) (fun c_19 => ?_)
    · exact absurd (by rw [hl.1, hl.2.2.2.2 t (by omega) (by omega)]) c_19
    · skip
      refine R_aload_0 hX dL_stands_22 ?_
      refine R_v0i hX dL_stands_23 li_L_50 mk_X11_faultCode mi_X11_faultCode rfl o_0 (c_faultCode rfl hv hl.2.1.2.1) ⟨⟨by decide, by decide⟩, by omega, by omega, rfl, Nat.le_of_ble_eq_true rfl, rfl⟩ (fun x_23 F_23 h_23 => ?_)
      obtain ⟨h_23, e_23⟩ := h_23; replace e_23 := e_23.symm; subst e_23
      rw [hl.2.2.1] at h_23
      refine R_ifne (tgt := 42) hX dL_stands_26 (by decide) (by first | exact ⟨by omega, by omega⟩ | (rw [hl.2.2.2.2 t (by omega) (by omega)]; have := hV.n; constructor <;> omega) | (have := hV.n; have := hl.1; constructor <;> omega)) (fun c_26 => ?_) (fun c_26 => ?_)
      · exact absurd h_23 c_26
      · skip
        refine R_aload_0 hX dL_stands_29 ?_
        refine R_v0i hX dL_stands_30 li_L_53 mk_X11_faultPosition mi_X11_faultPosition rfl o_0 (c_faultPosition rfl hv hl.2.1.2.1) ⟨⟨by decide, by decide⟩, by omega, by omega, rfl, Nat.le_of_ble_eq_true rfl, rfl⟩ (fun x_30 F_30 h_30 => ?_)
        obtain ⟨h_30, e_30⟩ := h_30; replace e_30 := e_30.symm; subst e_30
        rw [hl.2.2.2.1] at h_30
        refine R_bipush hX dL_stands_33 (by decide) ?_
        refine R_icmpne (tgt := 42) hX dL_stands_35 (by decide) (by first | exact ⟨by omega, by omega⟩ | (rw [hl.2.2.2.2 t (by omega) (by omega)]; have := hV.n; constructor <;> omega) | (have := hV.n; have := hl.1; constructor <;> omega)) (by first | exact ⟨by omega, by omega⟩ | (rw [hl.2.2.2.2 t (by omega) (by omega)]; have := hV.n; constructor <;> omega) | (have := hV.n; have := hl.1; constructor <;> omega)) (fun c_35 => ?_) (fun c_35 => ?_)
        · exact absurd h_30 c_35
        · skip
          refine R_iconst hX dL_stands_38 ?_
          refine R_goto (tgt := 43) hX dL_stands_39 (by decide) ?_
          exact R_zretE hX (by omega) dL_stands_43 ⟨by omega, by omega⟩ ⟨g_2 ++ g_5, by rw [List.append_assoc], rfl, hl.2.1, hl.2.2.2.2⟩
