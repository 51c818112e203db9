def fxS (b u : Int) (F : Hp) (n : Int) : Int := if F (u + 4) n = 0 then (10 * F (b + 14) n).tdiv (F (b + 3) n) else 0
def lvS (u : Int) (F : Hp) (n : Int) : Int := if F (u + 4) n = 0 then 1 else 0
def frS (b u : Int) (F : Hp) : Int := if sumN (fun n => fxS b u F n * fxS b u F n) (F u 0).toNat = 0 then 1000 else (if sumN (lvS u F) (F u 0).toNat * sumN (fun n => fxS b u F n * fxS b u F n) (F u 0).toNat = 0 then 0 else (1000 * sumN (fxS b u F) (F u 0).toNat * sumN (fxS b u F) (F u 0).toNat).tdiv (sumN (lvS u F) (F u 0).toNat * sumN (fun n => fxS b u F n * fxS b u F n) (F u 0).toNat))
theorem fxS_rng {b u n : Int} {F : Hp} (h1 : 0 ≤ F (b + 14) n ∧ F (b + 14) n ≤ 100000) (h2 : 1 ≤ F (b + 3) n) : 0 ≤ fxS b u F n ∧ fxS b u F n ≤ 1000000 := by
  unfold fxS
  split
  · rw [Int.tdiv_eq_ediv_of_nonneg (by omega)]
    have q1 := Int.ediv_nonneg (show 0 ≤ 10 * F (b + 14) n by omega) (show 0 ≤ F (b + 3) n by omega)
    have q2 := Int.ediv_le_self (F (b + 3) n) (show 0 ≤ 10 * F (b + 14) n by omega)
    omega
  · omega
def sxS (b u : Int) (F : Hp) (n : Int) : Int := if F (u + 4) n = 0 then F (b + 14) n else 0
def swS (b u : Int) (F : Hp) (n : Int) : Int := if F (u + 4) n = 0 then F (b + 3) n else 0
def msS (b u : Int) (F : Hp) : Nat → Int
  | 0 => -2
  | k + 1 => if F (u + 4) k = 0 ∧ (msS b u F k = -2 ∨ F (b + 14) (msS b u F k) * F (b + 3) k < F (b + 14) k * F (b + 3) (msS b u F k)) then k else msS b u F k
theorem msS_s {b u i : Int} {F : Hp} (h : 0 ≤ i) : msS b u F (i + 1).toNat = if F (u + 4) i = 0 ∧ (msS b u F i.toNat = -2 ∨ F (b + 14) (msS b u F i.toNat) * F (b + 3) i < F (b + 14) i * F (b + 3) (msS b u F i.toNat)) then i else msS b u F i.toNat := by
  obtain ⟨k, rfl⟩ : ∃ k : Nat, i = k := ⟨i.toNat, by omega⟩
  rfl
theorem msS_rng {b u : Int} {F : Hp} : ∀ k : Nat, msS b u F k = -2 ∨ (0 ≤ msS b u F k ∧ msS b u F k < k)
  | 0 => Or.inl rfl
  | k + 1 => by
    unfold msS
    have := msS_rng (b := b) (u := u) (F := F) k
    split <;> omega
set_option maxRecDepth 100000 in
set_option maxHeartbeats 4000000 in
theorem c_logEntry {V : VX} {T : Shp} {F : Hp} {b u v K : Int} (hbq : b = 40) (hu : isSu u) (h : CI b u v K F) {k : Int} (h1 : I32 k)  : Ct V yX11_logEntry cX11_logEntry 2 (some .int) 0 0 0 0 (SH T) [vr V 0, vi k] F (SH T) 1 (fun r F' => r = (if k < 0 then -1 else if k < F (b + 19) 0 then k else -2) ∧ F' = F) := by
  refine Ct.of [some (vr V 0), some (vi k)] (by decide) (by simp [lg_sl, vi_cat, vl_cat, vr_cat]) rfl (by simp [asc, lv_args, vi_cat, vl_cat, vr_cat]) (fun X hV hX => ?_)
  subst hV
  have hb : isSt b := Or.inl hbq
  obtain ⟨hs, hd, hS, hK, hL, hB, hk1, hk2, hS1, hS2⟩ := id h
  obtain ⟨hU, hA, hQ, hLo, hBd⟩ := id hS
  have hN := hU.1
  have hCC := hU.2.2.2.2.1
  have hlc := hLo.1
  refine R_iload_1 hX dX11_logEntry_0 ?_
  refine R_ifge (tgt := 6) hX dX11_logEntry_1 (by decide) ⟨by omega, by omega⟩ (fun c_1 => ?_) (fun c_1 => ?_)
  · skip
    refine R_iload_1 hX dX11_logEntry_6 ?_
    refine R_aload_0 hX dX11_logEntry_7 ?_
    refine R_getq (v := b) hX dX11_logEntry_8 fl_X11_40 o_0 hbq.symm (by omega) ?_
    refine R_getq (v := b + 19) hX dX11_logEntry_11 fl_X11_266 (so_0 hb) rfl (by omega) ?_
    refine R_geti hX dX11_logEntry_14 fl_X11_275 (so_19 hb) rfl ?_
    refine R_icmpge (tgt := 24) hX dX11_logEntry_17 (by decide) ⟨by omega, by omega⟩ ⟨by omega, by omega⟩ (fun c_17 => ?_) (fun c_17 => ?_)
    · skip
      refine R_bipush hX dX11_logEntry_24 (by decide) ?_
      exact R_iret hX dX11_logEntry_26 ⟨by first | (rw [if_pos (by omega)]; done) | (rw [if_neg (by omega)]; first | (rw [if_pos (by omega)]; done) | (rw [if_neg (by omega)]; done)), rfl⟩
    · skip
      refine R_iload_1 hX dX11_logEntry_20 ?_
      refine R_goto (tgt := 26) hX dX11_logEntry_21 (by decide) ?_
      exact R_iret hX dX11_logEntry_26 ⟨by first | (rw [if_pos (by omega)]; done) | (rw [if_neg (by omega)]; first | (rw [if_pos (by omega)]; done) | (rw [if_neg (by omega)]; done)), rfl⟩
  · skip
    refine R_iconst hX dX11_logEntry_4 ?_
    exact R_iret hX dX11_logEntry_5 ⟨by first | (rw [if_pos (by omega)]; done) | (rw [if_neg (by omega)]; first | (rw [if_pos (by omega)]; done) | (rw [if_neg (by omega)]; done)), rfl⟩
set_option maxRecDepth 100000 in
set_option maxHeartbeats 4000000 in
theorem c_loggedLeaf {V : VX} {T : Shp} {F : Hp} {b u v K : Int} (hbq : b = 40) (hu : isSu u) (h : CI b u v K F) {k : Int} (h1 : I32 k)  : Ct V yX11_loggedLeaf cX11_loggedLeaf 3 (some .int) 1 21 0 0 (SH T) [vr V 0, vi k] F (SH T) 1 (fun r F' => r = (if k < 0 then -1 else if k < F (b + 19) 0 then F (b + 20) k else -2) ∧ F' = F) := by
  refine Ct.of [some (vr V 0), some (vi k), none] (by decide) (by simp [lg_sl, vi_cat, vl_cat, vr_cat]) rfl (by simp [asc, lv_args, vi_cat, vl_cat, vr_cat]) (fun X hV hX => ?_)
  subst hV
  have hb : isSt b := Or.inl hbq
  obtain ⟨hs, hd, hS, hK, hL, hB, hk1, hk2, hS1, hS2⟩ := id h
  obtain ⟨hU, hA, hQ, hLo, hBd⟩ := id hS
  have hN := hU.1
  have hCC := hU.2.2.2.2.1
  refine R_aload_0 hX dX11_loggedLeaf_0 ?_
  refine R_iload_1 hX dX11_loggedLeaf_1 ?_
  refine R_v1i hX dX11_loggedLeaf_2 li_X11_278 mk_X11_logEntry mi_X11_logEntry rfl o_0 (c_logEntry hbq hu h h1) ⟨⟨by decide, by decide⟩, by decide, by decide, rfl, Nat.le_of_ble_eq_true rfl, rfl⟩ (fun x_2 F_2 h_2 => ?_)
  obtain ⟨h_2, e_2⟩ := h_2; replace e_2 := e_2.symm; subst e_2
  have hlc := hLo.1
  have hqe : (k < 0 ∧ x_2 = -1) ∨ (0 ≤ k ∧ ¬ k < F (b + 19) 0 ∧ x_2 = -2) ∨ (0 ≤ k ∧ k < F (b + 19) 0 ∧ x_2 = k) := by
    rw [h_2]
    by_cases q : k < 0
    · rw [if_pos q]; omega
    · rw [if_neg q]
      by_cases q2 : k < F (b + 19) 0
      · rw [if_pos q2]; omega
      · rw [if_neg q2]; omega
  clear h_2
  refine R_istore_2 hX c1_i dX11_loggedLeaf_5 ?_
  refine R_iload_2 hX dX11_loggedLeaf_6 ?_
  refine R_ifge (tgt := 14) hX dX11_loggedLeaf_7 (by decide) ⟨by omega, by omega⟩ (fun c_7 => ?_) (fun c_7 => ?_)
  · skip
    have hx : x_2 = k := by omega
    subst hx
    refine R_aload_0 hX dX11_loggedLeaf_14 ?_
    refine R_getq (v := b) hX dX11_loggedLeaf_15 fl_X11_40 o_0 hbq.symm (by omega) ?_
    refine R_getq (v := b + 19) hX dX11_loggedLeaf_18 fl_X11_266 (so_0 hb) rfl (by omega) ?_
    refine R_getq (v := b + 20) hX dX11_loggedLeaf_21 fl_X11_281 (so_19 hb) rfl (by omega) ?_
    refine R_iload_2 hX dX11_loggedLeaf_24 ?_
    refine R_iald hX dX11_loggedLeaf_25 (sa_20 hb) ⟨by omega, by omega⟩ ?_
    exact R_iret hX dX11_loggedLeaf_26 ⟨by first | (rw [if_neg (by omega), if_pos (by omega)]; done) | (rcases hqe with ⟨q, z⟩ | ⟨q, q2, z⟩ | ⟨q, q2, z⟩; (rw [if_pos q]; exact z); (rw [if_neg (by omega), if_neg q2]; exact z); omega), rfl⟩
  · skip
    refine R_iload_2 hX dX11_loggedLeaf_10 ?_
    refine R_goto (tgt := 26) hX dX11_loggedLeaf_11 (by decide) ?_
    exact R_iret hX dX11_loggedLeaf_26 ⟨by first | (rw [if_neg (by omega), if_pos (by omega)]; done) | (rcases hqe with ⟨q, z⟩ | ⟨q, q2, z⟩ | ⟨q, q2, z⟩; (rw [if_pos q]; exact z); (rw [if_neg (by omega), if_neg q2]; exact z); omega), rfl⟩
set_option maxRecDepth 100000 in
set_option maxHeartbeats 4000000 in
theorem c_loggedCost {V : VX} {T : Shp} {F : Hp} {b u v K : Int} (hbq : b = 40) (hu : isSu u) (h : CI b u v K F) {k : Int} (h1 : I32 k)  : Ct V yX11_loggedCost cX11_loggedCost 3 (some .int) 1 21 0 0 (SH T) [vr V 0, vi k] F (SH T) 1 (fun r F' => r = (if k < 0 then -1 else if k < F (b + 19) 0 then F (b + 21) k else -2) ∧ F' = F) := by
  refine Ct.of [some (vr V 0), some (vi k), none] (by decide) (by simp [lg_sl, vi_cat, vl_cat, vr_cat]) rfl (by simp [asc, lv_args, vi_cat, vl_cat, vr_cat]) (fun X hV hX => ?_)
  subst hV
  have hb : isSt b := Or.inl hbq
  obtain ⟨hs, hd, hS, hK, hL, hB, hk1, hk2, hS1, hS2⟩ := id h
  obtain ⟨hU, hA, hQ, hLo, hBd⟩ := id hS
  have hN := hU.1
  have hCC := hU.2.2.2.2.1
  refine R_aload_0 hX dX11_loggedCost_0 ?_
  refine R_iload_1 hX dX11_loggedCost_1 ?_
  refine R_v1i hX dX11_loggedCost_2 li_X11_278 mk_X11_logEntry mi_X11_logEntry rfl o_0 (c_logEntry hbq hu h h1) ⟨⟨by decide, by decide⟩, by decide, by decide, rfl, Nat.le_of_ble_eq_true rfl, rfl⟩ (fun x_2 F_2 h_2 => ?_)
  obtain ⟨h_2, e_2⟩ := h_2; replace e_2 := e_2.symm; subst e_2
  have hlc := hLo.1
  have hqe : (k < 0 ∧ x_2 = -1) ∨ (0 ≤ k ∧ ¬ k < F (b + 19) 0 ∧ x_2 = -2) ∨ (0 ≤ k ∧ k < F (b + 19) 0 ∧ x_2 = k) := by
    rw [h_2]
    by_cases q : k < 0
    · rw [if_pos q]; omega
    · rw [if_neg q]
      by_cases q2 : k < F (b + 19) 0
      · rw [if_pos q2]; omega
      · rw [if_neg q2]; omega
  clear h_2
  refine R_istore_2 hX c1_i dX11_loggedCost_5 ?_
  refine R_iload_2 hX dX11_loggedCost_6 ?_
  refine R_ifge (tgt := 14) hX dX11_loggedCost_7 (by decide) ⟨by omega, by omega⟩ (fun c_7 => ?_) (fun c_7 => ?_)
  · skip
    have hx : x_2 = k := by omega
    subst hx
    refine R_aload_0 hX dX11_loggedCost_14 ?_
    refine R_getq (v := b) hX dX11_loggedCost_15 fl_X11_40 o_0 hbq.symm (by omega) ?_
    refine R_getq (v := b + 19) hX dX11_loggedCost_18 fl_X11_266 (so_0 hb) rfl (by omega) ?_
    refine R_getq (v := b + 21) hX dX11_loggedCost_21 fl_X11_284 (so_19 hb) rfl (by omega) ?_
    refine R_iload_2 hX dX11_loggedCost_24 ?_
    refine R_iald hX dX11_loggedCost_25 (sa_21 hb) ⟨by omega, by omega⟩ ?_
    exact R_iret hX dX11_loggedCost_26 ⟨by first | (rw [if_neg (by omega), if_pos (by omega)]; done) | (rcases hqe with ⟨q, z⟩ | ⟨q, q2, z⟩ | ⟨q, q2, z⟩; (rw [if_pos q]; exact z); (rw [if_neg (by omega), if_neg q2]; exact z); omega), rfl⟩
  · skip
    refine R_iload_2 hX dX11_loggedCost_10 ?_
    refine R_goto (tgt := 26) hX dX11_loggedCost_11 (by decide) ?_
    exact R_iret hX dX11_loggedCost_26 ⟨by first | (rw [if_neg (by omega), if_pos (by omega)]; done) | (rcases hqe with ⟨q, z⟩ | ⟨q, q2, z⟩ | ⟨q, q2, z⟩; (rw [if_pos q]; exact z); (rw [if_neg (by omega), if_neg q2]; exact z); omega), rfl⟩
set_option maxRecDepth 100000 in
set_option maxHeartbeats 4000000 in
theorem c_loggedLender {V : VX} {T : Shp} {F : Hp} {b u v K : Int} (hbq : b = 40) (hu : isSu u) (h : CI b u v K F) {k : Int} (h1 : I32 k)  : Ct V yX11_loggedLender cX11_loggedLender 3 (some .int) 1 21 0 0 (SH T) [vr V 0, vi k] F (SH T) 1 (fun r F' => r = (if k < 0 then -1 else if k < F (b + 19) 0 then F (b + 22) k else -2) ∧ F' = F) := by
  refine Ct.of [some (vr V 0), some (vi k), none] (by decide) (by simp [lg_sl, vi_cat, vl_cat, vr_cat]) rfl (by simp [asc, lv_args, vi_cat, vl_cat, vr_cat]) (fun X hV hX => ?_)
  subst hV
  have hb : isSt b := Or.inl hbq
  obtain ⟨hs, hd, hS, hK, hL, hB, hk1, hk2, hS1, hS2⟩ := id h
  obtain ⟨hU, hA, hQ, hLo, hBd⟩ := id hS
  have hN := hU.1
  have hCC := hU.2.2.2.2.1
  refine R_aload_0 hX dX11_loggedLender_0 ?_
  refine R_iload_1 hX dX11_loggedLender_1 ?_
  refine R_v1i hX dX11_loggedLender_2 li_X11_278 mk_X11_logEntry mi_X11_logEntry rfl o_0 (c_logEntry hbq hu h h1) ⟨⟨by decide, by decide⟩, by decide, by decide, rfl, Nat.le_of_ble_eq_true rfl, rfl⟩ (fun x_2 F_2 h_2 => ?_)
  obtain ⟨h_2, e_2⟩ := h_2; replace e_2 := e_2.symm; subst e_2
  have hlc := hLo.1
  have hqe : (k < 0 ∧ x_2 = -1) ∨ (0 ≤ k ∧ ¬ k < F (b + 19) 0 ∧ x_2 = -2) ∨ (0 ≤ k ∧ k < F (b + 19) 0 ∧ x_2 = k) := by
    rw [h_2]
    by_cases q : k < 0
    · rw [if_pos q]; omega
    · rw [if_neg q]
      by_cases q2 : k < F (b + 19) 0
      · rw [if_pos q2]; omega
      · rw [if_neg q2]; omega
  clear h_2
  refine R_istore_2 hX c1_i dX11_loggedLender_5 ?_
  refine R_iload_2 hX dX11_loggedLender_6 ?_
  refine R_ifge (tgt := 14) hX dX11_loggedLender_7 (by decide) ⟨by omega, by omega⟩ (fun c_7 => ?_) (fun c_7 => ?_)
  · skip
    have hx : x_2 = k := by omega
    subst hx
    refine R_aload_0 hX dX11_loggedLender_14 ?_
    refine R_getq (v := b) hX dX11_loggedLender_15 fl_X11_40 o_0 hbq.symm (by omega) ?_
    refine R_getq (v := b + 19) hX dX11_loggedLender_18 fl_X11_266 (so_0 hb) rfl (by omega) ?_
    refine R_getq (v := b + 22) hX dX11_loggedLender_21 fl_X11_285 (so_19 hb) rfl (by omega) ?_
    refine R_iload_2 hX dX11_loggedLender_24 ?_
    refine R_iald hX dX11_loggedLender_25 (sa_22 hb) ⟨by omega, by omega⟩ ?_
    exact R_iret hX dX11_loggedLender_26 ⟨by first | (rw [if_neg (by omega), if_pos (by omega)]; done) | (rcases hqe with ⟨q, z⟩ | ⟨q, q2, z⟩ | ⟨q, q2, z⟩; (rw [if_pos q]; exact z); (rw [if_neg (by omega), if_neg q2]; exact z); omega), rfl⟩
  · skip
    refine R_iload_2 hX dX11_loggedLender_10 ?_
    refine R_goto (tgt := 26) hX dX11_loggedLender_11 (by decide) ?_
    exact R_iret hX dX11_loggedLender_26 ⟨by first | (rw [if_neg (by omega), if_pos (by omega)]; done) | (rcases hqe with ⟨q, z⟩ | ⟨q, q2, z⟩ | ⟨q, q2, z⟩; (rw [if_pos q]; exact z); (rw [if_neg (by omega), if_neg q2]; exact z); omega), rfl⟩
set_option maxRecDepth 100000 in
set_option maxHeartbeats 4000000 in
theorem c_loggedTime {V : VX} {T : Shp} {F : Hp} {b u v K : Int} (hbq : b = 40) (hu : isSu u) (h : CI b u v K F) {k : Int} (h1 : I32 k)  : Ct V yX11_loggedTime cX11_loggedTime 3 (some .int) 1 21 0 0 (SH T) [vr V 0, vi k] F (SH T) 1 (fun r F' => r = (if k < 0 then -1 else if k < F (b + 19) 0 then F (b + 23) k else -2) ∧ F' = F) := by
  refine Ct.of [some (vr V 0), some (vi k), none] (by decide) (by simp [lg_sl, vi_cat, vl_cat, vr_cat]) rfl (by simp [asc, lv_args, vi_cat, vl_cat, vr_cat]) (fun X hV hX => ?_)
  subst hV
  have hb : isSt b := Or.inl hbq
  obtain ⟨hs, hd, hS, hK, hL, hB, hk1, hk2, hS1, hS2⟩ := id h
  obtain ⟨hU, hA, hQ, hLo, hBd⟩ := id hS
  have hN := hU.1
  have hCC := hU.2.2.2.2.1
  refine R_aload_0 hX dX11_loggedTime_0 ?_
  refine R_iload_1 hX dX11_loggedTime_1 ?_
  refine R_v1i hX dX11_loggedTime_2 li_X11_278 mk_X11_logEntry mi_X11_logEntry rfl o_0 (c_logEntry hbq hu h h1) ⟨⟨by decide, by decide⟩, by decide, by decide, rfl, Nat.le_of_ble_eq_true rfl, rfl⟩ (fun x_2 F_2 h_2 => ?_)
  obtain ⟨h_2, e_2⟩ := h_2; replace e_2 := e_2.symm; subst e_2
  have hlc := hLo.1
  have hqe : (k < 0 ∧ x_2 = -1) ∨ (0 ≤ k ∧ ¬ k < F (b + 19) 0 ∧ x_2 = -2) ∨ (0 ≤ k ∧ k < F (b + 19) 0 ∧ x_2 = k) := by
    rw [h_2]
    by_cases q : k < 0
    · rw [if_pos q]; omega
    · rw [if_neg q]
      by_cases q2 : k < F (b + 19) 0
      · rw [if_pos q2]; omega
      · rw [if_neg q2]; omega
  clear h_2
  refine R_istore_2 hX c1_i dX11_loggedTime_5 ?_
  refine R_iload_2 hX dX11_loggedTime_6 ?_
  refine R_ifge (tgt := 14) hX dX11_loggedTime_7 (by decide) ⟨by omega, by omega⟩ (fun c_7 => ?_) (fun c_7 => ?_)
  · skip
    have hx : x_2 = k := by omega
    subst hx
    refine R_aload_0 hX dX11_loggedTime_14 ?_
    refine R_getq (v := b) hX dX11_loggedTime_15 fl_X11_40 o_0 hbq.symm (by omega) ?_
    refine R_getq (v := b + 19) hX dX11_loggedTime_18 fl_X11_266 (so_0 hb) rfl (by omega) ?_
    refine R_getq (v := b + 23) hX dX11_loggedTime_21 fl_X11_288 (so_19 hb) rfl (by omega) ?_
    refine R_iload_2 hX dX11_loggedTime_24 ?_
    refine R_iald hX dX11_loggedTime_25 (sa_23 hb) ⟨by omega, by omega⟩ ?_
    exact R_iret hX dX11_loggedTime_26 ⟨by first | (rw [if_neg (by omega), if_pos (by omega)]; done) | (rcases hqe with ⟨q, z⟩ | ⟨q, q2, z⟩ | ⟨q, q2, z⟩; (rw [if_pos q]; exact z); (rw [if_neg (by omega), if_neg q2]; exact z); omega), rfl⟩
  · skip
    refine R_iload_2 hX dX11_loggedTime_10 ?_
    refine R_goto (tgt := 26) hX dX11_loggedTime_11 (by decide) ?_
    exact R_iret hX dX11_loggedTime_26 ⟨by first | (rw [if_neg (by omega), if_pos (by omega)]; done) | (rcases hqe with ⟨q, z⟩ | ⟨q, q2, z⟩ | ⟨q, q2, z⟩; (rw [if_pos q]; exact z); (rw [if_neg (by omega), if_neg q2]; exact z); omega), rfl⟩
set_option maxRecDepth 100000 in
set_option maxHeartbeats 4000000 in
theorem c_change {V : VX} {T : Shp} {F : Hp} {b u v K : Int} (hbq : b = 40) (hu : isSu u) (h : CI b u v K F) {n s x : Int} (h1 : I32 n) (h2 : I32 s) (h3 : I32 x)  : Ct V yX11_change cX11_change 6 (some .int) 1 21 0 0 (SH T) [vr V 0, vi n, vi s, vi x] F (SH T) 1 (fun r F' => (¬ ((0 ≤ n ∧ n < F u 0) ∧ inR s x) ∧ r = -1 ∧ F' = F) ∨ (((0 ≤ n ∧ n < F u 0) ∧ inR s x) ∧ r = F (b + plc s) n ∧ F' = up F (b + plc s) n x)) := by
  refine Ct.of [some (vr V 0), some (vi n), some (vi s), some (vi x), none, none] (by decide) (by simp [lg_sl, vi_cat, vl_cat, vr_cat]) rfl (by simp [asc, lv_args, vi_cat, vl_cat, vr_cat]) (fun X hV hX => ?_)
  subst hV
  have hb : isSt b := Or.inl hbq
  obtain ⟨hs, hd, hS, hK, hL, hB, hk1, hk2, hS1, hS2⟩ := id h
  obtain ⟨hU, hA, hQ, hLo, hBd⟩ := id hS
  have hN := hU.1
  have hCC := hU.2.2.2.2.1
  refine R_aload_0 hX dX11_change_0 ?_
  refine R_getoE (v := u) hX dX11_change_1 fl_X11_33 o_0 rfl hs ?_
  refine R_iload_1 hX dX11_change_4 ?_
  refine R_v1i hX dX11_change_5 li_X11_85 mk_X7_hasNode mi_X7_hasNode rfl (to_0 hu) (c_hasNode hu hN h1) ⟨⟨by decide, by decide⟩, by decide, by decide, rfl, Nat.le_of_ble_eq_true rfl, rfl⟩ (fun x_5 F_5 h_5 => ?_)
  obtain ⟨h_5, e_5⟩ := h_5; replace e_5 := e_5.symm; subst e_5
  refine R_ifeq (tgt := 19) hX dX11_change_8 (by decide) ⟨by omega, by omega⟩ (fun c_8 => ?_) (fun c_8 => ?_)
  · skip
    refine R_iconst hX dX11_change_19 ?_
    exact R_iret hX dX11_change_20 (Or.inl ⟨fun z => by first | omega | exact h_13.elim (fun w => by omega) (fun w => w.2 z.2), rfl, rfl⟩)
  · skip
    refine R_iload_2 hX dX11_change_11 ?_
    refine R_iload_3 hX dX11_change_12 ?_
    refine R_s2i hX dX11_change_13 li_X11_309 mk_X11_isInRange ms_X11_isInRange (c_isInRange h2 h3) ⟨⟨by decide, by decide⟩, by decide, by decide, rfl, Nat.le_of_ble_eq_true rfl, rfl⟩ (fun x_13 F_13 h_13 => ?_)
    obtain ⟨h_13, e_13⟩ := h_13; replace e_13 := e_13.symm; subst e_13
    refine R_ifne (tgt := 21) hX dX11_change_16 (by decide) ⟨by omega, by omega⟩ (fun c_16 => ?_) (fun c_16 => ?_)
    · skip
      refine R_aload_0 hX dX11_change_21 ?_
      refine R_getq (v := b) hX dX11_change_22 fl_X11_40 o_0 hbq.symm (by omega) ?_
      refine R_iload_2 hX dX11_change_25 ?_
      refine R_v1r hX dX11_change_26 li_X11_312 mk_X8_row mi_X8_row rfl (so_0 hb) (c_stRow hb h2) ⟨⟨by decide, by decide⟩, by decide, by decide, rfl, Nat.le_of_ble_eq_true rfl, rfl⟩ (fun x_26 F_26 h_26 => ?_)
      obtain ⟨h_26, e_26⟩ := h_26; replace e_26 := e_26.symm; subst e_26
      have hrow : isA (SH T) x_26 .int 12 := by rw [h_26]; exact sa_plc hb
      subst h_26
      refine R_astore_4 hX c1_i dX11_change_29 ?_
      refine R_aload_4 hX dX11_change_31 ?_
      refine R_iload_1 hX dX11_change_33 ?_
      refine R_iald hX dX11_change_34 hrow ⟨by omega, by omega⟩ ?_
      refine R_istore_5 hX c1_r dX11_change_35 ?_
      refine R_aload_4 hX dX11_change_37 ?_
      refine R_iload_1 hX dX11_change_39 ?_
      refine R_iload_3 hX dX11_change_40 ?_
      refine R_iast hX dX11_change_41 hrow ⟨by omega, by omega⟩ ?_
      refine R_iload_5 hX dX11_change_42 ?_
      exact R_iret hX dX11_change_44 (Or.inr ⟨⟨by omega, h_13.elim (fun w => w.2) (fun w => by omega)⟩, rfl, rfl⟩)
    · skip
      refine R_iconst hX dX11_change_19 ?_
      exact R_iret hX dX11_change_20 (Or.inl ⟨fun z => by first | omega | exact h_13.elim (fun w => by omega) (fun w => w.2 z.2), rfl, rfl⟩)
set_option maxRecDepth 100000 in
set_option maxHeartbeats 4000000 in
theorem c_setRate {V : VX} {T : Shp} {F : Hp} {b u v K : Int} (hbq : b = 40) (hu : isSu u) (h : CI b u v K F) {n x : Int} (h1 : I32 n) (h2 : I32 x)  : Ct V yX11_setRate cX11_setRate 3 (some .int) 2 46 0 0 (SH T) [vr V 0, vi n, vi x] F (SH T) 1 (fun r F' => (¬ ((0 ≤ n ∧ n < F u 0) ∧ (0 ≤ x ∧ x ≤ 99)) ∧ r = -1 ∧ F' = F) ∨ (((0 ≤ n ∧ n < F u 0) ∧ (0 ≤ x ∧ x ≤ 99)) ∧ r = F (b + 1) n ∧ F' = up F (b + 1) n x)) := by
  refine Ct.of [some (vr V 0), some (vi n), some (vi x)] (by decide) (by simp [lg_sl, vi_cat, vl_cat, vr_cat]) rfl (by simp [asc, lv_args, vi_cat, vl_cat, vr_cat]) (fun X hV hX => ?_)
  subst hV
  have hb : isSt b := Or.inl hbq
  obtain ⟨hs, hd, hS, hK, hL, hB, hk1, hk2, hS1, hS2⟩ := id h
  obtain ⟨hU, hA, hQ, hLo, hBd⟩ := id hS
  have hN := hU.1
  have hCC := hU.2.2.2.2.1
  refine R_aload_0 hX dX11_setRate_0 ?_
  refine R_iload_1 hX dX11_setRate_1 ?_
  refine R_iconst hX dX11_setRate_2 ?_
  refine R_iload_2 hX dX11_setRate_3 ?_
  refine R_v3i hX dX11_setRate_4 li_X11_301 mk_X11_change mi_X11_change rfl o_0 (c_change hbq hu h h1 (by constructor <;> omega) h2) ⟨⟨by decide, by decide⟩, by decide, by decide, rfl, Nat.le_of_ble_eq_true rfl, rfl⟩ (fun x_4 F_4 h_4 => ?_)
  exact R_iret hX dX11_setRate_7 (by rw [inR_0] at h_4; exact h_4)
set_option maxRecDepth 100000 in
set_option maxHeartbeats 4000000 in
theorem c_mostServed {V : VX} {T : Shp} {F : Hp} {b u v K : Int} (hbq : b = 40) (hu : isSu u) (h : CI b u v K F)  : Ct V yX11_mostServed cX11_mostServed 3 (some .int) 2 49 0 0 (SH T) [vr V 0] F (SH T) 1 (fun r F' => r = msS b u F (F u 0).toNat ∧ F' = F) := by
  refine Ct.of [some (vr V 0), none, none] (by decide) (by simp [lg_sl, vi_cat, vl_cat, vr_cat]) rfl (by simp [asc, lv_args, vi_cat, vl_cat, vr_cat]) (fun X hV hX => ?_)
  subst hV
  have hb : isSt b := Or.inl hbq
  obtain ⟨hs, hd, hS, hK, hL, hB, hk1, hk2, hS1, hS2⟩ := id h
  obtain ⟨hU, hA, hQ, hLo, hBd⟩ := id hS
  have hN := hU.1
  have hCC := hU.2.2.2.2.1
  have hsd : ∀ n : Int, 0 ≤ n → n < F u 0 → (0 ≤ F (b + 14) n ∧ F (b + 14) n ≤ 2000000) ∧ (1 ≤ F (b + 3) n ∧ F (b + 3) n ≤ 9) := fun n z0 z1 => by have k1 := hBd n z0 z1; have k2 := hA n z0 z1; have k3 := hQ.2.1 n z0 z1; omega
  refine R_bipush hX dX11_mostServed_0 (by decide) ?_
  refine R_istore_1 hX c1_r dX11_mostServed_2 ?_
  refine R_iconst hX dX11_mostServed_3 ?_
  refine R_istore_2 hX c1_i dX11_mostServed_4 ?_
  have lp_5 : ∀ (n : Nat) (best : Int) (i : Int), (0 ≤ i ∧ i ≤ F u 0) → (best = msS b u F i.toNat) → (13 - i).toNat < n → R X (SH T) 0 0 5 [some (vr (xV X) 0), some (vi best), some (vi i)] [] F (Zq X (SH T) 1 (fun r F' => r = msS b u F (F u 0).toNat ∧ F' = F) 0 0) := by
    intro n
    induction n with
    | zero => intro best i iv5_0 iv5_1 hm; exact absurd hm (Nat.not_lt_zero _)
    | succ n ih_5 =>
      intro best i iv5_0 iv5_1 hm_5
      have hmr := msS_rng (b := b) (u := u) (F := F) i.toNat
      rw [← iv5_1] at hmr
      have hms := msS_s (b := b) (u := u) (F := F) iv5_0.1
      rw [← iv5_1] at hms
      refine R_iload_2 hX dX11_mostServed_5 ?_
      refine R_aload_0 hX dX11_mostServed_6 ?_
      refine R_getoE (v := u) hX dX11_mostServed_7 fl_X11_33 o_0 rfl hs ?_
      refine R_geti hX dX11_mostServed_10 fl_X11_79 (to_0 hu) rfl ?_
      refine R_icmpge (tgt := 53) hX dX11_mostServed_13 (by decide) ⟨by omega, by omega⟩ ⟨by omega, by omega⟩ (fun c_13 => ?_) (fun c_13 => ?_)
      · skip
        refine R_iload_1 hX dX11_mostServed_53 ?_
        exact R_iret hX dX11_mostServed_54 ⟨by rw [iv5_1, show i = F u 0 by omega], rfl⟩
      · skip
        refine R_aload_0 hX dX11_mostServed_16 ?_
        refine R_getoE (v := u) hX dX11_mostServed_17 fl_X11_33 o_0 rfl hs ?_
        refine R_iload_2 hX dX11_mostServed_20 ?_
        refine R_v1i hX dX11_mostServed_21 li_X11_105 mk_X7_hasLeaf mi_X7_hasLeaf rfl (to_0 hu) (c_hasLeaf hu hN hCC (by constructor <;> omega)) ⟨⟨by decide, by decide⟩, by decide, by decide, rfl, Nat.le_of_ble_eq_true rfl, rfl⟩ (fun x_21 F_21 h_21 => ?_)
        obtain ⟨h_21, e_21⟩ := h_21; replace e_21 := e_21.symm; subst e_21
        refine R_ifeq (tgt := 47) hX dX11_mostServed_24 (by decide) ⟨by omega, by omega⟩ (fun c_24 => ?_) (fun c_24 => ?_)
        · skip
          refine R_iinc_2 hX c1_i dX11_mostServed_47 ?_
          refine R_goto (tgt := 5) hX dX11_mostServed_50 (by decide) ?_
          exact ih_5 _ _ (by omega) (by rw [hms]; first | (rw [if_pos (by omega)]; done) | (rw [if_neg (by omega)]; done) | (rw [if_pos ⟨by omega, Or.inr (by omega)⟩]; done) | (rw [if_neg (fun z => by rcases z.2 with w | w <;> omega)]; done)) (by omega)
        · skip
          refine R_iload_1 hX dX11_mostServed_27 ?_
          refine R_bipush hX dX11_mostServed_28 (by decide) ?_
          refine R_icmpeq (tgt := 45) hX dX11_mostServed_30 (by decide) ⟨by omega, by omega⟩ ⟨by omega, by omega⟩ (fun c_30 => ?_) (fun c_30 => ?_)
          · skip
            refine R_iload_2 hX dX11_mostServed_45 ?_
            refine R_istore_1 hX c1_r dX11_mostServed_46 ?_
            refine R_iinc_2 hX c1_i dX11_mostServed_47 ?_
            refine R_goto (tgt := 5) hX dX11_mostServed_50 (by decide) ?_
            exact ih_5 _ _ (by omega) (by rw [hms]; first | (rw [if_pos (by omega)]; done) | (rw [if_neg (by omega)]; done) | (rw [if_pos ⟨by omega, Or.inr (by omega)⟩]; done) | (rw [if_neg (fun z => by rcases z.2 with w | w <;> omega)]; done)) (by omega)
          · skip
            refine R_aload_0 hX dX11_mostServed_33 ?_
            refine R_getq (v := b) hX dX11_mostServed_34 fl_X11_40 o_0 hbq.symm (by omega) ?_
            refine R_iload_2 hX dX11_mostServed_37 ?_
            refine R_iload_1 hX dX11_mostServed_38 ?_
            refine R_v2i hX dX11_mostServed_39 li_X11_263 mk_X8_compareServed mi_X8_compareServed rfl (so_0 hb) (c_cmpServed hu hN hb hsd (by omega) (by omega)) ⟨⟨by decide, by decide⟩, by decide, by decide, rfl, Nat.le_of_ble_eq_true rfl, rfl⟩ (fun x_39 F_39 h_39 => ?_)
            obtain ⟨h_39, e_39⟩ := h_39; replace e_39 := e_39.symm; subst e_39
            refine R_ifle (tgt := 47) hX dX11_mostServed_42 (by decide) ⟨by omega, by omega⟩ (fun c_42 => ?_) (fun c_42 => ?_)
            · skip
              refine R_iinc_2 hX c1_i dX11_mostServed_47 ?_
              refine R_goto (tgt := 5) hX dX11_mostServed_50 (by decide) ?_
              exact ih_5 _ _ (by omega) (by rw [hms]; first | (rw [if_pos (by omega)]; done) | (rw [if_neg (by omega)]; done) | (rw [if_pos ⟨by omega, Or.inr (by omega)⟩]; done) | (rw [if_neg (fun z => by rcases z.2 with w | w <;> omega)]; done)) (by omega)
            · skip
              refine R_iload_2 hX dX11_mostServed_45 ?_
              refine R_istore_1 hX c1_r dX11_mostServed_46 ?_
              refine R_iinc_2 hX c1_i dX11_mostServed_47 ?_
              refine R_goto (tgt := 5) hX dX11_mostServed_50 (by decide) ?_
              exact ih_5 _ _ (by omega) (by rw [hms]; first | (rw [if_pos (by omega)]; done) | (rw [if_neg (by omega)]; done) | (rw [if_pos ⟨by omega, Or.inr (by omega)⟩]; done) | (rw [if_neg (fun z => by rcases z.2 with w | w <;> omega)]; done)) (by omega)
  exact lp_5 14 _ _ (by omega) rfl (by omega)
