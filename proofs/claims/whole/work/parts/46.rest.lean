def fxS (b u : Int) (F : Hp) (n : Int) : Int := if F (u + 4) n = 0 then (10 * F (b + 14) n).tdiv (F (b + 3) n) else 0
def lvS (u : Int) (F : Hp) (n : Int) : Int := if F (u + 4) n = 0 then 1 else 0
def frS (b u : Int) (F : Hp) : Int := if sumN (fun n => fxS b u F n * fxS b u F n) (F u 0).toNat = 0 then 1000 else (if sumN (lvS u F) (F u 0).toNat * sumN (fun n => fxS b u F n * fxS b u F n) (F u 0).toNat = 0 then 0 else (1000 * sumN (fxS b u F) (F u 0).toNat * sumN (fxS b u F) (F u 0).toNat).tdiv (sumN (lvS u F) (F u 0).toNat * sumN (fun n => fxS b u F n * fxS b u F n) (F u 0).toNat))
theorem fxS_rng {b u n : Int} {F : Hp} (h1 : 0 ≤ F (b + 14) n ∧ F (b + 14) n ≤ 100000) (h2 : 1 ≤ F (b + 3) n) : 0 ≤ fxS b u F n ∧ fxS b u F n ≤ 1000000 := by
  unfold fxS
  split
  · rw [Int.tdiv_eq_ediv_of_nonneg (by omega)]
    have q1 := Int.ediv_nonneg (show 0 ≤ 10 * F (b + 14) n by omega) (show 0 ≤ F (b + 3) n by omega)
    have q2 := Int.ediv_le_self (F (b + 3) n) (show 0 ≤ 10 * F (b + 14) n by omega)
    omega
  · omega
def sxS (b u : Int) (F : Hp) (n : Int) : Int := if F (u + 4) n = 0 then F (b + 14) n else 0
def swS (b u : Int) (F : Hp) (n : Int) : Int := if F (u + 4) n = 0 then F (b + 3) n else 0
def msS (b u : Int) (F : Hp) : Nat → Int
  | 0 => -2
  | k + 1 => if F (u + 4) k = 0 ∧ (msS b u F k = -2 ∨ F (b + 14) (msS b u F k) * F (b + 3) k < F (b + 14) k * F (b + 3) (msS b u F k)) then k else msS b u F k
theorem msS_s {b u i : Int} {F : Hp} (h : 0 ≤ i) : msS b u F (i + 1).toNat = if F (u + 4) i = 0 ∧ (msS b u F i.toNat = -2 ∨ F (b + 14) (msS b u F i.toNat) * F (b + 3) i < F (b + 14) i * F (b + 3) (msS b u F i.toNat)) then i else msS b u F i.toNat := by
  obtain ⟨k, rfl⟩ : ∃ k : Nat, i = k := ⟨i.toNat, by omega⟩
  rfl
theorem msS_rng {b u : Int} {F : Hp} : ∀ k : Nat, msS b u F k = -2 ∨ (0 ≤ msS b u F k ∧ msS b u F k < k)
  | 0 => Or.inl rfl
  | k + 1 => by
    unfold msS
    have := msS_rng (b := b) (u := u) (F := F) k
    split <;> omega
set_option maxRecDepth 100000 in
set_option maxHeartbeats 4000000 in
theorem c_busiestCost {V : VX} {F : Hp} {b u v K : Int} (hbq : b = 40) (hu : isSu u) (h : CI b u v K F) {w : Int} (h1 : I32 w)  : Ct V yX11_busiestCost cX11_busiestCost 2 (some .int) 2 48 0 0 SH [vr V 0, vi w] F SH 1 (fun r F' => r = (if w < 1 then -1 else maxN (fun k => sumN (fun j => if 0 ≤ F (b + 23) k - F (b + 23) j ∧ F (b + 23) k - F (b + 23) j < w then F (b + 21) j else 0) (F (b + 19) 0).toNat) (F (b + 19) 0).toNat) ∧ F' = F) := by
  refine Ct.of [some (vr V 0), some (vi w)] (by decide) (by simp [lg_sl, vi_cat, vl_cat, vr_cat]) rfl (by simp [asc, lv_args, vi_cat, vl_cat, vr_cat]) (fun X hV hX => ?_)
  subst hV
  have hb : isSt b := Or.inl hbq
  obtain ⟨hs, hd, hS, hK, hL, hB, hk1, hk2, hS1, hS2⟩ := id h
  obtain ⟨hU, hA, hQ, hLo, hBd⟩ := id hS
  have hN := hU.1
  have hCC := hU.2.2.2.2.1
  refine R_iload_1 hX dX11_busiestCost_0 ?_
  refine R_iconst hX dX11_busiestCost_1 ?_
  refine R_icmpge (tgt := 9) hX dX11_busiestCost_2 (by decide) ⟨by omega, by omega⟩ ⟨by omega, by omega⟩ (fun c_2 => ?_) (fun c_2 => ?_)
  · skip
    refine R_aload_0 hX dX11_busiestCost_9 ?_
    refine R_getq (v := b) hX dX11_busiestCost_10 fl_X11_40 o_0 hbq.symm (by omega) ?_
    refine R_getq (v := b + 19) hX dX11_busiestCost_13 fl_X11_266 (so_0 hb) rfl (by omega) ?_
    refine R_iload_1 hX dX11_busiestCost_16 ?_
    refine R_v1i hX dX11_busiestCost_17 li_X11_270 mk_X3_greatestSum mi_X3_greatestSum rfl (so_19 hb) (c_greatestSum hb (hLo.lg2 hQ) h1) ⟨⟨by decide, by decide⟩, by decide, by decide, rfl, Nat.le_of_ble_eq_true rfl, rfl⟩ (fun x_17 F_17 h_17 => ?_)
    obtain ⟨h_17, e_17⟩ := h_17; replace e_17 := e_17.symm; subst e_17
    exact R_iret hX dX11_busiestCost_20 ⟨by first | rw [if_pos (by omega)] | rw [if_neg (by omega), h_17], rfl⟩
  · skip
    refine R_iconst hX dX11_busiestCost_5 ?_
    refine R_goto (tgt := 20) hX dX11_busiestCost_6 (by decide) ?_
    exact R_iret hX dX11_busiestCost_20 ⟨by first | rw [if_pos (by omega)] | rw [if_neg (by omega), h_17], rfl⟩
set_option maxRecDepth 100000 in
set_option maxHeartbeats 4000000 in
theorem c_recentCost {V : VX} {F : Hp} {b u v K : Int} (hbq : b = 40) (hu : isSu u) (h : CI b u v K F) {w : Int} (h1 : I32 w)  : Ct V yX11_recentCost cX11_recentCost 2 (some .int) 1 25 0 0 SH [vr V 0, vi w] F SH 1 (fun r F' => r = (if w < 1 then -1 else sumN (fun k => if 0 ≤ F b 1 - F (b + 23) k ∧ F b 1 - F (b + 23) k < w then F (b + 21) k else 0) (F (b + 19) 0).toNat) ∧ F' = F) := by
  refine Ct.of [some (vr V 0), some (vi w)] (by decide) (by simp [lg_sl, vi_cat, vl_cat, vr_cat]) rfl (by simp [asc, lv_args, vi_cat, vl_cat, vr_cat]) (fun X hV hX => ?_)
  subst hV
  have hb : isSt b := Or.inl hbq
  obtain ⟨hs, hd, hS, hK, hL, hB, hk1, hk2, hS1, hS2⟩ := id h
  obtain ⟨hU, hA, hQ, hLo, hBd⟩ := id hS
  have hN := hU.1
  have hCC := hU.2.2.2.2.1
  refine R_iload_1 hX dX11_recentCost_0 ?_
  refine R_iconst hX dX11_recentCost_1 ?_
  refine R_icmpge (tgt := 9) hX dX11_recentCost_2 (by decide) ⟨by omega, by omega⟩ ⟨by omega, by omega⟩ (fun c_2 => ?_) (fun c_2 => ?_)
  · skip
    refine R_aload_0 hX dX11_recentCost_9 ?_
    refine R_getq (v := b) hX dX11_recentCost_10 fl_X11_40 o_0 hbq.symm (by omega) ?_
    refine R_getq (v := b + 19) hX dX11_recentCost_13 fl_X11_266 (so_0 hb) rfl (by omega) ?_
    refine R_aload_0 hX dX11_recentCost_16 ?_
    refine R_getq (v := b) hX dX11_recentCost_17 fl_X11_40 o_0 hbq.symm (by omega) ?_
    refine R_geti hX dX11_recentCost_20 fl_X11_140 (so_0 hb) rfl ?_
    refine R_iload_1 hX dX11_recentCost_23 ?_
    refine R_v2i hX dX11_recentCost_24 li_X11_290 mk_X3_sumSince mi_X3_sumSince rfl (so_19 hb) (c_sumSince hb (hLo.lg2 hQ) hQ.1 h1) ⟨⟨by decide, by decide⟩, by decide, by decide, rfl, Nat.le_of_ble_eq_true rfl, rfl⟩ (fun x_24 F_24 h_24 => ?_)
    obtain ⟨h_24, e_24⟩ := h_24; replace e_24 := e_24.symm; subst e_24
    exact R_iret hX dX11_recentCost_27 ⟨by first | rw [if_pos (by omega)] | rw [if_neg (by omega), h_24], rfl⟩
  · skip
    refine R_iconst hX dX11_recentCost_5 ?_
    refine R_goto (tgt := 27) hX dX11_recentCost_6 (by decide) ?_
    exact R_iret hX dX11_recentCost_27 ⟨by first | rw [if_pos (by omega)] | rw [if_neg (by omega), h_24], rfl⟩
set_option maxRecDepth 100000 in
set_option maxHeartbeats 4000000 in
theorem c_logEntry {V : VX} {F : Hp} {b u v K : Int} (hbq : b = 40) (hu : isSu u) (h : CI b u v K F) {k : Int} (h1 : I32 k)  : Ct V yX11_logEntry cX11_logEntry 2 (some .int) 0 0 0 0 SH [vr V 0, vi k] F SH 1 (fun r F' => r = (if k < 0 then -1 else if k < F (b + 19) 0 then k else -2) ∧ F' = F) := by
  refine Ct.of [some (vr V 0), some (vi k)] (by decide) (by simp [lg_sl, vi_cat, vl_cat, vr_cat]) rfl (by simp [asc, lv_args, vi_cat, vl_cat, vr_cat]) (fun X hV hX => ?_)
  subst hV
  have hb : isSt b := Or.inl hbq
  obtain ⟨hs, hd, hS, hK, hL, hB, hk1, hk2, hS1, hS2⟩ := id h
  obtain ⟨hU, hA, hQ, hLo, hBd⟩ := id hS
  have hN := hU.1
  have hCC := hU.2.2.2.2.1
  have hlc := hLo.1
  refine R_iload_1 hX dX11_logEntry_0 ?_
  refine R_ifge (tgt := 6) hX dX11_logEntry_1 (by decide) ⟨by omega, by omega⟩ (fun c_1 => ?_) (fun c_1 => ?_)
  · skip
    refine R_iload_1 hX dX11_logEntry_6 ?_
    refine R_aload_0 hX dX11_logEntry_7 ?_
    refine R_getq (v := b) hX dX11_logEntry_8 fl_X11_40 o_0 hbq.symm (by omega) ?_
    refine R_getq (v := b + 19) hX dX11_logEntry_11 fl_X11_266 (so_0 hb) rfl (by omega) ?_
    refine R_geti hX dX11_logEntry_14 fl_X11_275 (so_19 hb) rfl ?_
    refine R_icmpge (tgt := 24) hX dX11_logEntry_17 (by decide) ⟨by omega, by omega⟩ ⟨by omega, by omega⟩ (fun c_17 => ?_) (fun c_17 => ?_)
    · skip
      refine R_bipush hX dX11_logEntry_24 (by decide) ?_
      exact R_iret hX dX11_logEntry_26 ⟨by first | (rw [if_pos (by omega)]; done) | (rw [if_neg (by omega)]; first | (rw [if_pos (by omega)]; done) | (rw [if_neg (by omega)]; done)), rfl⟩
    · skip
      refine R_iload_1 hX dX11_logEntry_20 ?_
      refine R_goto (tgt := 26) hX dX11_logEntry_21 (by decide) ?_
      exact R_iret hX dX11_logEntry_26 ⟨by first | (rw [if_pos (by omega)]; done) | (rw [if_neg (by omega)]; first | (rw [if_pos (by omega)]; done) | (rw [if_neg (by omega)]; done)), rfl⟩
  · skip
    refine R_iconst hX dX11_logEntry_4 ?_
    exact R_iret hX dX11_logEntry_5 ⟨by first | (rw [if_pos (by omega)]; done) | (rw [if_neg (by omega)]; first | (rw [if_pos (by omega)]; done) | (rw [if_neg (by omega)]; done)), rfl⟩
set_option maxRecDepth 100000 in
set_option maxHeartbeats 4000000 in
theorem c_loggedLeaf {V : VX} {F : Hp} {b u v K : Int} (hbq : b = 40) (hu : isSu u) (h : CI b u v K F) {k : Int} (h1 : I32 k)  : Ct V yX11_loggedLeaf cX11_loggedLeaf 3 (some .int) 1 21 0 0 SH [vr V 0, vi k] F SH 1 (fun r F' => r = (if k < 0 then -1 else if k < F (b + 19) 0 then F (b + 20) k else -2) ∧ F' = F) := by
  refine Ct.of [some (vr V 0), some (vi k), none] (by decide) (by simp [lg_sl, vi_cat, vl_cat, vr_cat]) rfl (by simp [asc, lv_args, vi_cat, vl_cat, vr_cat]) (fun X hV hX => ?_)
  subst hV
  have hb : isSt b := Or.inl hbq
  obtain ⟨hs, hd, hS, hK, hL, hB, hk1, hk2, hS1, hS2⟩ := id h
  obtain ⟨hU, hA, hQ, hLo, hBd⟩ := id hS
  have hN := hU.1
  have hCC := hU.2.2.2.2.1
  refine R_aload_0 hX dX11_loggedLeaf_0 ?_
  refine R_iload_1 hX dX11_loggedLeaf_1 ?_
  refine R_v1i hX dX11_loggedLeaf_2 li_X11_278 mk_X11_logEntry mi_X11_logEntry rfl o_0 (c_logEntry hbq hu h h1) ⟨⟨by decide, by decide⟩, by decide, by decide, rfl, Nat.le_of_ble_eq_true rfl, rfl⟩ (fun x_2 F_2 h_2 => ?_)
  obtain ⟨h_2, e_2⟩ := h_2; replace e_2 := e_2.symm; subst e_2
  have hlc := hLo.1
  have hqe : (k < 0 ∧ x_2 = -1) ∨ (0 ≤ k ∧ ¬ k < F (b + 19) 0 ∧ x_2 = -2) ∨ (0 ≤ k ∧ k < F (b + 19) 0 ∧ x_2 = k) := by
    rw [h_2]
    by_cases q : k < 0
    · rw [if_pos q]; omega
    · rw [if_neg q]
      by_cases q2 : k < F (b + 19) 0
      · rw [if_pos q2]; omega
      · rw [if_neg q2]; omega
  clear h_2
  refine R_istore_2 hX c1_i dX11_loggedLeaf_5 ?_
  refine R_iload_2 hX dX11_loggedLeaf_6 ?_
  refine R_ifge (tgt := 14) hX dX11_loggedLeaf_7 (by decide) ⟨by omega, by omega⟩ (fun c_7 => ?_) (fun c_7 => ?_)
  · skip
    have hx : x_2 = k := by omega
    subst hx
    refine R_aload_0 hX dX11_loggedLeaf_14 ?_
    refine R_getq (v := b) hX dX11_loggedLeaf_15 fl_X11_40 o_0 hbq.symm (by omega) ?_
    refine R_getq (v := b + 19) hX dX11_loggedLeaf_18 fl_X11_266 (so_0 hb) rfl (by omega) ?_
    refine R_getq (v := b + 20) hX dX11_loggedLeaf_21 fl_X11_281 (so_19 hb) rfl (by omega) ?_
    refine R_iload_2 hX dX11_loggedLeaf_24 ?_
    refine R_iald hX dX11_loggedLeaf_25 (sa_20 hb) ⟨by omega, by omega⟩ ?_
    exact R_iret hX dX11_loggedLeaf_26 ⟨by first | (rw [if_neg (by omega), if_pos (by omega)]; done) | (rcases hqe with ⟨q, z⟩ | ⟨q, q2, z⟩ | ⟨q, q2, z⟩; (rw [if_pos q]; exact z); (rw [if_neg (by omega), if_neg q2]; exact z); omega), rfl⟩
  · skip
    refine R_iload_2 hX dX11_loggedLeaf_10 ?_
    refine R_goto (tgt := 26) hX dX11_loggedLeaf_11 (by decide) ?_
    exact R_iret hX dX11_loggedLeaf_26 ⟨by first | (rw [if_neg (by omega), if_pos (by omega)]; done) | (rcases hqe with ⟨q, z⟩ | ⟨q, q2, z⟩ | ⟨q, q2, z⟩; (rw [if_pos q]; exact z); (rw [if_neg (by omega), if_neg q2]; exact z); omega), rfl⟩
set_option maxRecDepth 100000 in
set_option maxHeartbeats 4000000 in
theorem c_loggedCost {V : VX} {F : Hp} {b u v K : Int} (hbq : b = 40) (hu : isSu u) (h : CI b u v K F) {k : Int} (h1 : I32 k)  : Ct V yX11_loggedCost cX11_loggedCost 3 (some .int) 1 21 0 0 SH [vr V 0, vi k] F SH 1 (fun r F' => r = (if k < 0 then -1 else if k < F (b + 19) 0 then F (b + 21) k else -2) ∧ F' = F) := by
  refine Ct.of [some (vr V 0), some (vi k), none] (by decide) (by simp [lg_sl, vi_cat, vl_cat, vr_cat]) rfl (by simp [asc, lv_args, vi_cat, vl_cat, vr_cat]) (fun X hV hX => ?_)
  subst hV
  have hb : isSt b := Or.inl hbq
  obtain ⟨hs, hd, hS, hK, hL, hB, hk1, hk2, hS1, hS2⟩ := id h
  obtain ⟨hU, hA, hQ, hLo, hBd⟩ := id hS
  have hN := hU.1
  have hCC := hU.2.2.2.2.1
  refine R_aload_0 hX dX11_loggedCost_0 ?_
  refine R_iload_1 hX dX11_loggedCost_1 ?_
  refine R_v1i hX dX11_loggedCost_2 li_X11_278 mk_X11_logEntry mi_X11_logEntry rfl o_0 (c_logEntry hbq hu h h1) ⟨⟨by decide, by decide⟩, by decide, by decide, rfl, Nat.le_of_ble_eq_true rfl, rfl⟩ (fun x_2 F_2 h_2 => ?_)
  obtain ⟨h_2, e_2⟩ := h_2; replace e_2 := e_2.symm; subst e_2
  have hlc := hLo.1
  have hqe : (k < 0 ∧ x_2 = -1) ∨ (0 ≤ k ∧ ¬ k < F (b + 19) 0 ∧ x_2 = -2) ∨ (0 ≤ k ∧ k < F (b + 19) 0 ∧ x_2 = k) := by
    rw [h_2]
    by_cases q : k < 0
    · rw [if_pos q]; omega
    · rw [if_neg q]
      by_cases q2 : k < F (b + 19) 0
      · rw [if_pos q2]; omega
      · rw [if_neg q2]; omega
  clear h_2
  refine R_istore_2 hX c1_i dX11_loggedCost_5 ?_
  refine R_iload_2 hX dX11_loggedCost_6 ?_
  refine R_ifge (tgt := 14) hX dX11_loggedCost_7 (by decide) ⟨by omega, by omega⟩ (fun c_7 => ?_) (fun c_7 => ?_)
  · skip
    have hx : x_2 = k := by omega
    subst hx
    refine R_aload_0 hX dX11_loggedCost_14 ?_
    refine R_getq (v := b) hX dX11_loggedCost_15 fl_X11_40 o_0 hbq.symm (by omega) ?_
    refine R_getq (v := b + 19) hX dX11_loggedCost_18 fl_X11_266 (so_0 hb) rfl (by omega) ?_
    refine R_getq (v := b + 21) hX dX11_loggedCost_21 fl_X11_284 (so_19 hb) rfl (by omega) ?_
    refine R_iload_2 hX dX11_loggedCost_24 ?_
    refine R_iald hX dX11_loggedCost_25 (sa_21 hb) ⟨by omega, by omega⟩ ?_
    exact R_iret hX dX11_loggedCost_26 ⟨by first | (rw [if_neg (by omega), if_pos (by omega)]; done) | (rcases hqe with ⟨q, z⟩ | ⟨q, q2, z⟩ | ⟨q, q2, z⟩; (rw [if_pos q]; exact z); (rw [if_neg (by omega), if_neg q2]; exact z); omega), rfl⟩
  · skip
    refine R_iload_2 hX dX11_loggedCost_10 ?_
    refine R_goto (tgt := 26) hX dX11_loggedCost_11 (by decide) ?_
    exact R_iret hX dX11_loggedCost_26 ⟨by first | (rw [if_neg (by omega), if_pos (by omega)]; done) | (rcases hqe with ⟨q, z⟩ | ⟨q, q2, z⟩ | ⟨q, q2, z⟩; (rw [if_pos q]; exact z); (rw [if_neg (by omega), if_neg q2]; exact z); omega), rfl⟩
set_option maxRecDepth 100000 in
set_option maxHeartbeats 4000000 in
theorem c_loggedLender {V : VX} {F : Hp} {b u v K : Int} (hbq : b = 40) (hu : isSu u) (h : CI b u v K F) {k : Int} (h1 : I32 k)  : Ct V yX11_loggedLender cX11_loggedLender 3 (some .int) 1 21 0 0 SH [vr V 0, vi k] F SH 1 (fun r F' => r = (if k < 0 then -1 else if k < F (b + 19) 0 then F (b + 22) k else -2) ∧ F' = F) := by
  refine Ct.of [some (vr V 0), some (vi k), none] (by decide) (by simp [lg_sl, vi_cat, vl_cat, vr_cat]) rfl (by simp [asc, lv_args, vi_cat, vl_cat, vr_cat]) (fun X hV hX => ?_)
  subst hV
  have hb : isSt b := Or.inl hbq
  obtain ⟨hs, hd, hS, hK, hL, hB, hk1, hk2, hS1, hS2⟩ := id h
  obtain ⟨hU, hA, hQ, hLo, hBd⟩ := id hS
  have hN := hU.1
  have hCC := hU.2.2.2.2.1
  refine R_aload_0 hX dX11_loggedLender_0 ?_
  refine R_iload_1 hX dX11_loggedLender_1 ?_
  refine R_v1i hX dX11_loggedLender_2 li_X11_278 mk_X11_logEntry mi_X11_logEntry rfl o_0 (c_logEntry hbq hu h h1) ⟨⟨by decide, by decide⟩, by decide, by decide, rfl, Nat.le_of_ble_eq_true rfl, rfl⟩ (fun x_2 F_2 h_2 => ?_)
  obtain ⟨h_2, e_2⟩ := h_2; replace e_2 := e_2.symm; subst e_2
  have hlc := hLo.1
  have hqe : (k < 0 ∧ x_2 = -1) ∨ (0 ≤ k ∧ ¬ k < F (b + 19) 0 ∧ x_2 = -2) ∨ (0 ≤ k ∧ k < F (b + 19) 0 ∧ x_2 = k) := by
    rw [h_2]
    by_cases q : k < 0
    · rw [if_pos q]; omega
    · rw [if_neg q]
      by_cases q2 : k < F (b + 19) 0
      · rw [if_pos q2]; omega
      · rw [if_neg q2]; omega
  clear h_2
  refine R_istore_2 hX c1_i dX11_loggedLender_5 ?_
  refine R_iload_2 hX dX11_loggedLender_6 ?_
  refine R_ifge (tgt := 14) hX dX11_loggedLender_7 (by decide) ⟨by omega, by omega⟩ (fun c_7 => ?_) (fun c_7 => ?_)
  · skip
    have hx : x_2 = k := by omega
    subst hx
    refine R_aload_0 hX dX11_loggedLender_14 ?_
    refine R_getq (v := b) hX dX11_loggedLender_15 fl_X11_40 o_0 hbq.symm (by omega) ?_
    refine R_getq (v := b + 19) hX dX11_loggedLender_18 fl_X11_266 (so_0 hb) rfl (by omega) ?_
    refine R_getq (v := b + 22) hX dX11_loggedLender_21 fl_X11_285 (so_19 hb) rfl (by omega) ?_
    refine R_iload_2 hX dX11_loggedLender_24 ?_
    refine R_iald hX dX11_loggedLender_25 (sa_22 hb) ⟨by omega, by omega⟩ ?_
    exact R_iret hX dX11_loggedLender_26 ⟨by first | (rw [if_neg (by omega), if_pos (by omega)]; done) | (rcases hqe with ⟨q, z⟩ | ⟨q, q2, z⟩ | ⟨q, q2, z⟩; (rw [if_pos q]; exact z); (rw [if_neg (by omega), if_neg q2]; exact z); omega), rfl⟩
  · skip
    refine R_iload_2 hX dX11_loggedLender_10 ?_
    refine R_goto (tgt := 26) hX dX11_loggedLender_11 (by decide) ?_
    exact R_iret hX dX11_loggedLender_26 ⟨by first | (rw [if_neg (by omega), if_pos (by omega)]; done) | (rcases hqe with ⟨q, z⟩ | ⟨q, q2, z⟩ | ⟨q, q2, z⟩; (rw [if_pos q]; exact z); (rw [if_neg (by omega), if_neg q2]; exact z); omega), rfl⟩
set_option maxRecDepth 100000 in
set_option maxHeartbeats 4000000 in
theorem c_loggedTime {V : VX} {F : Hp} {b u v K : Int} (hbq : b = 40) (hu : isSu u) (h : CI b u v K F) {k : Int} (h1 : I32 k)  : Ct V yX11_loggedTime cX11_loggedTime 3 (some .int) 1 21 0 0 SH [vr V 0, vi k] F SH 1 (fun r F' => r = (if k < 0 then -1 else if k < F (b + 19) 0 then F (b + 23) k else -2) ∧ F' = F) := by
  refine Ct.of [some (vr V 0), some (vi k), none] (by decide) (by simp [lg_sl, vi_cat, vl_cat, vr_cat]) rfl (by simp [asc, lv_args, vi_cat, vl_cat, vr_cat]) (fun X hV hX => ?_)
  subst hV
  have hb : isSt b := Or.inl hbq
  obtain ⟨hs, hd, hS, hK, hL, hB, hk1, hk2, hS1, hS2⟩ := id h
  obtain ⟨hU, hA, hQ, hLo, hBd⟩ := id hS
  have hN := hU.1
  have hCC := hU.2.2.2.2.1
  refine R_aload_0 hX dX11_loggedTime_0 ?_
  refine R_iload_1 hX dX11_loggedTime_1 ?_
  refine R_v1i hX dX11_loggedTime_2 li_X11_278 mk_X11_logEntry mi_X11_logEntry rfl o_0 (c_logEntry hbq hu h h1) ⟨⟨by decide, by decide⟩, by decide, by decide, rfl, Nat.le_of_ble_eq_true rfl, rfl⟩ (fun x_2 F_2 h_2 => ?_)
  obtain ⟨h_2, e_2⟩ := h_2; replace e_2 := e_2.symm; subst e_2
  have hlc := hLo.1
  have hqe : (k < 0 ∧ x_2 = -1) ∨ (0 ≤ k ∧ ¬ k < F (b + 19) 0 ∧ x_2 = -2) ∨ (0 ≤ k ∧ k < F (b + 19) 0 ∧ x_2 = k) := by
    rw [h_2]
    by_cases q : k < 0
    · rw [if_pos q]; omega
    · rw [if_neg q]
      by_cases q2 : k < F (b + 19) 0
      · rw [if_pos q2]; omega
      · rw [if_neg q2]; omega
  clear h_2
  refine R_istore_2 hX c1_i dX11_loggedTime_5 ?_
  refine R_iload_2 hX dX11_loggedTime_6 ?_
  refine R_ifge (tgt := 14) hX dX11_loggedTime_7 (by decide) ⟨by omega, by omega⟩ (fun c_7 => ?_) (fun c_7 => ?_)
  · skip
    have hx : x_2 = k := by omega
    subst hx
    refine R_aload_0 hX dX11_loggedTime_14 ?_
    refine R_getq (v := b) hX dX11_loggedTime_15 fl_X11_40 o_0 hbq.symm (by omega) ?_
    refine R_getq (v := b + 19) hX dX11_loggedTime_18 fl_X11_266 (so_0 hb) rfl (by omega) ?_
    refine R_getq (v := b + 23) hX dX11_loggedTime_21 fl_X11_288 (so_19 hb) rfl (by omega) ?_
    refine R_iload_2 hX dX11_loggedTime_24 ?_
    refine R_iald hX dX11_loggedTime_25 (sa_23 hb) ⟨by omega, by omega⟩ ?_
    exact R_iret hX dX11_loggedTime_26 ⟨by first | (rw [if_neg (by omega), if_pos (by omega)]; done) | (rcases hqe with ⟨q, z⟩ | ⟨q, q2, z⟩ | ⟨q, q2, z⟩; (rw [if_pos q]; exact z); (rw [if_neg (by omega), if_neg q2]; exact z); omega), rfl⟩
  · skip
    refine R_iload_2 hX dX11_loggedTime_10 ?_
    refine R_goto (tgt := 26) hX dX11_loggedTime_11 (by decide) ?_
    exact R_iret hX dX11_loggedTime_26 ⟨by first | (rw [if_neg (by omega), if_pos (by omega)]; done) | (rcases hqe with ⟨q, z⟩ | ⟨q, q2, z⟩ | ⟨q, q2, z⟩; (rw [if_pos q]; exact z); (rw [if_neg (by omega), if_neg q2]; exact z); omega), rfl⟩
set_option maxRecDepth 100000 in
set_option maxHeartbeats 4000000 in
theorem c_setupLength {V : VX} {F : Hp} {b u v K : Int} (hbq : b = 40) (hu : isSu u) (h : CI b u v K F)  : Ct V yX11_setupLength cX11_setupLength 1 (some .int) 7 156 0 0 SH [vr V 0] F SH 1 (fun r F' => r = (txtT b u F).length ∧ F' = wrN (txtT b u F) 0 (W0 (-2) F)) := by
  refine Ct.of [some (vr V 0)] (by decide) (by simp [lg_sl, vi_cat, vl_cat, vr_cat]) rfl (by simp [asc, lv_args, vi_cat, vl_cat, vr_cat]) (fun X hV hX => ?_)
  subst hV
  have hb : isSt b := Or.inl hbq
  obtain ⟨hs, hd, hS, hK, hL, hB, hk1, hk2, hS1, hS2⟩ := id h
  obtain ⟨hU, hA, hQ, hLo, hBd⟩ := id hS
  have hN := hU.1
  have hCC := hU.2.2.2.2.1
  refine R_aload_0 hX dX11_setupLength_0 ?_
  refine R_getq (v := 22) hX dX11_setupLength_1 fl_X11_26 o_0 rfl (by omega) ?_
  refine R_aload_0 hX dX11_setupLength_4 ?_
  refine R_getoE (v := u) hX dX11_setupLength_5 fl_X11_33 o_0 rfl hs ?_
  refine R_aload_0 hX dX11_setupLength_8 ?_
  refine R_getq (v := b) hX dX11_setupLength_9 fl_X11_40 o_0 hbq.symm (by omega) ?_
  refine R_bipush hX dX11_setupLength_12 (by decide) ?_
  refine R_v3v hX dX11_setupLength_14 li_X11_293 mk_X10_write mi_X10_write rfl o_22 (c_write hu hb hU hA (by have := hQ.1; constructor <;> omega) (by constructor <;> omega)) ⟨⟨by decide, by decide⟩, by decide, by decide, rfl, Nat.le_of_ble_eq_true rfl, rfl⟩ (fun x_14 F_14 h_14 => ?_)
  subst h_14
  obtain ⟨g0, -, -, g1⟩ := wrN_f (txtT b u F) 0 (W0 (-2) F)
  obtain ⟨w0, w1, w2, w3⟩ := W0_f (-2) F
  refine R_aload_0 hX dX11_setupLength_17 ?_
  refine R_getq (v := 22) hX dX11_setupLength_18 fl_X11_26 o_0 rfl (by omega) ?_
  refine R_geti hX dX11_setupLength_21 fl_X11_297 o_22 rfl ?_
  exact R_iret hX dX11_setupLength_24 ⟨by rw [g0, w0, Int.zero_add], rfl⟩
set_option maxRecDepth 100000 in
set_option maxHeartbeats 4000000 in
theorem c_setupByte {V : VX} {F : Hp} {b u v K : Int} (hbq : b = 40) (hu : isSu u) (h : CI b u v K F) {i : Int} (h1 : I32 i)  : Ct V yX11_setupByte cX11_setupByte 2 (some .int) 7 156 0 0 SH [vr V 0, vi i] F SH 1 (fun r F' => (i < 0 ∧ r = -1 ∧ F' = F) ∨ (0 ≤ i ∧ r = (if i < (txtT b u F).length then (txtT b u F).getD i.toNat 0 else -2) ∧ F' = wrN (txtT b u F) 0 (W0 i F))) := by
  refine Ct.of [some (vr V 0), some (vi i)] (by decide) (by simp [lg_sl, vi_cat, vl_cat, vr_cat]) rfl (by simp [asc, lv_args, vi_cat, vl_cat, vr_cat]) (fun X hV hX => ?_)
  subst hV
  have hb : isSt b := Or.inl hbq
  obtain ⟨hs, hd, hS, hK, hL, hB, hk1, hk2, hS1, hS2⟩ := id h
  obtain ⟨hU, hA, hQ, hLo, hBd⟩ := id hS
  have hN := hU.1
  have hCC := hU.2.2.2.2.1
  refine R_iload_1 hX dX11_setupByte_0 ?_
  refine R_ifge (tgt := 6) hX dX11_setupByte_1 (by decide) ⟨by omega, by omega⟩ (fun c_1 => ?_) (fun c_1 => ?_)
  · skip
    refine R_aload_0 hX dX11_setupByte_6 ?_
    refine R_getq (v := 22) hX dX11_setupByte_7 fl_X11_26 o_0 rfl (by omega) ?_
    refine R_aload_0 hX dX11_setupByte_10 ?_
    refine R_getoE (v := u) hX dX11_setupByte_11 fl_X11_33 o_0 rfl hs ?_
    refine R_aload_0 hX dX11_setupByte_14 ?_
    refine R_getq (v := b) hX dX11_setupByte_15 fl_X11_40 o_0 hbq.symm (by omega) ?_
    refine R_iload_1 hX dX11_setupByte_18 ?_
    refine R_v3v hX dX11_setupByte_19 li_X11_293 mk_X10_write mi_X10_write rfl o_22 (c_write hu hb hU hA (by have := hQ.1; constructor <;> omega) h1) ⟨⟨by decide, by decide⟩, by decide, by decide, rfl, Nat.le_of_ble_eq_true rfl, rfl⟩ (fun x_19 F_19 h_19 => ?_)
    subst h_19
    obtain ⟨g0, -, -, g1⟩ := wrN_f (txtT b u F) 0 (W0 i F)
    obtain ⟨w0, w1, w2, w3⟩ := W0_f i F
    refine R_aload_0 hX dX11_setupByte_22 ?_
    refine R_getq (v := 22) hX dX11_setupByte_23 fl_X11_26 o_0 rfl (by omega) ?_
    refine R_geti hX dX11_setupByte_26 fl_X11_298 o_22 rfl ?_
    exact R_iret hX dX11_setupByte_29 (Or.inr ⟨by omega, (by rw [g1, w0, w1, w2, Int.sub_zero]; by_cases q : i < (txtT b u F).length; (rw [if_pos q, if_pos ⟨by omega, q⟩]); (rw [if_neg q, if_neg (fun z => q z.2)])), rfl⟩)
  · skip
    refine R_iconst hX dX11_setupByte_4 ?_
    exact R_iret hX dX11_setupByte_5 (Or.inl ⟨by omega, rfl, rfl⟩)
set_option maxRecDepth 100000 in
set_option maxHeartbeats 4000000 in
theorem c_change {V : VX} {F : Hp} {b u v K : Int} (hbq : b = 40) (hu : isSu u) (h : CI b u v K F) {n s x : Int} (h1 : I32 n) (h2 : I32 s) (h3 : I32 x)  : Ct V yX11_change cX11_change 6 (some .int) 1 21 0 0 SH [vr V 0, vi n, vi s, vi x] F SH 1 (fun r F' => (¬ ((0 ≤ n ∧ n < F u 0) ∧ inR s x) ∧ r = -1 ∧ F' = F) ∨ (((0 ≤ n ∧ n < F u 0) ∧ inR s x) ∧ r = F (b + plc s) n ∧ F' = up F (b + plc s) n x)) := by
  refine Ct.of [some (vr V 0), some (vi n), some (vi s), some (vi x), none, none] (by decide) (by simp [lg_sl, vi_cat, vl_cat, vr_cat]) rfl (by simp [asc, lv_args, vi_cat, vl_cat, vr_cat]) (fun X hV hX => ?_)
  subst hV
  have hb : isSt b := Or.inl hbq
  obtain ⟨hs, hd, hS, hK, hL, hB, hk1, hk2, hS1, hS2⟩ := id h
  obtain ⟨hU, hA, hQ, hLo, hBd⟩ := id hS
  have hN := hU.1
  have hCC := hU.2.2.2.2.1
  refine R_aload_0 hX dX11_change_0 ?_
  refine R_getoE (v := u) hX dX11_change_1 fl_X11_33 o_0 rfl hs ?_
  refine R_iload_1 hX dX11_change_4 ?_
  refine R_v1i hX dX11_change_5 li_X11_85 mk_X7_hasNode mi_X7_hasNode rfl (to_0 hu) (c_hasNode hu hN h1) ⟨⟨by decide, by decide⟩, by decide, by decide, rfl, Nat.le_of_ble_eq_true rfl, rfl⟩ (fun x_5 F_5 h_5 => ?_)
  obtain ⟨h_5, e_5⟩ := h_5; replace e_5 := e_5.symm; subst e_5
  refine R_ifeq (tgt := 19) hX dX11_change_8 (by decide) ⟨by omega, by omega⟩ (fun c_8 => ?_) (fun c_8 => ?_)
  · skip
    refine R_iconst hX dX11_change_19 ?_
    exact R_iret hX dX11_change_20 (Or.inl ⟨fun z => by first | omega | exact h_13.elim (fun w => by omega) (fun w => w.2 z.2), rfl, rfl⟩)
  · skip
    refine R_iload_2 hX dX11_change_11 ?_
    refine R_iload_3 hX dX11_change_12 ?_
    refine R_s2i hX dX11_change_13 li_X11_309 mk_X11_isInRange ms_X11_isInRange (c_isInRange h2 h3) ⟨⟨by decide, by decide⟩, by decide, by decide, rfl, Nat.le_of_ble_eq_true rfl, rfl⟩ (fun x_13 F_13 h_13 => ?_)
    obtain ⟨h_13, e_13⟩ := h_13; replace e_13 := e_13.symm; subst e_13
    refine R_ifne (tgt := 21) hX dX11_change_16 (by decide) ⟨by omega, by omega⟩ (fun c_16 => ?_) (fun c_16 => ?_)
    · skip
      refine R_aload_0 hX dX11_change_21 ?_
      refine R_getq (v := b) hX dX11_change_22 fl_X11_40 o_0 hbq.symm (by omega) ?_
      refine R_iload_2 hX dX11_change_25 ?_
      refine R_v1r hX dX11_change_26 li_X11_312 mk_X8_row mi_X8_row rfl (so_0 hb) (c_stRow hb h2) ⟨⟨by decide, by decide⟩, by decide, by decide, rfl, Nat.le_of_ble_eq_true rfl, rfl⟩ (fun x_26 F_26 h_26 => ?_)
      obtain ⟨h_26, e_26⟩ := h_26; replace e_26 := e_26.symm; subst e_26
      have hrow : isA SH x_26 .int 12 := by rw [h_26]; exact sa_plc hb
      subst h_26
      refine R_astore_4 hX c1_i dX11_change_29 ?_
      refine R_aload_4 hX dX11_change_31 ?_
      refine R_iload_1 hX dX11_change_33 ?_
      refine R_iald hX dX11_change_34 hrow ⟨by omega, by omega⟩ ?_
      refine R_istore_5 hX c1_r dX11_change_35 ?_
      refine R_aload_4 hX dX11_change_37 ?_
      refine R_iload_1 hX dX11_change_39 ?_
      refine R_iload_3 hX dX11_change_40 ?_
      refine R_iast hX dX11_change_41 hrow ⟨by omega, by omega⟩ ?_
      refine R_iload_5 hX dX11_change_42 ?_
      exact R_iret hX dX11_change_44 (Or.inr ⟨⟨by omega, h_13.elim (fun w => w.2) (fun w => by omega)⟩, rfl, rfl⟩)
    · skip
      refine R_iconst hX dX11_change_19 ?_
      exact R_iret hX dX11_change_20 (Or.inl ⟨fun z => by first | omega | exact h_13.elim (fun w => by omega) (fun w => w.2 z.2), rfl, rfl⟩)
set_option maxRecDepth 100000 in
set_option maxHeartbeats 4000000 in
theorem c_setRate {V : VX} {F : Hp} {b u v K : Int} (hbq : b = 40) (hu : isSu u) (h : CI b u v K F) {n x : Int} (h1 : I32 n) (h2 : I32 x)  : Ct V yX11_setRate cX11_setRate 3 (some .int) 2 46 0 0 SH [vr V 0, vi n, vi x] F SH 1 (fun r F' => (¬ ((0 ≤ n ∧ n < F u 0) ∧ (0 ≤ x ∧ x ≤ 99)) ∧ r = -1 ∧ F' = F) ∨ (((0 ≤ n ∧ n < F u 0) ∧ (0 ≤ x ∧ x ≤ 99)) ∧ r = F (b + 1) n ∧ F' = up F (b + 1) n x)) := by
  refine Ct.of [some (vr V 0), some (vi n), some (vi x)] (by decide) (by simp [lg_sl, vi_cat, vl_cat, vr_cat]) rfl (by simp [asc, lv_args, vi_cat, vl_cat, vr_cat]) (fun X hV hX => ?_)
  subst hV
  have hb : isSt b := Or.inl hbq
  obtain ⟨hs, hd, hS, hK, hL, hB, hk1, hk2, hS1, hS2⟩ := id h
  obtain ⟨hU, hA, hQ, hLo, hBd⟩ := id hS
  have hN := hU.1
  have hCC := hU.2.2.2.2.1
  refine R_aload_0 hX dX11_setRate_0 ?_
  refine R_iload_1 hX dX11_setRate_1 ?_
  refine R_iconst hX dX11_setRate_2 ?_
  refine R_iload_2 hX dX11_setRate_3 ?_
  refine R_v3i hX dX11_setRate_4 li_X11_301 mk_X11_change mi_X11_change rfl o_0 (c_change hbq hu h h1 (by constructor <;> omega) h2) ⟨⟨by decide, by decide⟩, by decide, by decide, rfl, Nat.le_of_ble_eq_true rfl, rfl⟩ (fun x_4 F_4 h_4 => ?_)
  exact R_iret hX dX11_setRate_7 (by rw [inR_0] at h_4; exact h_4)
set_option maxRecDepth 100000 in
set_option maxHeartbeats 4000000 in
theorem c_setCeiling {V : VX} {F : Hp} {b u v K : Int} (hbq : b = 40) (hu : isSu u) (h : CI b u v K F) {n x : Int} (h1 : I32 n) (h2 : I32 x)  : Ct V yX11_setCeiling cX11_setCeiling 3 (some .int) 2 46 0 0 SH [vr V 0, vi n, vi x] F SH 1 (fun r F' => (¬ ((0 ≤ n ∧ n < F u 0) ∧ (0 ≤ x ∧ x ≤ 999)) ∧ r = -1 ∧ F' = F) ∨ (((0 ≤ n ∧ n < F u 0) ∧ (0 ≤ x ∧ x ≤ 999)) ∧ r = F (b + 2) n ∧ F' = up F (b + 2) n x)) := by
  refine Ct.of [some (vr V 0), some (vi n), some (vi x)] (by decide) (by simp [lg_sl, vi_cat, vl_cat, vr_cat]) rfl (by simp [asc, lv_args, vi_cat, vl_cat, vr_cat]) (fun X hV hX => ?_)
  subst hV
  have hb : isSt b := Or.inl hbq
  obtain ⟨hs, hd, hS, hK, hL, hB, hk1, hk2, hS1, hS2⟩ := id h
  obtain ⟨hU, hA, hQ, hLo, hBd⟩ := id hS
  have hN := hU.1
  have hCC := hU.2.2.2.2.1
  refine R_aload_0 hX dX11_setCeiling_0 ?_
  refine R_iload_1 hX dX11_setCeiling_1 ?_
  refine R_iconst hX dX11_setCeiling_2 ?_
  refine R_iload_2 hX dX11_setCeiling_3 ?_
  refine R_v3i hX dX11_setCeiling_4 li_X11_301 mk_X11_change mi_X11_change rfl o_0 (c_change hbq hu h h1 (by constructor <;> omega) h2) ⟨⟨by decide, by decide⟩, by decide, by decide, rfl, Nat.le_of_ble_eq_true rfl, rfl⟩ (fun x_4 F_4 h_4 => ?_)
  exact R_iret hX dX11_setCeiling_7 (by rw [inR_1] at h_4; exact h_4)
set_option maxRecDepth 100000 in
set_option maxHeartbeats 4000000 in
theorem c_setWeight {V : VX} {F : Hp} {b u v K : Int} (hbq : b = 40) (hu : isSu u) (h : CI b u v K F) {n x : Int} (h1 : I32 n) (h2 : I32 x)  : Ct V yX11_setWeight cX11_setWeight 3 (some .int) 2 46 0 0 SH [vr V 0, vi n, vi x] F SH 1 (fun r F' => (¬ ((0 ≤ n ∧ n < F u 0) ∧ (1 ≤ x ∧ x ≤ 9)) ∧ r = -1 ∧ F' = F) ∨ (((0 ≤ n ∧ n < F u 0) ∧ (1 ≤ x ∧ x ≤ 9)) ∧ r = F (b + 3) n ∧ F' = up F (b + 3) n x)) := by
  refine Ct.of [some (vr V 0), some (vi n), some (vi x)] (by decide) (by simp [lg_sl, vi_cat, vl_cat, vr_cat]) rfl (by simp [asc, lv_args, vi_cat, vl_cat, vr_cat]) (fun X hV hX => ?_)
  subst hV
  have hb : isSt b := Or.inl hbq
  obtain ⟨hs, hd, hS, hK, hL, hB, hk1, hk2, hS1, hS2⟩ := id h
  obtain ⟨hU, hA, hQ, hLo, hBd⟩ := id hS
  have hN := hU.1
  have hCC := hU.2.2.2.2.1
  refine R_aload_0 hX dX11_setWeight_0 ?_
  refine R_iload_1 hX dX11_setWeight_1 ?_
  refine R_iconst hX dX11_setWeight_2 ?_
  refine R_iload_2 hX dX11_setWeight_3 ?_
  refine R_v3i hX dX11_setWeight_4 li_X11_301 mk_X11_change mi_X11_change rfl o_0 (c_change hbq hu h h1 (by constructor <;> omega) h2) ⟨⟨by decide, by decide⟩, by decide, by decide, rfl, Nat.le_of_ble_eq_true rfl, rfl⟩ (fun x_4 F_4 h_4 => ?_)
  exact R_iret hX dX11_setWeight_7 (by rw [inR_4] at h_4; exact h_4)
set_option maxRecDepth 100000 in
set_option maxHeartbeats 4000000 in
theorem c_clearQueue {V : VX} {F : Hp} {b u v K : Int} (hbq : b = 40) (hu : isSu u) (h : CI b u v K F) {l : Int} (h1 : I32 l)  : Ct V yX11_clearQueue cX11_clearQueue 3 (some .int) 2 42 0 0 SH [vr V 0, vi l] F SH 1 (fun r F' => (¬ (0 ≤ l ∧ l < F u 0 ∧ F (u + 4) l = 0) ∧ r = -1 ∧ F' = F) ∨ ((0 ≤ l ∧ l < F u 0 ∧ F (u + 4) l = 0) ∧ r = F (b + 9) l ∧ F' = up F (b + 9) l 0)) := by
  refine Ct.of [some (vr V 0), some (vi l), none] (by decide) (by simp [lg_sl, vi_cat, vl_cat, vr_cat]) rfl (by simp [asc, lv_args, vi_cat, vl_cat, vr_cat]) (fun X hV hX => ?_)
  subst hV
  have hb : isSt b := Or.inl hbq
  obtain ⟨hs, hd, hS, hK, hL, hB, hk1, hk2, hS1, hS2⟩ := id h
  obtain ⟨hU, hA, hQ, hLo, hBd⟩ := id hS
  have hN := hU.1
  have hCC := hU.2.2.2.2.1
  refine R_aload_0 hX dX11_clearQueue_0 ?_
  refine R_getoE (v := u) hX dX11_clearQueue_1 fl_X11_33 o_0 rfl hs ?_
  refine R_iload_1 hX dX11_clearQueue_4 ?_
  refine R_v1i hX dX11_clearQueue_5 li_X11_105 mk_X7_hasLeaf mi_X7_hasLeaf rfl (to_0 hu) (c_hasLeaf hu hN hCC h1) ⟨⟨by decide, by decide⟩, by decide, by decide, rfl, Nat.le_of_ble_eq_true rfl, rfl⟩ (fun x_5 F_5 h_5 => ?_)
  obtain ⟨h_5, e_5⟩ := h_5; replace e_5 := e_5.symm; subst e_5
  refine R_ifne (tgt := 13) hX dX11_clearQueue_8 (by decide) ⟨by omega, by omega⟩ (fun c_8 => ?_) (fun c_8 => ?_)
  · skip
    refine R_aload_0 hX dX11_clearQueue_13 ?_
    refine R_getq (v := b) hX dX11_clearQueue_14 fl_X11_40 o_0 hbq.symm (by omega) ?_
    refine R_getq (v := b + 8) hX dX11_clearQueue_17 fl_X11_189 (so_0 hb) rfl (by omega) ?_
    refine R_getq (v := b + 9) hX dX11_clearQueue_20 fl_X11_193 (so_8 hb) rfl (by omega) ?_
    refine R_iload_1 hX dX11_clearQueue_23 ?_
    refine R_iald hX dX11_clearQueue_24 (sa_9 hb) ⟨by omega, by omega⟩ ?_
    refine R_istore_2 hX c1_i dX11_clearQueue_25 ?_
    refine R_aload_0 hX dX11_clearQueue_26 ?_
    refine R_getq (v := b) hX dX11_clearQueue_27 fl_X11_40 o_0 hbq.symm (by omega) ?_
    refine R_getq (v := b + 8) hX dX11_clearQueue_30 fl_X11_189 (so_0 hb) rfl (by omega) ?_
    refine R_getq (v := b + 9) hX dX11_clearQueue_33 fl_X11_193 (so_8 hb) rfl (by omega) ?_
    refine R_iload_1 hX dX11_clearQueue_36 ?_
    refine R_iconst hX dX11_clearQueue_37 ?_
    refine R_iast hX dX11_clearQueue_38 (sa_9 hb) ⟨by omega, by omega⟩ ?_
    refine R_iload_2 hX dX11_clearQueue_39 ?_
    exact R_iret hX dX11_clearQueue_40 (Or.inr ⟨by omega, rfl, rfl⟩)
  · skip
    refine R_iconst hX dX11_clearQueue_11 ?_
    exact R_iret hX dX11_clearQueue_12 (Or.inl ⟨by omega, rfl, rfl⟩)
set_option maxRecDepth 100000 in
set_option maxHeartbeats 4000000 in
theorem c_snapshotAt {V : VX} {F : Hp} {k : Int} (h1 : I32 k) : Ct V yX11_snapshotAt cX11_snapshotAt 2 (some (.object "RateLimiter$State")) 0 0 0 0 SH [vr V 0, vi k] F SH 3 (fun r F' => r = (if k = 0 then 88 else if k = 1 then 112 else -1) ∧ F' = F) := by
  refine Ct.of [some (vr V 0), some (vi k)] (by decide) (by simp [lg_sl, vi_cat, vl_cat, vr_cat]) rfl (by simp [asc, lv_args, vi_cat, vl_cat, vr_cat]) (fun X hV hX => ?_)
  subst hV
  refine R_iload_1 hX dX11_snapshotAt_0 ?_
  refine R_lk01 hX dX11_snapshotAt_1 h1 (fun c_1 => ?_) (fun c_1 => ?_) (fun c_1 => ?_)
  · refine R_pcn (pc := 28) (by decide) ?_
    refine R_aload_0 hX dX11_snapshotAt_28 ?_
    refine R_getq (v := 88) hX dX11_snapshotAt_29 fl_X11_47 o_0 rfl (by omega) ?_
    exact R_aret hX (Or.inl ⟨_, rfl⟩) dX11_snapshotAt_32 ⟨by first | (rw [if_pos (by omega)]; done) | (rw [if_neg (by omega)]; first | (rw [if_pos (by omega)]; done) | (rw [if_neg (by omega)]; done)), rfl⟩
  · refine R_pcn (pc := 33) (by decide) ?_
    refine R_aload_0 hX dX11_snapshotAt_33 ?_
    refine R_getq (v := 112) hX dX11_snapshotAt_34 fl_X11_50 o_0 rfl (by omega) ?_
    exact R_aret hX (Or.inl ⟨_, rfl⟩) dX11_snapshotAt_37 ⟨by first | (rw [if_pos (by omega)]; done) | (rw [if_neg (by omega)]; first | (rw [if_pos (by omega)]; done) | (rw [if_neg (by omega)]; done)), rfl⟩
  · refine R_pcn (pc := 38) (by decide) ?_
    refine R_null hX dX11_snapshotAt_38 ?_
    exact R_aret hX (Or.inl ⟨_, rfl⟩) dX11_snapshotAt_39 ⟨by first | (rw [if_pos (by omega)]; done) | (rw [if_neg (by omega)]; first | (rw [if_pos (by omega)]; done) | (rw [if_neg (by omega)]; done)), rfl⟩
set_option maxRecDepth 100000 in
set_option maxHeartbeats 4000000 in
theorem c_save {V : VX} {F : Hp} {b u v K : Int} (hbq : b = 40) (hu : isSu u) (h : CI b u v K F) {k : Int} (h1 : I32 k)  : Ct V yX11_save cX11_save 3 (some .boolean) 4 123 0 0 SH [vr V 0, vi k] F SH 1 (fun r F' => ((¬ k = 0 ∧ ¬ k = 1) ∧ r = 0 ∧ F' = F) ∨ (k = 0 ∧ r = 1 ∧ F' = up (cpT b 88 F) 88 0 1) ∨ (k = 1 ∧ r = 1 ∧ F' = up (cpT b 112 F) 112 0 1)) := by
  refine Ct.of [some (vr V 0), some (vi k), none] (by decide) (by simp [lg_sl, vi_cat, vl_cat, vr_cat]) rfl (by simp [asc, lv_args, vi_cat, vl_cat, vr_cat]) (fun X hV hX => ?_)
  subst hV
  have hb : isSt b := Or.inl hbq
  obtain ⟨hs, hd, hS, hK, hL, hB, hk1, hk2, hS1, hS2⟩ := id h
  obtain ⟨hU, hA, hQ, hLo, hBd⟩ := id hS
  have hN := hU.1
  have hCC := hU.2.2.2.2.1
  refine R_aload_0 hX dX11_save_0 ?_
  refine R_iload_1 hX dX11_save_1 ?_
  refine R_v1r hX dX11_save_2 li_X11_305 mk_X11_snapshotAt mi_X11_snapshotAt rfl o_0 (c_snapshotAt h1) ⟨⟨by decide, by decide⟩, by decide, by decide, rfl, Nat.le_of_ble_eq_true rfl, rfl⟩ (fun x_2 F_2 h_2 => ?_)
  obtain ⟨h_2, e_2⟩ := h_2; replace e_2 := e_2.symm; subst e_2
  have hx : (k = 0 ∧ x_2 = 88) ∨ (k = 1 ∧ x_2 = 112) ∨ (¬ k = 0 ∧ ¬ k = 1 ∧ x_2 = -1) := by
    rw [h_2]
    by_cases q : k = 0
    · rw [if_pos q]; omega
    · rw [if_neg q]
      by_cases q2 : k = 1
      · rw [if_pos q2]; omega
      · rw [if_neg q2]; omega
  clear h_2
  refine R_astore_2 hX c1_i dX11_save_5 ?_
  refine R_aload_2 hX dX11_save_6 ?_
  refine R_ifnonnull (tgt := 12) hX dX11_save_7 (by decide) (fun c_7 => ?_) (fun c_7 => ?_)
  · skip
    have hp : isSt x_2 := by omega
    refine R_aload_2 hX dX11_save_12 ?_
    refine R_aload_0 hX dX11_save_13 ?_
    refine R_getq (v := b) hX dX11_save_14 fl_X11_40 o_0 hbq.symm (by omega) ?_
    refine R_v1v hX dX11_save_17 li_X11_223 mk_X8_copyFrom mi_X8_copyFrom rfl (so_0 hp) (c_stCopy hp hb) ⟨⟨by decide, by decide⟩, by decide, by decide, rfl, Nat.le_of_ble_eq_true rfl, rfl⟩ (fun x_17 F_17 h_17 => ?_)
    subst h_17
    refine R_aload_2 hX dX11_save_20 ?_
    refine R_iconst hX dX11_save_21 ?_
    refine R_putz hX dX11_save_22 fl_X11_75 (so_0 hp) rfl (Or.inr rfl) ?_
    refine R_iconst hX dX11_save_25 ?_
    exact R_zret hX (by omega) dX11_save_26 (by rcases hx with ⟨q, z⟩ | ⟨q, z⟩ | z; (subst z; exact Or.inr (Or.inl ⟨q, rfl, rfl⟩)); (subst z; exact Or.inr (Or.inr ⟨q, rfl, rfl⟩)); omega)
  · skip
    refine R_iconst hX dX11_save_10 ?_
    exact R_zret hX (by omega) dX11_save_11 (Or.inl ⟨by omega, rfl, rfl⟩)
set_option maxRecDepth 100000 in
set_option maxHeartbeats 4000000 in
theorem c_restore {V : VX} {F : Hp} {b u v K : Int} (hbq : b = 40) (hu : isSu u) (h : CI b u v K F) {k : Int} (h1 : I32 k)  : Ct V yX11_restore cX11_restore 3 (some .boolean) 4 123 0 0 SH [vr V 0, vi k] F SH 1 (fun r F' => (¬ ((k = 0 ∧ F 88 0 = 1) ∨ (k = 1 ∧ F 112 0 = 1)) ∧ r = 0 ∧ F' = F) ∨ ((k = 0 ∧ F 88 0 = 1) ∧ r = 1 ∧ F' = cpT 88 b F) ∨ ((k = 1 ∧ F 112 0 = 1) ∧ r = 1 ∧ F' = cpT 112 b F)) := by
  refine Ct.of [some (vr V 0), some (vi k), none] (by decide) (by simp [lg_sl, vi_cat, vl_cat, vr_cat]) rfl (by simp [asc, lv_args, vi_cat, vl_cat, vr_cat]) (fun X hV hX => ?_)
  subst hV
  have hb : isSt b := Or.inl hbq
  obtain ⟨hs, hd, hS, hK, hL, hB, hk1, hk2, hS1, hS2⟩ := id h
  obtain ⟨hU, hA, hQ, hLo, hBd⟩ := id hS
  have hN := hU.1
  have hCC := hU.2.2.2.2.1
  refine R_aload_0 hX dX11_restore_0 ?_
  refine R_iload_1 hX dX11_restore_1 ?_
  refine R_v1r hX dX11_restore_2 li_X11_305 mk_X11_snapshotAt mi_X11_snapshotAt rfl o_0 (c_snapshotAt h1) ⟨⟨by decide, by decide⟩, by decide, by decide, rfl, Nat.le_of_ble_eq_true rfl, rfl⟩ (fun x_2 F_2 h_2 => ?_)
  obtain ⟨h_2, e_2⟩ := h_2; replace e_2 := e_2.symm; subst e_2
  have hx : (k = 0 ∧ x_2 = 88) ∨ (k = 1 ∧ x_2 = 112) ∨ (¬ k = 0 ∧ ¬ k = 1 ∧ x_2 = -1) := by
    rw [h_2]
    by_cases q : k = 0
    · rw [if_pos q]; omega
    · rw [if_neg q]
      by_cases q2 : k = 1
      · rw [if_pos q2]; omega
      · rw [if_neg q2]; omega
  clear h_2
  refine R_astore_2 hX c1_i dX11_restore_5 ?_
  refine R_aload_2 hX dX11_restore_6 ?_
  refine R_ifnull (tgt := 17) hX dX11_restore_7 (by decide) (fun c_7 => ?_) (fun c_7 => ?_)
  · skip
    refine R_iconst hX dX11_restore_17 ?_
    exact R_zret hX (by omega) dX11_restore_18 (Or.inl ⟨by first | omega | (rcases hx with ⟨q, z⟩ | ⟨q, z⟩ | z; (rw [z] at c_14; omega); (rw [z] at c_14; omega); omega), rfl, rfl⟩)
  · skip
    have hp : isSt x_2 := by omega
    have hsv : F x_2 0 = 0 ∨ F x_2 0 = 1 := by rcases hx with ⟨q, z⟩ | ⟨q, z⟩ | z; (rw [z]; exact hk1); (rw [z]; exact hk2); omega
    refine R_aload_2 hX dX11_restore_10 ?_
    refine R_getz hX dX11_restore_11 fl_X11_75 (so_0 hp) rfl ?_
    refine R_ifne (tgt := 19) hX dX11_restore_14 (by decide) ⟨by omega, by omega⟩ (fun c_14 => ?_) (fun c_14 => ?_)
    · skip
      refine R_aload_0 hX dX11_restore_19 ?_
      refine R_getq (v := b) hX dX11_restore_20 fl_X11_40 o_0 hbq.symm (by omega) ?_
      refine R_aload_2 hX dX11_restore_23 ?_
      refine R_v1v hX dX11_restore_24 li_X11_223 mk_X8_copyFrom mi_X8_copyFrom rfl (so_0 hb) (c_stCopy hb hp) ⟨⟨by decide, by decide⟩, by decide, by decide, rfl, Nat.le_of_ble_eq_true rfl, rfl⟩ (fun x_24 F_24 h_24 => ?_)
      subst h_24
      refine R_iconst hX dX11_restore_27 ?_
      exact R_zret hX (by omega) dX11_restore_28 (by rcases hx with ⟨q, z⟩ | ⟨q, z⟩ | z; (subst z; exact Or.inr (Or.inl ⟨⟨q, by omega⟩, rfl, rfl⟩)); (subst z; exact Or.inr (Or.inr ⟨⟨q, by omega⟩, rfl, rfl⟩)); omega)
    · skip
      refine R_iconst hX dX11_restore_17 ?_
      exact R_zret hX (by omega) dX11_restore_18 (Or.inl ⟨by first | omega | (rcases hx with ⟨q, z⟩ | ⟨q, z⟩ | z; (rw [z] at c_14; omega); (rw [z] at c_14; omega); omega), rfl, rfl⟩)
set_option maxRecDepth 100000 in
set_option maxHeartbeats 4000000 in
theorem c_mostServed {V : VX} {F : Hp} {b u v K : Int} (hbq : b = 40) (hu : isSu u) (h : CI b u v K F)  : Ct V yX11_mostServed cX11_mostServed 3 (some .int) 2 49 0 0 SH [vr V 0] F SH 1 (fun r F' => r = msS b u F (F u 0).toNat ∧ F' = F) := by
  refine Ct.of [some (vr V 0), none, none] (by decide) (by simp [lg_sl, vi_cat, vl_cat, vr_cat]) rfl (by simp [asc, lv_args, vi_cat, vl_cat, vr_cat]) (fun X hV hX => ?_)
  subst hV
  have hb : isSt b := Or.inl hbq
  obtain ⟨hs, hd, hS, hK, hL, hB, hk1, hk2, hS1, hS2⟩ := id h
  obtain ⟨hU, hA, hQ, hLo, hBd⟩ := id hS
  have hN := hU.1
  have hCC := hU.2.2.2.2.1
  have hsd : ∀ n : Int, 0 ≤ n → n < F u 0 → (0 ≤ F (b + 14) n ∧ F (b + 14) n ≤ 2000000) ∧ (1 ≤ F (b + 3) n ∧ F (b + 3) n ≤ 9) := fun n z0 z1 => by have k1 := hBd n z0 z1; have k2 := hA n z0 z1; have k3 := hQ.2.1 n z0 z1; omega
  refine R_bipush hX dX11_mostServed_0 (by decide) ?_
  refine R_istore_1 hX c1_r dX11_mostServed_2 ?_
  refine R_iconst hX dX11_mostServed_3 ?_
  refine R_istore_2 hX c1_i dX11_mostServed_4 ?_
  have lp_5 : ∀ (n : Nat) (best : Int) (i : Int), (0 ≤ i ∧ i ≤ F u 0) → (best = msS b u F i.toNat) → (13 - i).toNat < n → R X SH 0 0 5 [some (vr (xV X) 0), some (vi best), some (vi i)] [] F (Zq X SH 1 (fun r F' => r = msS b u F (F u 0).toNat ∧ F' = F) 0 0) := by
    intro n
    induction n with
    | zero => intro best i iv5_0 iv5_1 hm; exact absurd hm (Nat.not_lt_zero _)
    | succ n ih_5 =>
      intro best i iv5_0 iv5_1 hm_5
      have hmr := msS_rng (b := b) (u := u) (F := F) i.toNat
      rw [← iv5_1] at hmr
      have hms := msS_s (b := b) (u := u) (F := F) iv5_0.1
      rw [← iv5_1] at hms
      refine R_iload_2 hX dX11_mostServed_5 ?_
      refine R_aload_0 hX dX11_mostServed_6 ?_
      refine R_getoE (v := u) hX dX11_mostServed_7 fl_X11_33 o_0 rfl hs ?_
      refine R_geti hX dX11_mostServed_10 fl_X11_79 (to_0 hu) rfl ?_
      refine R_icmpge (tgt := 53) hX dX11_mostServed_13 (by decide) ⟨by omega, by omega⟩ ⟨by omega, by omega⟩ (fun c_13 => ?_) (fun c_13 => ?_)
      · skip
        refine R_iload_1 hX dX11_mostServed_53 ?_
        exact R_iret hX dX11_mostServed_54 ⟨by rw [iv5_1, show i = F u 0 by omega], rfl⟩
      · skip
        refine R_aload_0 hX dX11_mostServed_16 ?_
        refine R_getoE (v := u) hX dX11_mostServed_17 fl_X11_33 o_0 rfl hs ?_
        refine R_iload_2 hX dX11_mostServed_20 ?_
        refine R_v1i hX dX11_mostServed_21 li_X11_105 mk_X7_hasLeaf mi_X7_hasLeaf rfl (to_0 hu) (c_hasLeaf hu hN hCC (by constructor <;> omega)) ⟨⟨by decide, by decide⟩, by decide, by decide, rfl, Nat.le_of_ble_eq_true rfl, rfl⟩ (fun x_21 F_21 h_21 => ?_)
        obtain ⟨h_21, e_21⟩ := h_21; replace e_21 := e_21.symm; subst e_21
        refine R_ifeq (tgt := 47) hX dX11_mostServed_24 (by decide) ⟨by omega, by omega⟩ (fun c_24 => ?_) (fun c_24 => ?_)
        · skip
          refine R_iinc_2 hX c1_i dX11_mostServed_47 ?_
          refine R_goto (tgt := 5) hX dX11_mostServed_50 (by decide) ?_
          exact ih_5 _ _ (by omega) (by rw [hms]; first | (rw [if_pos (by omega)]; done) | (rw [if_neg (by omega)]; done) | (rw [if_pos ⟨by omega, Or.inr (by omega)⟩]; done) | (rw [if_neg (fun z => by rcases z.2 with w | w <;> omega)]; done)) (by omega)
        · skip
          refine R_iload_1 hX dX11_mostServed_27 ?_
          refine R_bipush hX dX11_mostServed_28 (by decide) ?_
          refine R_icmpeq (tgt := 45) hX dX11_mostServed_30 (by decide) ⟨by omega, by omega⟩ ⟨by omega, by omega⟩ (fun c_30 => ?_) (fun c_30 => ?_)
          · skip
            refine R_iload_2 hX dX11_mostServed_45 ?_
            refine R_istore_1 hX c1_r dX11_mostServed_46 ?_
            refine R_iinc_2 hX c1_i dX11_mostServed_47 ?_
            refine R_goto (tgt := 5) hX dX11_mostServed_50 (by decide) ?_
            exact ih_5 _ _ (by omega) (by rw [hms]; first | (rw [if_pos (by omega)]; done) | (rw [if_neg (by omega)]; done) | (rw [if_pos ⟨by omega, Or.inr (by omega)⟩]; done) | (rw [if_neg (fun z => by rcases z.2 with w | w <;> omega)]; done)) (by omega)
          · skip
            refine R_aload_0 hX dX11_mostServed_33 ?_
            refine R_getq (v := b) hX dX11_mostServed_34 fl_X11_40 o_0 hbq.symm (by omega) ?_
            refine R_iload_2 hX dX11_mostServed_37 ?_
            refine R_iload_1 hX dX11_mostServed_38 ?_
            refine R_v2i hX dX11_mostServed_39 li_X11_263 mk_X8_compareServed mi_X8_compareServed rfl (so_0 hb) (c_cmpServed hu hN hb hsd (by omega) (by omega)) ⟨⟨by decide, by decide⟩, by decide, by decide, rfl, Nat.le_of_ble_eq_true rfl, rfl⟩ (fun x_39 F_39 h_39 => ?_)
            obtain ⟨h_39, e_39⟩ := h_39; replace e_39 := e_39.symm; subst e_39
            refine R_ifle (tgt := 47) hX dX11_mostServed_42 (by decide) ⟨by omega, by omega⟩ (fun c_42 => ?_) (fun c_42 => ?_)
            · skip
              refine R_iinc_2 hX c1_i dX11_mostServed_47 ?_
              refine R_goto (tgt := 5) hX dX11_mostServed_50 (by decide) ?_
              exact ih_5 _ _ (by omega) (by rw [hms]; first | (rw [if_pos (by omega)]; done) | (rw [if_neg (by omega)]; done) | (rw [if_pos ⟨by omega, Or.inr (by omega)⟩]; done) | (rw [if_neg (fun z => by rcases z.2 with w | w <;> omega)]; done)) (by omega)
            · skip
              refine R_iload_2 hX dX11_mostServed_45 ?_
              refine R_istore_1 hX c1_r dX11_mostServed_46 ?_
              refine R_iinc_2 hX c1_i dX11_mostServed_47 ?_
              refine R_goto (tgt := 5) hX dX11_mostServed_50 (by decide) ?_
              exact ih_5 _ _ (by omega) (by rw [hms]; first | (rw [if_pos (by omega)]; done) | (rw [if_neg (by omega)]; done) | (rw [if_pos ⟨by omega, Or.inr (by omega)⟩]; done) | (rw [if_neg (fun z => by rcases z.2 with w | w <;> omega)]; done)) (by omega)
  exact lp_5 14 _ _ (by omega) rfl (by omega)
