/-! the text of the setup -/
theorem kw_wd : ∀ k : Nat, k < 12 → kwT (k : Int) = wdT (CW k) := by decide +kernel
theorem kw0 : kwT 0 = wdT 591493 := kw_wd 0 (by decide)
theorem kw1 : kwT 1 = wdT 3398837703 := kw_wd 1 (by decide)
theorem kw2 : kwT 2 = wdT 2804340 := kw_wd 2 (by decide)
theorem kw3 : kwT 3 = wdT 119705908 := kw_wd 3 (by decide)
theorem kw4 : kwT 4 = wdT 777297172 := kw_wd 4 (by decide)
theorem kw5 : kwT 5 = wdT 569401484953 := kw_wd 5 (by decide)
theorem kw6 : kwT 6 = wdT 1457605 := kw_wd 6 (by decide)
theorem kw7 : kwT 7 = wdT 474245 := kw_wd 7 (by decide)
theorem kw8 : kwT 8 = wdT 302 := kw_wd 8 (by decide)
theorem kw9 : kwT 9 = wdT 12891444 := kw_wd 9 (by decide)
theorem kw10 : kwT 10 = wdT 1253 := kw_wd 10 (by decide)
theorem kw11 : kwT 11 = wdT 52 := kw_wd 11 (by decide)
theorem nm_wd {w : Int} (hw : WdR w) (h1 : w < 1099511627776) : nmT (cvN w) = wdT w := by
  have hL := nlF_le 8 w
  have e : ∀ i : Int, 0 ≤ i → ltS (cvN w) i = ldS w i := fun i hi => lt_ld hw.1 h1 hi
  have hn := nmT_of (w := cvN w) (i := (nlF 8 w : Int)) (by omega) (fun j j0 j1 => by
    have t := hw.2.2 (nlF 8 w - 1 - j.toNat) (by omega)
    rw [e j j0]
    unfold ldS
    rw [if_pos j1]
    omega) (Or.inr (by
    rw [e _ (by omega)]
    unfold ldS
    rw [if_neg (by omega)]
    exact Int.le_refl _))
  rw [hn]
  unfold nmP wdT wdP
  rw [Int.toNat_natCast]
  refine List.map_congr_left (fun x _ => ?_)
  rw [e x (by omega)]
  omega
theorem txR_c {F G : Hp} (h : ∀ a : Int, 136 < a → a < 158 → G a = F a) (h6 : G 136 3 = F 136 3 ∧ G 136 4 = F 136 4 ∧ G 136 5 = F 136 5 ∧ G 136 38 = F 136 38) : txR G = txR F := by
  have n : ∀ d, nodR G d = nodR F d := fun d => by
    unfold nodR
    rw [h 137 (by decide) (by decide), h 139 (by decide) (by decide), h 141 (by decide) (by decide), h 142 (by decide) (by decide), h 143 (by decide) (by decide), h 144 (by decide) (by decide), h 145 (by decide) (by decide)]
  have t : ∀ d, tmR G d = tmR F d := fun d => by
    unfold tmR
    rw [h 139 (by decide) (by decide), h 150 (by decide) (by decide), h 151 (by decide) (by decide), h 152 (by decide) (by decide), h 153 (by decide) (by decide)]
  have ns : ∀ k, nodsR G k = nodsR F k := by
    intro k
    induction k with
    | zero => rfl
    | succ k ih => unfold nodsR; rw [ih, n]
  have ts : ∀ k, tmsR G k = tmsR F k := by
    intro k
    induction k with
    | zero => rfl
    | succ k ih => unfold tmsR; rw [ih, t, h 137 (by decide) (by decide), h 150 (by decide) (by decide)]
  unfold txR limR ageR
  rw [ns, ts, h6.1, h6.2.1, h6.2.2.1, h6.2.2.2]
theorem set_6 {b u : Int} {F : Hp} {n : Int} : setT b u F n 6 = ([] : List Int) ++ (([32] ++ kwT 0) ++ ([32] ++ nuT (F (b + 1) n))) ++ (([32] ++ kwT 1) ++ ([32] ++ nuT (F (b + 2) n))) ++ (([32] ++ kwT 2) ++ ([32] ++ nuT (F (u + 7) n))) ++ (([32] ++ kwT 3) ++ ([32] ++ nuT (F (u + 8) n))) ++ (([32] ++ kwT 4) ++ ([32] ++ nuT (F (b + 3) n))) ++ (([32] ++ kwT 5) ++ ([32] ++ nuT (F (u + 10) n))) := rfl
theorem Gl.nodT {u v K : Int} {F : Hp} (h : Gl u v K F) {n : Int} (n0 : 0 ≤ n) (n1 : n < F u 0) : Jvm.Pilot.CRateLimiterLaw_law_r9152_2bcaae.nodT 40 u F n = nodR F n := by
  have U := h.U n0 n1
  have S := h.S n0 n1
  have m := h.2.2.2.2.1 n n0 n1
  have hp := h.sta.1.2.2.1 n n0 n1
  have ht := h.sta.1.2.1 n n0 n1
  unfold Jvm.Pilot.CRateLimiterLaw_law_r9152_2bcaae.nodT nodR
  rw [set_6, m.2, nm_wd m.1.1 m.1.2, kw7, kw0, kw1, kw2, kw3, kw4, kw5, kw6, S.1, S.2.1, S.2.2.1, U.2.2.2.1, U.2.2.2.2.1, U.2.2.2.2.2.1, U.2.2.2.2.2.2]
  have ein : inT u F n = if 0 < n then ([32] ++ wdT 302) ++ ([32] ++ wdT (F 139 (F 141 n))) else [] := by
    unfold inT
    by_cases q : 0 < n
    · have mp := h.2.2.2.2.1 (F (u + 2) n) (hp.2 (by omega)) (by omega)
      rw [if_pos (hp.2 (by omega)), if_pos q, mp.2, nm_wd mp.1.1 mp.1.2, kw8, U.1]
    · rw [if_neg (by have := hp.1 (by omega); omega), if_neg q]
  rw [ein]
  simp only [List.append_assoc, List.nil_append]
theorem Gl.chgT {u v K : Int} {F : Hp} (h : Gl u v K F) {k : Int} (k0 : 0 ≤ k) (k1 : k < F (u + 12) 0) : Jvm.Pilot.CRateLimiterLaw_law_r9152_2bcaae.chgT u F k = tmR F k := by
  have c := h.2.2.1.2.2.2.2.2 k k0 k1
  rw [show (1100 : Int) + 13 = 1113 from rfl, show (1100 : Int) + 14 = 1114 from rfl, show (1100 : Int) + 15 = 1115 from rfl, show (1100 : Int) + 16 = 1116 from rfl, vw_1113, vw_1114, vw_1115, vw_1116] at c
  have s := h.sta.1.2.2.2.2.2.2.2.2.2.2.2 k k0 k1
  have m := h.2.2.2.2.1 (F (u + 14) k) s.2.1.1 s.2.1.2
  have ek : kwT (F (u + 15) k) = wdT (cwR (F (u + 15) k)) := by
    rcases s.2.2.1 with z | z | z
    · rw [z]; exact kw_wd 0 (by decide)
    · rw [z]; exact kw_wd 1 (by decide)
    · rw [z]; exact kw_wd 4 (by decide)
  unfold Jvm.Pilot.CRateLimiterLaw_law_r9152_2bcaae.chgT tmR
  rw [m.2, nm_wd m.1.1 m.1.2, ek, kw11, c.1, c.2.1, c.2.2.1, c.2.2.2]
theorem Gl.txt {u v K : Int} {F : Hp} (h : Gl u v K F) : txtT 40 u F = txR F := by
  have hN := h.N12
  have hA := h.2.2.1
  have h13 := hA.2.1
  have h14 := hA.2.2.1
  have h12 := hA.2.2.2.1
  rw [vw_1100_13] at h13
  rw [vw_1100_14] at h14
  rw [show (1100 : Int) + 12 = 1112 from rfl, vw_1112_0] at h12
  have hs := h.sta.1
  have ns : ∀ k : Nat, (k : Int) ≤ F u 0 → nodsT 40 u F k = nodsR F k := by
    intro k
    induction k with
    | zero => exact fun _ => rfl
    | succ k ih =>
      intro hk
      unfold nodsT nodsR
      rw [ih (by omega), h.nodT (by omega) (by omega)]
  have ts : ∀ k : Nat, (k : Int) ≤ F (u + 12) 0 → chgsT 40 u F k = tmsR F k := by
    intro k
    induction k with
    | zero => exact fun _ => rfl
    | succ k ih =>
      intro hk
      have c := (hA.2.2.2.2.2 k (by omega) (by omega)).1
      rw [show (1100 : Int) + 13 = 1113 from rfl, vw_1113] at c
      unfold chgsT tmsR
      rw [ih (by omega), h.chgT (by omega) (by omega), c, h.T.1]
  have ea : ageT u F = ageR F := by
    have r := hs.2.2.2.2.2.2.2.2.2.1
    unfold ageT ageR
    rw [← h14, kw10]
    by_cases q : F u 14 = -1
    · rw [if_pos q, if_pos (by omega)]
    · rw [if_neg q, if_neg (by omega)]
  have el : limT u F = limR F := by
    unfold limT limR
    rw [← h13, kw9]
  unfold txtT txR
  rw [ns _ (by omega), ts _ (by have := hs.2.2.2.2.2.2.2.2.2.2.1; omega), ea, el, h.N, h12]
theorem Gl.wr {u v K : Int} {F F1 H F2 : Hp} {l m : List Int} {w : Int} (h : Gl u v K F) (a3 : F1 = wrN l 0 (W0 w F)) (hH : H = up F1 136 0 0) (b3 : F2 = oS m (up H 136 41 0)) : Gl u v K F2 ∧ txR (up H 136 41 0) = txR F := by
  have hu2 : u = 4 ∨ u = 23 := h.1.1.1
  have hK := h.2.1.2.2.2.1
  have o1 : ∀ a : Int, a ≠ 22 → F1 a = F a := fun a z => by rw [a3, wW_r z]
  obtain ⟨z6, zr, zv, zl⟩ := hi_z hH (fun a z => o1 a (by omega))
  have lo : ∀ a : Int, a ≠ 136 → a ≠ 158 → F2 a = H a := fun a z1 z2 => by rw [b3, oS_k z2 z1, up_r z1]
  have l6 : ∀ i : Int, i ≠ 0 → i ≠ 41 → F2 136 i = F 136 i := fun i z1 z2 => by rw [b3, oS_f z2, up_i z2, z6 i z1]
  have e1 : ∀ a : Int, a < 136 → a ≠ 22 → F2 a = F a := fun a z1 z2 => by rw [lo a (by omega) (by omega), zl a z1, o1 a z2]
  have e2 : ∀ a : Int, 136 < a → a < 158 → F2 a = F a := fun a z1 z2 => by rw [lo a (by omega) (by omega), zr a z1]
  have ev : vw 0 F2 = vw 0 F := vw_fr (fun j _ _ => by rw [e2 137 (by decide) (by decide)]) ⟨l6 3 (by decide) (by decide), l6 4 (by decide) (by decide), l6 5 (by decide) (by decide), l6 38 (by decide) (by decide)⟩ (fun a z => e2 a (by omega) (by omega))
  refine ⟨h.st ⟨Int.le_refl _, hK⟩ (fun a z1 z2 z3 => e1 a z1 z3) l6 (fun i z1 z2 => by rw [e2 137 (by decide) (by decide)]) (fun a z1 z2 => e2 a (by omega) z2) ?_ ?_, txR_c (fun a z1 z2 => by rw [up_r (by omega), zr a z1]) ⟨by rw [up_i (by decide), z6 3 (by decide)], by rw [up_i (by decide), z6 4 (by decide)], by rw [up_i (by decide), z6 5 (by decide)], by rw [up_i (by decide), z6 38 (by decide)]⟩⟩
  · exact h.sta.fr2 (fun a z1 z2 => e1 a (by omega) (by omega)) (fun a z1 z2 => e1 a (by omega) (by omega))
  · rw [ev]
    exact h.2.2.2.1.frL (e1 u (by omega) (by omega)) (fun a z1 z2 => e1 a (by omega) (by omega))
theorem g_setupLength {u v K r r' : Int} {F F1 F2 : Hp} (h : Gl u v K F) (h1 : r = (txtT 40 u F).length ∧ F1 = wrN (txtT 40 u F) 0 (W0 (-2) F)) (h2 : ∃ H : Hp, H = up F1 136 0 0 ∧ (r' = (txR (up H 136 41 0)).length ∧ F2 = oS (txR (up H 136 41 0)) (up H 136 41 0))) : r = r' ∧ Gl u v K F2 := by
  obtain ⟨H, hH, b2, b3⟩ := h2
  have e := h.wr h1.2 hH b3
  exact ⟨by rw [h1.1, b2, e.2, h.txt], e.1⟩
theorem g_setupByte {u v K r r' i : Int} {F F1 F2 : Hp} (h : Gl u v K F) (h1 : (i < 0 ∧ r = -1 ∧ F1 = F) ∨ (0 ≤ i ∧ r = (if i < (txtT 40 u F).length then (txtT 40 u F).getD i.toNat 0 else -2) ∧ F1 = wrN (txtT 40 u F) 0 (W0 i F))) (h2 : ∃ H : Hp, H = up F1 136 0 0 ∧ (r' = (if i < 0 then -1 else if i < (txR (up H 136 41 0)).length then (txR (up H 136 41 0)).getD i.toNat 0 else -2) ∧ F2 = oS (txR (up H 136 41 0)) (up H 136 41 0))) : r = r' ∧ Gl u v K F2 := by
  obtain ⟨H, hH, b2, b3⟩ := h2
  rcases h1 with ⟨n1, a2, a3⟩ | ⟨n1, a2, a3⟩
  · rw [if_pos n1] at b2
    refine ⟨a2.trans b2.symm, ?_⟩
    have hu2 : u = 4 ∨ u = 23 := h.1.1.1
    have hK := h.2.1.2.2.2.1
    subst a3
    have hz : Gl u v K H := by rw [hH]; exact h.z
    have lo : ∀ a : Int, a ≠ 136 → a ≠ 158 → F2 a = H a := fun a z1 z2 => by rw [b3, oS_k z2 z1, up_r z1]
    have l6 : ∀ i : Int, i ≠ 41 → F2 136 i = H 136 i := fun i z2 => by rw [b3, oS_f z2, up_i z2]
    have ev : vw 0 F2 = vw 0 H := vw_fr (fun j _ _ => by rw [lo 137 (by decide) (by decide)]) ⟨l6 3 (by decide), l6 4 (by decide), l6 5 (by decide), l6 38 (by decide)⟩ (fun a z => lo a (by omega) (by omega))
    refine hz.st ⟨Int.le_refl _, hK⟩ (fun a z1 z2 z3 => lo a (by omega) (by omega)) (fun i _ z => l6 i z) (fun i z1 z2 => by rw [lo 137 (by decide) (by decide)]) (fun a z1 z2 => lo a (by omega) (by omega)) (hz.sta.fr2 (fun a z1 z2 => lo a (by omega) (by omega)) (fun a z1 z2 => lo a (by omega) (by omega))) ?_
    rw [ev]
    exact hz.2.2.2.1.frL (lo u (by omega) (by omega)) (fun a z1 z2 => lo a (by omega) (by omega))
  · have e := h.wr a3 hH b3
    rw [if_neg (by omega), e.2] at b2
    exact ⟨by rw [a2, b2, h.txt], e.1⟩

