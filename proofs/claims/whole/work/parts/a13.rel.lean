/-- a good text -/
theorem g_loadG {u v K : Int} {M' W L F F1 : Hp} (h : Gl u v K F) (hK0 : 0 ≤ K) (hL : L = ldS1 F1) (m : Ms v W M' L) (eW : W = scnS M') (dr : Dr v M' L) (e1 : F1 = up (up (begS 40 v (up (up (up W 1 1 0) 0 3 v) 3 2 u)) 88 0 0) 112 0 0) (hi : ∀ a : Int, 136 ≤ a → F1 a = F a) : Gl v u K (tkR (up L 136 14 0)) := by
  have hK := h.2.1.2.2.2.1
  obtain ⟨⟨⟨g1, g2⟩, g3⟩, g4, g5, g6, g7, g8, g9, g10, g11⟩ := h
  have hu2 : u = 4 ∨ u = 23 := g1
  have hv2 : v = 4 ∨ v = 23 := g2
  have hdj : dj 40 v := by unfold dj; omega
  have kp : Kp F1 L := by rw [hL]; exact kp_ld
  have pq := m.2.2.2.2.2.1
  have hg : L 136 19 = 0 := m.2.2.2.2.2.2.2
  have hSu : SuI v M' := m.2.1.2.1
  obtain ⟨-, -, -, z30, z31⟩ := m.1
  have hN := hSu.1
  obtain ⟨d1, d2, d3, d4, d5, d6, d7, d8⟩ := id dr
  have p39 := pq.2.2.2.2.2.2.1
  obtain ⟨k0, ⟨k3, k4, k5, k38, k6⟩, ⟨s0, s1⟩, kc, kn, kz⟩ := tk_f (F := up L 136 14 0) (by rw [up_i (by decide)]; omega) (by rw [up_i (by decide)]; exact p39)
  have xL : ∀ a i : Int, a ≠ 136 ∨ i ≠ 14 → up L 136 14 0 a i = L a i := fun a i z => up_n (by omega)
  rw [xL 136 22 (by omega)] at kn k3
  rw [xL 136 39 (by omega)] at kc k38
  rw [xL 136 23 (by omega)] at k4
  rw [xL 136 26 (by omega), xL 136 24 (by omega)] at k5
  have t14 : tkR (up L 136 14 0) 136 14 = 0 := by rw [k6 14 (by decide) (by decide) (by decide) (by decide), up_s]
  have r6 : ∀ i : Int, i = 17 ∨ i = 18 ∨ i = 19 ∨ i = 20 ∨ i = 21 → tkR (up L 136 14 0) 136 i = L 136 i := fun i z => by rw [k6 i (by omega) (by omega) (by omega) (by omega), xL 136 i (by omega)]
  have r140 : tkR (up L 136 14 0) 140 = L 140 := by funext i; rw [k0 140 i (by decide) (by decide) (by decide) (by decide) (by decide) (by decide), xL 140 i (by omega)]
  have r149 : tkR (up L 136 14 0) 149 = L 149 := by funext i; rw [k0 149 i (by decide) (by decide) (by decide) (by decide) (by decide) (by decide), xL 149 i (by omega)]
  have lo : ∀ a i : Int, a < 136 → tkR (up L 136 14 0) a i = F1 a i := fun a i z => by rw [k0 a i (by omega) (by omega) (by omega) (by omega) (by omega) (by omega), xL a i (by omega), kp.1 a i (by omega) (by omega)]
  have hw : ∀ a i : Int, a ≠ 21 → W a i = M' a i := fun a i z => by rw [eW, scn_r z]
  have vS : ∀ a : Int, v ≤ a → a < v + 17 → tkR (up L 136 14 0) a = M' a := fun a z1 z2 => by
    funext i
    rw [lo a i (by omega), e1, up_k (by omega), up_k (by omega), begS_r (by omega) (by omega), up_k (by omega), up_k (by omega), up_k (by omega), hw a i (by omega)]
  have yv : ∀ a i : Int, v ≤ a → a < v + 17 → up (up (up W 1 1 0) 0 3 v) 3 2 u a i = M' a i := fun a i z1 z2 => by rw [up_k (by omega), up_k (by omega), up_k (by omega), hw a i (by omega)]
  have bf := beg_f (F := up (up (up W 1 1 0) 0 3 v) 3 2 u) hdj
  have cb : ∀ a i : Int, 40 ≤ a → a < 64 → tkR (up L 136 14 0) a i = begS 40 v (up (up (up W 1 1 0) 0 3 v) 3 2 u) a i := fun a i z1 z2 => by rw [lo a i (by omega), e1, up_k (by omega), up_k (by omega)]
  have c03 : tkR (up L 136 14 0) 0 3 = v := by rw [lo 0 3 (by decide), e1, up_k (by decide), up_k (by decide), begS_r (by omega) (by omega), up_k (by decide), up_s]
  have c32 : tkR (up L 136 14 0) 3 2 = u := by rw [lo 3 2 (by decide), e1, up_k (by decide), up_k (by decide), begS_r (by omega) (by omega), up_s]
  have c11 : tkR (up L 136 14 0) 1 1 = 0 := by rw [lo 1 1 (by decide), e1, up_k (by decide), up_k (by decide), begS_r (by omega) (by omega), up_k (by decide), up_k (by decide), up_s]
  have c30 : tkR (up L 136 14 0) 3 0 = 0 := by rw [lo 3 0 (by decide), e1, up_k (by decide), up_k (by decide), begS_r (by omega) (by omega), up_i (by decide), up_k (by decide), up_k (by decide), hw 3 0 (by decide), z30]
  have c31 : tkR (up L 136 14 0) 3 1 = -2 := by rw [lo 3 1 (by decide), e1, up_k (by decide), up_k (by decide), begS_r (by omega) (by omega), up_i (by decide), up_k (by decide), up_k (by decide), hw 3 1 (by decide), z31]
  have c88 : tkR (up L 136 14 0) 88 0 = 0 := by rw [lo 88 0 (by decide), e1, up_k (by decide), up_s]
  have c112 : tkR (up L 136 14 0) 112 0 = 0 := by rw [lo 112 0 (by decide), e1, up_s]
  generalize hG : tkR (up L 136 14 0) = G at *
  have ev : ∀ i : Int, G v i = M' v i := fun i => by rw [vS v (by omega) (by omega)]
  have rows : ∀ n : Int, 0 ≤ n → n < 12 → (G (40 + 1) n = M' (v + 5) n ∧ G (40 + 2) n = M' (v + 6) n ∧ G (40 + 3) n = M' (v + 9) n ∧ G (40 + 5) n = M' (v + 7) n ∧ G (40 + 6) n = 0 ∧ G (40 + 7) n = M' (v + 7) n ∧ G (40 + 9) n = 0) ∧ G (40 + 14) n = 0 ∧ G (40 + 15) n = 0 ∧ G (40 + 16) n = 0 ∧ G (40 + 17) n = 0 ∧ G (40 + 18) n = 0 := fun n n0 n1 => by
    have b := bf.2.2.2 n n0 n1
    rw [yv (v + 5) n (by omega) (by omega), yv (v + 6) n (by omega) (by omega), yv (v + 9) n (by omega) (by omega), yv (v + 7) n (by omega) (by omega)] at b
    rw [cb (40 + 1) n (by omega) (by omega), cb (40 + 2) n (by omega) (by omega), cb (40 + 3) n (by omega) (by omega), cb (40 + 5) n (by omega) (by omega), cb (40 + 6) n (by omega) (by omega), cb (40 + 7) n (by omega) (by omega), cb (40 + 9) n (by omega) (by omega), cb (40 + 14) n (by omega) (by omega), cb (40 + 15) n (by omega) (by omega), cb (40 + 16) n (by omega) (by omega), cb (40 + 17) n (by omega) (by omega), cb (40 + 18) n (by omega) (by omega)]
    exact b
  have ct : G 40 1 = 0 := by rw [cb 40 1 (by decide) (by decide)]; exact bf.1
  have cn : G (40 + 8) 4 = 0 := by rw [cb (40 + 8) 4 (by decide) (by decide)]; exact bf.2.1
  have cl : G (40 + 19) 0 = 0 := by rw [cb (40 + 19) 0 (by decide) (by decide)]; exact bf.2.2.1
  have hSG : SuI v G := hSu.fr vS
  have hStA : StA 40 v K G := by
    refine ⟨hSG, fun n h0 hn => ?_, ⟨by rw [ct]; omega, fun n h0 hn => ?_, fun n h0 hn k k0 k1 => ?_⟩, ⟨by rw [cl]; omega, fun k k0 k1 => by rw [cl] at k1; omega⟩, fun n h0 hn => ?_⟩
    · rw [ev] at hn
      have a := rows n h0 (by omega)
      have s := hSu.2.2.2.2.2.2.1 n h0 hn
      rw [vS (v + 7) (by omega) (by omega), vS (v + 8) (by omega) (by omega)]
      omega
    · rw [ev] at hn
      have a := rows n h0 (by omega)
      exact ⟨by omega, fun _ => by omega⟩
    · rw [ev] at hn
      have a := rows n h0 (by omega)
      omega
    · rw [ev] at hn
      have a := rows n h0 (by omega)
      omega
  have L148 : ∀ i : Int, up L 136 14 0 148 i = L 148 i := fun i => xL 148 i (by omega)
  have hAU : AgU v G 1100 (vw 0 G) := by
    refine AgU.mk hSG (by rw [ev, k3]; exact d1) (by rw [ev, k4]; exact d3) (by rw [ev, k5]; exact d5) (by rw [vS (v + 12) (by omega) (by omega), k38]; exact d7) (fun n n0 n1 => ?_) (fun k k0 k1 => ?_)
    · rw [ev, d1] at n1
      obtain ⟨⟨q1, q2, q3, q4, q5, q6⟩, -⟩ := kn n n0 n1
      rw [xL 147 n (by omega)] at q2
      rw [L148] at q3 q4 q5 q6
      have dd := d2 n n0 n1
      have s := hSu.2.2.2.2.2.2.2.1 n n0 (by omega)
      rw [vS (v + 2) (by omega) (by omega), vS (v + 7) (by omega) (by omega), vS (v + 8) (by omega) (by omega), vS (v + 10) (by omega) (by omega), vS (v + 11) (by omega) (by omega), q2, q3, q4, q5, q6]
      refine ⟨dd.2.1, dd.2.2.2.2.1, dd.2.2.2.2.2.1, dd.2.2.2.2.2.2.2.1, ?_⟩
      have z := dd.2.2.2.2.2.2.2.2
      split <;> omega
    · rw [vS (v + 12) (by omega) (by omega), d7] at k1
      have q := kc k k0 k1
      rw [xL 154 k (by omega), xL 155 k (by omega), xL 156 k (by omega), xL 157 k (by omega)] at q
      have dd := d8 k k0 k1
      rw [vS (v + 13) (by omega) (by omega), vS (v + 14) (by omega) (by omega), vS (v + 15) (by omega) (by omega), vS (v + 16) (by omega) (by omega), q.1, q.2.1, q.2.2.1, q.2.2.2]
      exact dd
  refine ⟨⟨⟨g2, g1⟩, fun z => g3 z.symm⟩, ?_, hAU, ?_, ?_, ?_, ?_, ?_, ?_⟩
  · unfold CI
    rw [c03, c32, c11, c88, c112]
    exact ⟨rfl, rfl, hStA, hK, by omega, fun i z0 z1 => by omega, Or.inl rfl, Or.inl rfl, fun z => absurd z (by decide), fun z => absurd z (by decide)⟩
  · refine ⟨by rw [ct, vw_t]; exact (kz 0 (by decide) (by decide) (by decide) (by decide) (by decide)).symm, by rw [cn, show (1000 : Int) + 8 = 1008 from rfl, vw_x]; exact (kz 1 (by decide) (by decide) (by decide) (by decide) (by decide)).symm, by rw [cl, show (1000 : Int) + 19 = 1019 from rfl, vw_c]; exact (kz 2 (by decide) (by decide) (by decide) (by decide) (by decide)).symm, fun n n0 n1 => ?_, fun n n0 n1 => ?_, fun n n0 n1 k j0 j1 => ?_, fun k j0 j1 => ?_⟩
    · rw [ev] at n1
      have a := rows n n0 (by omega)
      have dd := d2 n n0 (by omega)
      obtain ⟨-, q1, q2, q3, q4, q5⟩ := kn n n0 (by omega)
      rw [L148] at q1 q2 q3 q4 q5
      rw [show (1000 : Int) + 1 = 1001 from rfl, vw_1 (by omega), show (1000 : Int) + 2 = 1002 from rfl, vw_2 (by omega), show (1000 : Int) + 3 = 1003 from rfl, vw_3 (by omega), show (1000 : Int) + 5 = 1005 from rfl, vw_5 (by omega), show (1000 : Int) + 6 = 1006 from rfl, vw_6 (by omega), show (1000 : Int) + 7 = 1007 from rfl, vw_7 (by omega), show (1000 : Int) + 9 = 1009 from rfl, vw_9 (by omega)]
      refine ⟨a.1.1.trans (dd.2.2.1.trans q1.symm), a.1.2.1.trans (dd.2.2.2.1.trans q2.symm), a.1.2.2.1.trans (dd.2.2.2.2.2.2.1.trans q3.symm), a.1.2.2.2.1.trans (dd.2.2.2.2.1.trans q4.symm), a.1.2.2.2.2.1.trans (kz (15 + n) (by omega) (by omega) (by omega) (by omega) (by omega)).symm, a.1.2.2.2.2.2.1.trans (dd.2.2.2.2.1.trans q5.symm), a.1.2.2.2.2.2.2.trans (kz (135 + n) (by omega) (by omega) (by omega) (by omega) (by omega)).symm⟩
    · rw [ev] at n1
      have a := rows n n0 (by omega)
      rw [show (1000 : Int) + 14 = 1014 from rfl, vw_14 (by omega), show (1000 : Int) + 15 = 1015 from rfl, vw_15 (by omega), show (1000 : Int) + 16 = 1016 from rfl, vw_16 (by omega), show (1000 : Int) + 17 = 1017 from rfl, vw_17 (by omega), show (1000 : Int) + 18 = 1018 from rfl, vw_18 (by omega)]
      refine ⟨a.2.1.trans (kz (39 + n) (by omega) (by omega) (by omega) (by omega) (by omega)).symm, a.2.2.1.trans (kz (51 + n) (by omega) (by omega) (by omega) (by omega) (by omega)).symm, a.2.2.2.1.trans (kz (63 + n) (by omega) (by omega) (by omega) (by omega) (by omega)).symm, a.2.2.2.2.1.trans (kz (75 + n) (by omega) (by omega) (by omega) (by omega) (by omega)).symm, a.2.2.2.2.2.trans (kz (87 + n) (by omega) (by omega) (by omega) (by omega) (by omega)).symm⟩
    · rw [ev] at n1
      have a := rows n n0 (by omega)
      omega
    · rw [cl] at j1
      omega
  · intro n n0 n1
    rw [ev] at n1
    obtain ⟨⟨q1, -⟩, -⟩ := kn n n0 (by omega)
    rw [xL 140 n (by omega)] at q1
    have dd := (d2 n n0 (by omega)).1
    have pb := pq.2.2.2.2.2.2.2.1 n n0 (by omega)
    rw [q1, vS (v + 1) (by omega) (by omega)]
    exact ⟨⟨dd.1, pb.2⟩, dd.2⟩
  · unfold Sn
    rw [s0, s1, c88, c112]
    exact ⟨rfl, rfl, fun z => absurd z (by decide), fun z => absurd z (by decide)⟩
  · unfold TxR
    rw [c11, t14]
    exact ⟨rfl, by omega, fun i z0 z1 => by omega⟩
  · rw [c30, c31, r6 19 (by omega), r6 20 (by omega), hg]
    exact ⟨rfl, (kp.2 hg).symm⟩
  · obtain ⟨q1, q2, q3, q4, q5, q6, q7, q8, q9, q10, q11⟩ := pq
    unfold PZ
    rw [t14, r6 17 (by omega), r6 18 (by omega), r6 21 (by omega), r140, r149]
    exact ⟨by omega, fun i z0 z1 => by omega, q3, q4, q5, q8, q11⟩
/-- load -/
theorem g_load {u v K r r' : Int} {F F1 F2 : Hp} (h : Gl u v K F) (hK0 : 0 ≤ K) (h1 : LdC u v F F1 r) (h2 : (¬ ldS1 F1 136 19 = 0 ∧ r' = -1 ∧ F2 = up (ldS1 F1) 136 14 0) ∨ (ldS1 F1 136 19 = 0 ∧ r' = ldS1 F1 136 22 ∧ F2 = tkR (up (ldS1 F1) 136 14 0))) : r = r' ∧ ∃ u' v' : Int, Gl u' v' K F2 := by
  have hi := ldc_hi h.1.1.2 h1
  rcases ldc_sim h h1 with hb | ⟨M', m, e, dr⟩
  · have hz := hb.1
    have hW := hb.2.1
    rcases h1 with ⟨a1, a2, a3⟩ | ⟨a1, -, -⟩
    · rcases h2 with ⟨-, b2, b3⟩ | ⟨b1, -, -⟩
      · exact ⟨a2.trans b2.symm, u, v, by rw [b3]; exact g_loadB h (Or.inl ⟨a1, a2, a3⟩) hb a3⟩
      · exact absurd b1 hz
    · exact absurd (hW.symm.trans a1) hz
  · have hg : ldS1 F1 136 19 = 0 := m.2.2.2.2.2.2.2
    obtain ⟨-, -, -, z30, -⟩ := m.1
    have w0 : rdS v 901 (bgS v F) 3 0 = 0 := by rw [e, scn_r (by decide)]; exact z30
    rcases h2 with ⟨b1, -, -⟩ | ⟨-, b2, b3⟩
    · exact absurd hg b1
    · rcases h1 with ⟨a1, -, -⟩ | ⟨-, a2, a3⟩
      · exact absurd w0 a1
      · have hv2 : v = 4 ∨ v = 23 := h.1.1.2
        refine ⟨by rw [a2, b2, e, scn_r (by omega)]; exact dr.1, v, u, ?_⟩
        rw [b3]
        exact g_loadG h hK0 rfl m e dr a3 hi

