def setL (s : Nat) (x : Int) (E : List Int) : List Int := [32] ++ (nmS s ++ (32 :: (decS x ++ E)))
def setsL (K : Hp) (t n : Int) (E : List Int) : List Int := setL 0 (K (t + 2) n) (setL 1 (K (t + 3) n) (setL 2 (K (t + 4) n) (setL 3 (K (t + 5) n) (setL 4 (K (t + 6) n) (setL 5 (K (t + 7) n) E)))))
theorem rd_set2 {v n : Int} {k : Nat} {F : Hp} {x g g' : Int} {E : List Int} (s : Nat) (hv : isSu v) (hk : 2 < k) (hs : s < 6) (h : RT F (setL s x E)) (hr : ¬ (0 < E.length ∧ dgtB (E.getD 0 0) = true))
    (hm0 : F 3 4 = 4) (hn : F v 0 = n + 1) (hg : F 3 7 = g) (hz : ¬ gvn g s = 1) (hg' : ior g (ishl 1 s) = g') (hx : 0 ≤ x ∧ x < 100) (ht : tabL s ≤ x ∧ x ≤ tabG s) :
    ∃ H, rdS v k F = rdS v (k - 2) H ∧ RT H E ∧ H 3 4 = 4 ∧ H 3 7 = g' ∧ H v 0 = n + 1 ∧ H (v + (5 + s)) n = x ∧ (∀ a i : Int, a ≠ 3 → a ≠ 21 → ¬ (a = v + (5 + s) ∧ i = n) → H a i = F a i) ∧ H 3 2 = F 3 2 ∧ H 3 5 = F 3 5 := by
  have hv' : v = 4 ∨ v = 23 := hv
  obtain ⟨H, h1, h2, h3, h4, h5, h6, h7⟩ := rd_set (g := g) (g' := g') (x := x) hv hk hs h hr hm0 hg hz hg' hx ht
  rw [show F v 0 - 1 = n by omega] at h5 h6
  exact ⟨H, h1, h2, h3, h4, by rw [h6 v 0 (by omega) (by omega) (by omega)]; exact hn, h5, h6, h7 2 (by omega), h7 5 (by omega)⟩
/-- the six settings -/
theorem rd_six {v n t : Int} {k : Nat} {F K : Hp} {E : List Int} (hv : isSu v) (hk : 12 < k) (h : RT F (setsL K t n E)) (hr : ¬ (0 < E.length ∧ dgtB (E.getD 0 0) = true))
    (hm0 : F 3 4 = 4) (hn : F v 0 = n + 1) (hg : F 3 7 = 0) (hb : (0 ≤ K (t + 2) n ∧ K (t + 2) n ≤ 11) ∧ (0 ≤ K (t + 3) n ∧ K (t + 3) n ≤ 11) ∧ (1 ≤ K (t + 4) n ∧ K (t + 4) n ≤ 20) ∧ (0 ≤ K (t + 5) n ∧ K (t + 5) n ≤ 8) ∧ (1 ≤ K (t + 6) n ∧ K (t + 6) n ≤ 3) ∧ (0 ≤ K (t + 7) n ∧ K (t + 7) n ≤ 1)) :
    ∃ H, rdS v k F = rdS v (k - 12) H ∧ RT H E ∧ H 3 4 = 4 ∧ H 3 7 = 63 ∧ H v 0 = n + 1 ∧ (H (v + 5) n = K (t + 2) n ∧ H (v + 6) n = K (t + 3) n ∧ H (v + 7) n = K (t + 4) n ∧ H (v + 8) n = K (t + 5) n ∧ H (v + 9) n = K (t + 6) n ∧ H (v + 10) n = K (t + 7) n) ∧ (∀ a i : Int, a ≠ 3 → a ≠ 21 → ¬ ((v + 5 ≤ a ∧ a ≤ v + 10) ∧ i = n) → H a i = F a i) ∧ H 3 2 = F 3 2 ∧ H 3 5 = F 3 5 := by
  have hv' : v = 4 ∨ v = 23 := hv
  obtain ⟨b0, b1, b2, b3, b4, b5⟩ := hb
  obtain ⟨F1, a1, a2, a3, a4, a5, a6, a7, a8, a9⟩ := rd_set2 (k := k) (g' := 1) 0 hv (by omega) (by decide) h nd32 hm0 hn hg (by decide +kernel) (by decide +kernel) (by omega) ⟨(show (0 : Int) ≤ _ by omega), (show _ ≤ (99 : Int) by omega)⟩
  obtain ⟨F2, c1, c2, c3, c4, c5, c6, c7, c8, c9⟩ := rd_set2 (k := k - 2) (g' := 3) 1 hv (by omega) (by decide) a2 nd32 a3 a5 a4 (by decide +kernel) (by decide +kernel) (by omega) ⟨(show (0 : Int) ≤ _ by omega), (show _ ≤ (999 : Int) by omega)⟩
  obtain ⟨F3, d1, d2, d3, d4, d5, d6, d7, d8, d9⟩ := rd_set2 (k := k - 2 - 2) (g' := 7) 2 hv (by omega) (by decide) c2 nd32 c3 c5 c4 (by decide +kernel) (by decide +kernel) (by omega) ⟨(show (1 : Int) ≤ _ by omega), (show _ ≤ (999 : Int) by omega)⟩
  obtain ⟨F4, e1, e2, e3, e4, e5, e6, e7, e8, e9⟩ := rd_set2 (k := k - 2 - 2 - 2) (g' := 15) 3 hv (by omega) (by decide) d2 nd32 d3 d5 d4 (by decide +kernel) (by decide +kernel) (by omega) ⟨(show (0 : Int) ≤ _ by omega), (show _ ≤ (999 : Int) by omega)⟩
  obtain ⟨F5, f1, f2, f3, f4, f5, f6, f7, f8, f9⟩ := rd_set2 (k := k - 2 - 2 - 2 - 2) (g' := 31) 4 hv (by omega) (by decide) e2 nd32 e3 e5 e4 (by decide +kernel) (by decide +kernel) (by omega) ⟨(show (1 : Int) ≤ _ by omega), (show _ ≤ (9 : Int) by omega)⟩
  obtain ⟨F6, g1, g2, g3, g4, g5, g6, g7, g8, g9⟩ := rd_set2 (k := k - 2 - 2 - 2 - 2 - 2) (g' := 63) 5 hv (by omega) (by decide) f2 hr f3 f5 f4 (by decide +kernel) (by decide +kernel) (by omega) ⟨(show (0 : Int) ≤ _ by omega), (show _ ≤ (7 : Int) by omega)⟩
  have z : ∀ s : Nat, v + (5 + (s : Int)) = v + 5 + s := fun s => by omega
  refine ⟨F6, by rw [a1, c1, d1, e1, f1, g1]; congr 1, g2, g3, g4, g5, ⟨?_, ?_, ?_, ?_, ?_, ?_⟩, fun a i h1 h2 h3 => ?_, by rw [g8, f8, e8, d8, c8, a8], by rw [g9, f9, e9, d9, c9, a9]⟩
  · rw [g7 _ _ (by omega) (by omega) (by omega), f7 _ _ (by omega) (by omega) (by omega), e7 _ _ (by omega) (by omega) (by omega), d7 _ _ (by omega) (by omega) (by omega), c7 _ _ (by omega) (by omega) (by omega)]; exact a6
  · rw [g7 _ _ (by omega) (by omega) (by omega), f7 _ _ (by omega) (by omega) (by omega), e7 _ _ (by omega) (by omega) (by omega), d7 _ _ (by omega) (by omega) (by omega)]; exact c6
  · rw [g7 _ _ (by omega) (by omega) (by omega), f7 _ _ (by omega) (by omega) (by omega), e7 _ _ (by omega) (by omega) (by omega)]; exact d6
  · rw [g7 _ _ (by omega) (by omega) (by omega), f7 _ _ (by omega) (by omega) (by omega)]; exact e6
  · rw [g7 _ _ (by omega) (by omega) (by omega)]; exact f6
  · exact g6
  · rw [g7 _ _ h1 h2 (by omega), f7 _ _ h1 h2 (by omega), e7 _ _ h1 h2 (by omega), d7 _ _ h1 h2 (by omega), c7 _ _ h1 h2 (by omega), a7 _ _ h1 h2 (by omega)]
/-- a node's row, as the tree has it -/
def SNi (v : Int) (F K : Hp) (t i : Int) : Prop := F (v + 1) i = nmW i ∧ F (v + 2) i = K (t + 1) i ∧ F (v + 3) i = stF (K (t + 1)) 13 i 0 ∧ F (v + 5) i = K (t + 2) i ∧ F (v + 6) i = K (t + 3) i ∧ F (v + 7) i = K (t + 4) i ∧ F (v + 8) i = K (t + 5) i ∧ F (v + 9) i = K (t + 6) i ∧ F (v + 10) i = K (t + 7) i ∧ F (v + 11) i = K (t + 8) i
def SN (v : Int) (F K : Hp) (t n : Int) : Prop := F v 0 = n ∧ (∀ i : Int, 0 ≤ i → i < n → SNi v F K t i) ∧ ∀ i : Int, 0 ≤ i → i < n → 0 ≤ F (v + 4) i ∧ (F (v + 4) i = 0 ↔ ∀ j : Int, 0 ≤ j → j < n → K (t + 1) j ≠ i)
def KE (v : Int) (F H : Hp) : Prop := (∀ a : Int, v + 12 ≤ a → a ≤ v + 16 → H a = F a) ∧ (∀ i : Int, i ≠ 0 → H v i = F v i) ∧ H 3 2 = F 3 2 ∧ H 3 5 = F 3 5
theorem stF_fuel0 {N : Int} {par : Int → Int} (hT : ∀ m : Int, 1 ≤ m → m < N → 0 ≤ par m ∧ par m < m) : ∀ (k j : Nat) (m : Int), 0 ≤ m → m < N → m < k → m < j → stF par k m 0 = stF par j m 0
  | 0, j, m, h, _, h1, _ => by omega
  | k + 1, 0, m, h, _, _, h1 => by omega
  | k + 1, j + 1, m, h, h0, h1, h2 => by
    unfold stF
    by_cases c : m = 0
    · rw [if_pos c, if_pos c]
    · rw [if_neg c, if_neg c]
      have := hT m (by omega) h0
      rw [stF_fuel0 hT k j (par m) this.1 (by omega) (by omega) (by omega)]
/-- from a head's row to the whole row -/
theorem SN.next {v n t : Int} {F H K : Hp} (hv : isSu v) (hV : TrV K t) (hn : 0 ≤ n ∧ n < K t 0) (hS : SN v F K t n) {H0 : Hp} (hD : ND v F H0 n (K (t + 1) n) (nmW n)) (h0 : H v 0 = n + 1)
    (h6 : H (v + 5) n = K (t + 2) n ∧ H (v + 6) n = K (t + 3) n ∧ H (v + 7) n = K (t + 4) n ∧ H (v + 8) n = K (t + 5) n ∧ H (v + 9) n = K (t + 6) n ∧ H (v + 10) n = K (t + 7) n) (h11 : H (v + 11) n = K (t + 8) n)
    (hk : ∀ a i : Int, a ≠ 3 → a ≠ 21 → ¬ ((v + 5 ≤ a ∧ a ≤ v + 11) ∧ i = n) → H a i = H0 a i) (hj : H 3 2 = H0 3 2 ∧ H 3 5 = H0 3 5) : SN v H K t (n + 1) ∧ KE v F H := by
  have hv' : v = 4 ∨ v = 23 := hv
  obtain ⟨-, -, d0, d1, d2, d3, d4, d5, d6, d7, d8, d9, d10, d11⟩ := hD
  obtain ⟨s0, s1, s2⟩ := hS
  have hn6 := hV.n
  have hpar := hV.par n hn.1 hn.2
  refine ⟨⟨h0, fun i q0 q1 => ?_, fun i q0 q1 => ?_⟩, fun a q0 q1 => ?_, fun i hi => ?_, by rw [hj.1, d10], by rw [hj.2, d11]⟩
  · by_cases c : i = n
    · subst c
      refine ⟨?_, ?_, ?_, h6.1, h6.2.1, h6.2.2.1, h6.2.2.2.1, h6.2.2.2.2.1, h6.2.2.2.2.2, h11⟩
      · rw [hk _ _ (by omega) (by omega) (by omega)]; exact d1
      · rw [hk _ _ (by omega) (by omega) (by omega)]; exact d2
      · rw [hk _ _ (by omega) (by omega) (by omega), d3]
        by_cases z : i = 0
        · subst z
          rw [if_neg (by omega)]
          exact stF_e.symm
        · have hp := hpar.2 (by omega)
          rw [if_pos hp.1, (s1 (K (t + 1) i) hp.1 hp.2).2.2.1, stF_s (show i ≠ 0 from z), stF_fuel0 (N := K t 0) (fun m m1 m2 => (hV.par m (by omega) m2).2 m1) 12 13 (K (t + 1) i) hp.1 (by omega) (by omega) (by omega)]
          omega
    · have e : ∀ a : Int, v < a → a ≤ v + 11 → a ≠ v + 4 → H a i = F a i := fun a g1 g2 g3 => by rw [hk a i (by omega) (by omega) (by omega), d7 a i g1 g2 g3 c]
      have hs := s1 i q0 (by omega)
      unfold SNi at hs ⊢
      rw [e (v + 1) (by omega) (by omega) (by omega), e (v + 2) (by omega) (by omega) (by omega), e (v + 3) (by omega) (by omega) (by omega), e (v + 5) (by omega) (by omega) (by omega), e (v + 6) (by omega) (by omega) (by omega), e (v + 7) (by omega) (by omega) (by omega), e (v + 8) (by omega) (by omega) (by omega), e (v + 9) (by omega) (by omega) (by omega), e (v + 10) (by omega) (by omega) (by omega), e (v + 11) (by omega) (by omega) (by omega)]
      exact hs
  · rw [hk (v + 4) i (by omega) (by omega) (by omega)]
    by_cases c : i = n
    · subst c
      rw [d4]
      refine ⟨by omega, fun _ j g0 g1 e => ?_, fun _ => rfl⟩
      have := hV.par j g0 (by omega)
      omega
    · rw [d6 i c]
      obtain ⟨u1, u2⟩ := s2 i q0 (by omega)
      by_cases z : i = K (t + 1) n ∧ 0 ≤ K (t + 1) n
      · rw [if_pos z]
        refine ⟨by omega, fun g => by omega, fun g => ?_⟩
        exact absurd z.1.symm (g n hn.1 (by omega))
      · rw [if_neg z]
        refine ⟨by omega, fun g j g0 g1 => ?_, fun g => ?_⟩
        · by_cases y : j = n
          · subst y
            omega
          · exact u2.mp (by omega) j g0 (by omega)
        · have := u2.mpr (fun j g0 g1 => g j g0 (by omega))
          omega
  · funext i
    rw [hk a i (by omega) (by omega) (by omega), d8 a q0 q1]
  · rw [hk v i (by omega) (by omega) (by omega), d9 i hi]
theorem stl_l : stl 13 = [110, 111, 100, 101, 32] ∧ stl 14 = [32, 105, 110, 32] ∧ stl 21 = [32, 97, 108, 111, 110, 101, 59] ∧ stl 22 = [59] ∧ stl 23 = [108, 105, 109, 105, 116, 32] ∧ stl 24 = [97, 103, 101, 32] ∧ stl 25 = [97, 116, 32] ∧ stl 26 = [32] := by decide +kernel
theorem ndL_s {K : Hp} {t n : Int} {rest : List Int} : ndL K t n ++ rest = hdL K t n ++ setsL K t n ((if K (t + 8) n = 0 then stl 22 else stl 21) ++ rest) := by
  have h0 : stl 15 = [32] ++ (nmS 0 ++ [32]) := (nmS_ok 0 (by decide)).1
  have h1 : stl 16 = [32] ++ (nmS 1 ++ [32]) := (nmS_ok 1 (by decide)).1
  have h2 : stl 17 = [32] ++ (nmS 2 ++ [32]) := (nmS_ok 2 (by decide)).1
  have h3 : stl 18 = [32] ++ (nmS 3 ++ [32]) := (nmS_ok 3 (by decide)).1
  have h4 : stl 19 = [32] ++ (nmS 4 ++ [32]) := (nmS_ok 4 (by decide)).1
  have h5 : stl 20 = [32] ++ (nmS 5 ++ [32]) := (nmS_ok 5 (by decide)).1
  unfold ndL setsL setL
  rw [h0, h1, h2, h3, h4, h5]
  simp only [List.append_assoc, List.cons_append, List.nil_append]
theorem hd0_s {K : Hp} {t : Int} {X : List Int} : hdL K t 0 ++ X = [110, 111, 100, 101] ++ (32 :: ([112 + 0] ++ X)) := by
  unfold hdL
  rw [if_pos (Int.le_refl 0), stl_l.1]
  rfl
theorem hd1_s {K : Hp} {t n : Int} {X : List Int} (h : 1 ≤ n) : hdL K t n ++ X = [110, 111, 100, 101] ++ (32 :: ([112 + n] ++ ([32] ++ ([105, 110] ++ ([32] ++ ([112 + K (t + 1) n] ++ X)))))) := by
  unfold hdL
  rw [if_neg (by omega), stl_l.1, stl_l.2.1]
  rfl
/-- a node, read -/
theorem rd_node {v n t : Int} {k : Nat} {F K : Hp} {rest : List Int} (hv : isSu v) (hk : 20 < k) (hV : TrV K t) (hn : 0 ≤ n ∧ n < K t 0) (hS : SN v F K t n) (hm0 : F 3 4 = 0) (h : RT F (ndL K t n ++ rest)) :
    ∃ (H : Hp) (c : Nat), c ≤ 20 ∧ rdS v k F = rdS v (k - c) H ∧ RT H rest ∧ H 3 4 = 0 ∧ H 3 0 = 0 ∧ SN v H K t (n + 1) ∧ KE v F H := by
  have hv' : v = 4 ∨ v = 23 := hv
  have hn6 := hV.n
  have hst := hV.st n hn.1 hn.2
  have hpar := hV.par n hn.1 hn.2
  have h0 := hS.1
  rw [ndL_s] at h
  have head : ∃ (H : Hp) (c : Nat), c ≤ 4 ∧ rdS v k F = rdS v (k - c) H ∧ RT H (setsL K t n ((if K (t + 8) n = 0 then stl 22 else stl 21) ++ rest)) ∧ ND v F H n (K (t + 1) n) (nmW n) := by
    by_cases c : n = 0
    · subst c
      rw [hd0_s] at h
      obtain ⟨F1, a1, a2, a3, a4, a5, a6⟩ := rd_k7 (k := k) hv (by omega) h hm0 (by omega)
      obtain ⟨F2, b1, b2, b3⟩ := rd_nm0 (k := k - 1) hv (by omega) a2 nl32 a3 (by rw [a4 v (by omega) (by omega)]; exact h0)
      refine ⟨F2, 2, by omega, by rw [a1, b1]; congr 1, b2, ?_⟩
      rw [hpar.1 rfl]
      obtain ⟨x1, x2, x3, x4, x5, x6, x7, x8, x9, x10, x11, x12, x13, x14⟩ := b3
      refine ⟨x1, x2, x3, x4, x5, by rw [x6, if_neg (by omega), if_neg (by omega)], x7, x8, fun i hi => by rw [x9 i hi, a4 _ (by omega) (by omega)], fun a i g1 g2 g3 g4 => by rw [x10 a i g1 g2 g3 g4, a4 _ (by omega) (by omega)], fun a g1 g2 => by rw [x11 a g1 g2, a4 _ (by omega) (by omega)], fun i hi => by rw [x12 i hi, a4 _ (by omega) (by omega)], by rw [x13, a5], by rw [x14, a6]⟩
    · have hp := hpar.2 (by omega)
      rw [hd1_s (by omega)] at h
      obtain ⟨F1, a1, a2, a3, a4, a5, a6⟩ := rd_k7 (k := k) hv (by omega) h hm0 (by omega)
      obtain ⟨F2, b1, b2, b3⟩ := rd_nm1 (k := k - 1) hv (by omega) a2 nl32 a3 (by rw [a4 v (by omega) (by omega)]; exact h0) (by omega) hp (fun i q0 q1 => by rw [a4 _ (by omega) (by omega)]; exact (hS.2.1 i q0 q1).1)
      refine ⟨F2, 4, by omega, by rw [a1, b1]; congr 1, b2, ?_⟩
      obtain ⟨x1, x2, x3, x4, x5, x6, x7, x8, x9, x10, x11, x12, x13, x14⟩ := b3
      refine ⟨x1, x2, x3, x4, x5, by rw [x6, a4 _ (by omega) (by omega)], x7, x8, fun i hi => by rw [x9 i hi, a4 _ (by omega) (by omega)], fun a i g1 g2 g3 g4 => by rw [x10 a i g1 g2 g3 g4, a4 _ (by omega) (by omega)], fun a g1 g2 => by rw [x11 a g1 g2, a4 _ (by omega) (by omega)], fun i hi => by rw [x12 i hi, a4 _ (by omega) (by omega)], by rw [x13, a5], by rw [x14, a6]⟩
  obtain ⟨H0, c0, hc0, a1, a2, hD⟩ := head
  have hD' := hD
  obtain ⟨x1, x2, x3, x4, x5, x6, x7, x8, x9, x10, x11, x12, x13, x14⟩ := hD'
  have hb : (0 ≤ K (t + 2) n ∧ K (t + 2) n ≤ 11) ∧ (0 ≤ K (t + 3) n ∧ K (t + 3) n ≤ 11) ∧ (1 ≤ K (t + 4) n ∧ K (t + 4) n ≤ 20) ∧ (0 ≤ K (t + 5) n ∧ K (t + 5) n ≤ 8) ∧ (1 ≤ K (t + 6) n ∧ K (t + 6) n ≤ 3) ∧ (0 ≤ K (t + 7) n ∧ K (t + 7) n ≤ 1) := ⟨hst.1, hst.2.1, hst.2.2.1, hst.2.2.2.1, hst.2.2.2.2.1, hst.2.2.2.2.2.1⟩
  by_cases al : K (t + 8) n = 0
  · rw [if_pos al, stl_l.2.2.2.1] at a2
    obtain ⟨H1, b1, b2, b3, b4, b5, b6, b7, b8, b9⟩ := rd_six (k := k - c0) hv (by omega) a2 nd59 x1 x3 x2 hb
    obtain ⟨H2, e1, e2, e3, e4, e5, e6, e7⟩ := rd_end (k := k - c0 - 12) hv (by omega) b2 b3 b4 (by decide +kernel)
    have nx := SN.next (H := H2) hv hV hn hS hD (by rw [e5 v (by omega) (by omega)]; exact b5) (by rw [e5 _ (by omega) (by omega), e5 _ (by omega) (by omega), e5 _ (by omega) (by omega), e5 _ (by omega) (by omega), e5 _ (by omega) (by omega), e5 _ (by omega) (by omega)]; exact b6) (by rw [e5 _ (by omega) (by omega), b7 _ _ (by omega) (by omega) (by omega), x8, al]) (fun a i g1 g2 g3 => by rw [e5 a g1 g2, b7 a i g1 g2 (by omega)]) ⟨by rw [e6, b8], by rw [e7, b9]⟩
    exact ⟨H2, c0 + 13, by omega, by rw [a1, b1, e1]; congr 1, e2, e3, e4, nx.1, nx.2⟩
  · have al1 : K (t + 8) n = 1 := by omega
    rw [if_neg al, stl_l.2.2.1] at a2
    obtain ⟨H1, b1, b2, b3, b4, b5, b6, b7, b8, b9⟩ := rd_six (k := k - c0) hv (by omega) a2 nd32 x1 x3 x2 hb
    obtain ⟨H3, f1, f2, f3, f4, f5, f6, f7, f8⟩ := rd_aln (k := k - c0 - 12) hv (by omega) b2 b3 b4
    rw [b5, show n + 1 - 1 = n by omega] at f5 f6
    obtain ⟨H2, e1, e2, e3, e4, e5, e6, e7⟩ := rd_end (k := k - c0 - 12 - 1) hv (by omega) f2 f3 f4 (by decide +kernel)
    have g : ∀ a i : Int, a ≠ 3 → a ≠ 21 → ¬ (a = v + 11 ∧ i = n) → H2 a i = H1 a i := fun a i g1 g2 g3 => by rw [e5 a g1 g2, f6 a i g1 g2 g3]
    have nx := SN.next (H := H2) hv hV hn hS hD (by rw [g v 0 (by omega) (by omega) (by omega)]; exact b5) (by rw [g _ _ (by omega) (by omega) (by omega), g _ _ (by omega) (by omega) (by omega), g _ _ (by omega) (by omega) (by omega), g _ _ (by omega) (by omega) (by omega), g _ _ (by omega) (by omega) (by omega), g _ _ (by omega) (by omega) (by omega)]; exact b6) (by rw [e5 _ (by omega) (by omega), f5, al1]) (fun a i g1 g2 g3 => by rw [g a i g1 g2 (by omega), b7 a i g1 g2 (by omega)]) ⟨by rw [e6, f7, b8], by rw [e7, f8, b9]⟩
    exact ⟨H2, c0 + 14, by omega, by rw [a1, b1, f1, e1]; congr 1, e2, e3, e4, nx.1, nx.2⟩

