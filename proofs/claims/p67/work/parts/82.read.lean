/-! the tree's text, read -/
theorem age_s {K : Hp} {t : Int} {Y : List Int} (h : ¬ K t 2 < 0) : ageL K t ++ Y = [] ++ ([97, 103, 101] ++ ([32] ++ (decS (K t 2) ++ (59 :: Y)))) := by
  unfold ageL
  rw [if_neg h, stl_l.2.2.2.2.2.1, stl_l.2.2.2.1]
  simp only [List.append_assoc, List.cons_append, List.nil_append]
theorem at_s {K : Hp} {t : Int} (h : ¬ K t 22 ≤ K t 20) : atL K t = [] ++ ([97, 116] ++ ([32] ++ (decS (K t 22) ++ ([32] ++ ([112 + K t 23] ++ ([32] ++ (nmS 0 ++ ([32] ++ (decS (K t 24) ++ (59 :: []))))))))) ) := by
  have h0 : stl 15 = [32] ++ (nmS 0 ++ [32]) := (nmS_ok 0 (by decide)).1
  unfold atL
  rw [if_neg h, stl_l.2.2.2.2.2.2.1, stl_l.2.2.2.2.2.2.2, h0, stl_l.2.2.2.1]
  simp only [List.append_assoc, List.cons_append, List.nil_append]
theorem tx_s {K : Hp} {t : Int} : txL K t = nodesL K t (K t 0).toNat ++ ([] ++ ([108, 105, 109, 105, 116] ++ ([32] ++ (decS (K t 1) ++ (59 :: (ageL K t ++ atL K t)))))) := by
  unfold txL
  rw [stl_l.2.2.2.2.1, stl_l.2.2.2.1]
  simp only [List.append_assoc, List.cons_append, List.nil_append]
theorem RT.of {v : Int} {F : Hp} {l : List Int} (hv : isSu v) (h1 : F 1 1 = l.length) (h9 : l.length ≤ 900) (h2 : ∀ i : Int, 0 ≤ i → i < l.length → F 2 i = tch l i) : RT (bgS v F) l := by
  have hv' : v = 4 ∨ v = 23 := hv
  have b1 : bgS v F 1 = F 1 := by unfold bgS; simp (disch := omega) only [up_r]
  have b2 : bgS v F 2 = F 2 := by unfold bgS; simp (disch := omega) only [up_r]
  have b3 : bgS v F 21 0 = 0 := by unfold bgS; simp (disch := omega) only [up_k, up_s]
  unfold RT
  rw [b1, b2, b3]
  refine ⟨by omega, by omega, by omega, fun i hi => ?_⟩
  rw [Int.zero_add, h2 i (by omega) (by omega)]
  unfold tch
  rw [if_pos (by omega), Int.toNat_natCast]
/-- what the reader leaves of the tree's text -/
def RS (v : Int) (H K : Hp) (t : Int) : Prop := SN v H K t (K t 0) ∧ H v 13 = K t 1 ∧ H v 14 = K t 2 ∧ (K t 22 ≤ K t 20 → H (v + 12) 0 = 0) ∧ (K t 20 < K t 22 → H (v + 12) 0 = 1 ∧ H (v + 13) 0 = K t 22 ∧ H (v + 14) 0 = K t 23 ∧ H (v + 15) 0 = 0 ∧ H (v + 16) 0 = K t 24)
theorem SN.fr {v n t : Int} {F H K : Hp} (h : SN v F K t n) (h0 : H v 0 = F v 0) (hk : ∀ a : Int, v < a → a ≤ v + 11 → H a = F a) : SN v H K t n := by
  unfold SN SNi at h ⊢
  rw [h0, hk (v + 1) (by omega) (by omega), hk (v + 2) (by omega) (by omega), hk (v + 3) (by omega) (by omega), hk (v + 4) (by omega) (by omega), hk (v + 5) (by omega) (by omega), hk (v + 6) (by omega) (by omega), hk (v + 7) (by omega) (by omega), hk (v + 8) (by omega) (by omega), hk (v + 9) (by omega) (by omega), hk (v + 10) (by omega) (by omega), hk (v + 11) (by omega) (by omega)]
  exact h
theorem rd_fin {v : Int} {k : Nat} {F : Hp} (hk : 0 < k) (h : RT F []) (hm : F 3 4 = 0) : rdS v k F = scnS F := rdS_end hk ⟨sc_E h, hm⟩
theorem rd_text {v t : Int} {F K : Hp} (hv : isSu v) (hV : TrV K t) (h20 : K t 20 = 0) (h1 : F 1 1 = (txL K t).length) (h9 : (txL K t).length ≤ 900) (h2 : ∀ i : Int, 0 ≤ i → i < (txL K t).length → F 2 i = tch (txL K t) i) : rdS v 901 (bgS v F) 3 0 = 0 ∧ RS v (rdS v 901 (bgS v F)) K t := by
  have hv' : v = 4 ∨ v = 23 := hv
  have hn := hV.n
  have htm := hV.tm
  have hlm := hV.2.1
  have hag := hV.2.2.1
  have r0 := RT.of hv h1 h9 h2
  rw [tx_s] at r0
  have b4 : bgS v F 3 4 = 0 := by unfold bgS; simp (disch := omega) only [up_k, up_i, up_s]
  have b5 : bgS v F 3 5 = 0 := by unfold bgS; simp (disch := omega) only [up_k, up_i, up_s]
  have b0 : bgS v F 3 0 = 0 := by unfold bgS; simp (disch := omega) only [up_k, up_i, up_s]
  have bv : bgS v F v 0 = 0 := by unfold bgS; simp (disch := omega) only [up_k, up_i, up_s]
  have ba : bgS v F v 14 = -1 := by unfold bgS; simp (disch := omega) only [up_k, up_i, up_s]
  have bc : bgS v F (v + 12) 0 = 0 := by unfold bgS; simp (disch := omega) only [up_k, up_i, up_s]
  obtain ⟨F1, c1, a1, a2, a3, a4, a5, a6, a7⟩ := rd_nodes (F := bgS v F) hv hV ⟨bv, fun i q0 q1 => by omega, fun i q0 q1 => by omega⟩ b4 b0 (K t 0).toNat 901 _ (by omega) (by omega) r0
  rw [show (((K t 0).toNat : Nat) : Int) = K t 0 by omega] at a6
  obtain ⟨F2, d1, d2, d3, d4, d5, d6⟩ := rd_lim (k := 901 - c1) hv (by omega) a3 a4 (by rw [a7.2.2.2]; exact b5) (by omega)
  have s2 : SN v F2 K t (K t 0) := a6.fr (d6 v 0 (by omega) (by omega) (by omega)) (fun a q0 q1 => by funext i; exact d6 a i (by omega) (by omega) (by omega))
  have age : ∃ (F3 : Hp) (c : Nat), c ≤ 3 ∧ rdS v (901 - c1 - 3) F2 = rdS v (901 - c1 - 3 - c) F3 ∧ RT F3 (atL K t) ∧ F3 3 4 = 0 ∧ F3 3 0 = 0 ∧ F3 v 14 = K t 2 ∧ (∀ a i : Int, a ≠ 3 → a ≠ 21 → ¬ (a = v ∧ i = 14) → F3 a i = F2 a i) := by
    by_cases c : K t 2 < 0
    · refine ⟨F2, 0, by omega, rfl, ?_, d3, d4, ?_, fun _ _ _ _ _ => rfl⟩
      · have e : ageL K t = [] := by unfold ageL; rw [if_pos c]
        rw [e] at d2
        exact d2
      · rw [d6 v 14 (by omega) (by omega) (by omega), a7.2.1 14 (by omega), ba]; omega
    · rw [age_s c] at d2
      obtain ⟨F3, e1, e2, e3, e4, e5, e6⟩ := rd_age (k := 901 - c1 - 3) hv (by omega) d2 d3 (by rw [d6 v 14 (by omega) (by omega) (by omega), a7.2.1 14 (by omega)]; exact ba) (by omega)
      exact ⟨F3, 3, by omega, e1, e2, e3, e4, e5, e6⟩
  obtain ⟨F3, c3, hc3, e1, e2, e3, e4, e5, e6⟩ := age
  have s3 : SN v F3 K t (K t 0) := s2.fr (e6 v 0 (by omega) (by omega) (by omega)) (fun a q0 q1 => by funext i; exact e6 a i (by omega) (by omega) (by omega))
  have l3 : F3 v 13 = K t 1 := by rw [e6 v 13 (by omega) (by omega) (by omega)]; exact d5
  have c30 : F3 (v + 12) 0 = 0 := by rw [e6 (v + 12) 0 (by omega) (by omega) (by omega), d6 (v + 12) 0 (by omega) (by omega) (by omega), a7.1 (v + 12) (by omega) (by omega)]; exact bc
  by_cases c : K t 22 ≤ K t 20
  · have e : atL K t = [] := by unfold atL; rw [if_pos c]
    rw [e] at e2
    have ef : rdS v 901 (bgS v F) = scnS F3 := by rw [a2, d1, e1, rd_fin (by omega) e2 e3]
    have ek : ∀ a : Int, a ≠ 21 → scnS F3 a = F3 a := fun a ha => scn_r ha
    rw [ef]
    refine ⟨by rw [ek 3 (by decide)]; exact e4, s3.fr (by rw [ek v (by omega)]) (fun a q0 q1 => ek a (by omega)), by rw [ek v (by omega)]; exact l3, by rw [ek v (by omega)]; exact e5, fun _ => by rw [ek (v + 12) (by omega)]; exact c30, fun z => by omega⟩
  · rw [at_s c] at e2
    obtain ⟨F4, f1, f2, f3, f4, f5, f6⟩ := rd_at (k := 901 - c1 - 3 - c3) (n := K t 0) hv (by omega) e2 e3 c30 (by omega) (by omega) (by omega) ⟨s3.1, by omega⟩ (fun i q0 q1 => (s3.2.1 i q0 q1).1)
    have ef : rdS v 901 (bgS v F) = scnS F4 := by rw [a2, d1, e1, f1, rd_fin (by omega) f2 f3]
    have ek : ∀ a : Int, a ≠ 21 → scnS F4 a = F4 a := fun a ha => scn_r ha
    rw [ef]
    refine ⟨by rw [ek 3 (by decide)]; exact f4, s3.fr (by rw [ek v (by omega), f6 v (by omega) (by omega) (by omega)]) (fun a q0 q1 => by rw [ek a (by omega), f6 a (by omega) (by omega) (by omega)]), by rw [ek v (by omega), f6 v (by omega) (by omega) (by omega)]; exact l3, by rw [ek v (by omega), f6 v (by omega) (by omega) (by omega)]; exact e5, fun z => absurd z c, fun _ => ?_⟩
    rw [ek _ (by omega), ek _ (by omega), ek _ (by omega), ek _ (by omega), ek _ (by omega)]
    exact f5

