theorem bg_r {v a i : Int} {F : Hp} (h : a ≠ 3 ∧ a ≠ 21 ∧ (a < v ∨ v + 16 < a)) : bgS v F a i = F a i := by
  unfold bgS
  simp (disch := omega) only [up_k]
/-- the class's load, outside of what the reader writes -/
theorem rd_o {v a i : Int} {F : Hp} (hv : isSu v) (h : a ≠ 3 ∧ a ≠ 21 ∧ (a < v ∨ v + 16 < a)) : rdS v 901 (bgS v F) a i = F a i := by rw [rdS_k hv (by omega), bg_r h]
theorem rd_32 {v : Int} {F : Hp} (hv : isSu v) : rdS v 901 (bgS v F) 3 2 = F 3 2 := by
  have hv2 : v = 4 ∨ v = 23 := hv
  rw [rdS_k hv (by omega)]
  unfold bgS
  simp (disch := omega) only [up_k, up_i]
/-- the class's load: what it leaves of the reference's cells, and the two outcomes -/
def LdC (u v : Int) (F F1 : Hp) (r : Int) : Prop := (rdS v 901 (bgS v F) 3 0 ≠ 0 ∧ r = -1 ∧ F1 = up (rdS v 901 (bgS v F)) 1 1 0) ∨ (rdS v 901 (bgS v F) 3 0 = 0 ∧ r = rdS v 901 (bgS v F) v 0 ∧ F1 = up (up (begS 40 v (up (up (up (rdS v 901 (bgS v F)) 1 1 0) 0 3 v) 3 2 u)) 88 0 0) 112 0 0)
theorem ldc_hi {u v r : Int} {F F1 : Hp} (hv : isSu v) (h : LdC u v F F1 r) : ∀ a : Int, 136 ≤ a → F1 a = F a := by
  have hv2 : v = 4 ∨ v = 23 := hv
  intro a ha
  funext i
  rcases h with ⟨-, -, h⟩ | ⟨-, -, h⟩
  · rw [h, up_k (by omega), rd_o hv (by omega)]
  · rw [h, up_k (by omega), up_k (by omega), begS_r (by omega) (by omega), up_k (by omega), up_k (by omega), up_k (by omega), rd_o hv (by omega)]
theorem pz_lo {F G : Hp} (h : PZ F) (hG : ∀ a : Int, 136 ≤ a → G a = F a) : PZ G := by
  unfold PZ at h ⊢
  rw [hG 136 (by decide), hG 146 (by decide), hG 140 (by decide), hG 149 (by decide)]
  exact h
theorem ldc_sim {u v K r : Int} {F F1 : Hp} (h : Gl u v K F) (h1 : LdC u v F F1 r) : Bd (rdS v 901 (bgS v F)) (ldS1 F1) ∨ ∃ M' : Hp, Ms v (rdS v 901 (bgS v F)) M' (ldS1 F1) ∧ rdS v 901 (bgS v F) = scnS M' ∧ Dr v M' (ldS1 F1) := by
  obtain ⟨⟨⟨g1, g2⟩, g3⟩, g4, g5, g6, g7, g8, g9, g10, g11⟩ := h
  have hi := ldc_hi g2 h1
  refine sim_ld g2 g4.2.1 ?_ (pz_lo g11 hi)
  unfold TxR at g9 ⊢
  rw [hi 136 (by decide), hi 146 (by decide)]
  exact g9
/-- the settings 'alone' that were read -/
theorem ldc_6 {u v K r : Int} {F F1 : Hp} (h : Gl u v K F) (h1 : LdC u v F F1 r) : ldS1 F1 136 19 = 0 → ∀ d : Int, 0 ≤ d → d < ldS1 F1 136 22 → ldS1 F1 148 (7 * d + 6) = 0 ∨ ldS1 F1 148 (7 * d + 6) = 1 := by
  intro hg d d0 d1
  rcases ldc_sim h h1 with z | ⟨M', m, e, dr⟩
  · exact absurd hg z.1
  · have r6 := dr.row d0 d1 (s := 6) (by decide) (by decide)
    have s := m.2.1.2.1.2.2.2.2.2.2.2.1 d d0 (by rw [dr.1]; exact d1)
    rw [show v + 5 + 6 = v + 11 by omega] at r6
    omega
/-- a text with a fault -/
theorem g_loadB {u v K r : Int} {F F1 : Hp} (h : Gl u v K F) (h1 : LdC u v F F1 r) (hb : Bd (rdS v 901 (bgS v F)) (ldS1 F1)) (e1 : F1 = up (rdS v 901 (bgS v F)) 1 1 0) : Gl u v K (up (ldS1 F1) 136 14 0) := by
  have hK := h.2.1.2.2.2.1
  have hsta := h.sta
  obtain ⟨⟨⟨g1, g2⟩, g3⟩, g4, g5, g6, g7, g8, g9, g10, g11⟩ := h
  have hu2 : u = 4 ∨ u = 23 := g1
  have hv2 : v = 4 ∨ v = 23 := g2
  have hi := ldc_hi g2 h1
  have kp := kp_ld (F := F1)
  have pq := pq_ld (pz_lo g11 hi)
  have lo : ∀ a i : Int, a < 136 → up (ldS1 F1) 136 14 0 a i = up (rdS v 901 (bgS v F)) 1 1 0 a i := fun a i z => by rw [up_k (by omega), kp.1 a i (by omega) (by omega), e1]
  have lo2 : ∀ a : Int, a < 136 → a ≠ 1 → a ≠ 3 → a ≠ 21 → (a < v ∨ v + 16 < a) → up (ldS1 F1) 136 14 0 a = F a := fun a z1 z2 z3 z4 z5 => by
    funext i
    rw [lo a i z1, up_k z2, rd_o g2 ⟨z3, z4, z5⟩]
  have up1 : ∀ a : Int, 136 < a → ¬ (a = 140 ∨ (147 ≤ a ∧ a ≤ 149) ∨ (154 ≤ a ∧ a ≤ 157)) → up (ldS1 F1) 136 14 0 a = F a := fun a z1 z2 => by
    funext i
    rw [up_k (by omega), kp.1 a i (by omega) z2, hi a (by omega)]
  have up6 : ∀ i : Int, ¬ (i = 0 ∨ (14 ≤ i ∧ i ≤ 26) ∨ i = 39) → up (ldS1 F1) 136 14 0 136 i = F 136 i := fun i z => by rw [up_i (by omega), kp.1 136 i (by omega) (by omega), hi 136 (by decide)]
  have e6 : up (ldS1 F1) 136 14 0 136 3 = F 136 3 ∧ up (ldS1 F1) 136 14 0 136 4 = F 136 4 ∧ up (ldS1 F1) 136 14 0 136 5 = F 136 5 ∧ up (ldS1 F1) 136 14 0 136 38 = F 136 38 := ⟨up6 3 (by decide), up6 4 (by decide), up6 5 (by decide), up6 38 (by decide)⟩
  have er : ∀ a : Int, a = 139 ∨ (141 ≤ a ∧ a ≤ 145) ∨ (150 ≤ a ∧ a ≤ 153) → up (ldS1 F1) 136 14 0 a = F a := fun a z => up1 a (by omega) (by omega)
  have ev : ∀ o : Int, vw o (up (ldS1 F1) 136 14 0) = vw o F := fun o => vw_fr (fun j _ _ => by rw [up1 137 (by decide) (by decide)]) e6 er
  have t1 : up (ldS1 F1) 136 14 0 1 1 = 0 := by rw [lo 1 1 (by decide), up_s]
  have t14 : up (ldS1 F1) 136 14 0 136 14 = 0 := up_s
  have f30 : up (ldS1 F1) 136 14 0 3 0 = rdS v 901 (bgS v F) 3 0 := by rw [lo 3 0 (by decide), up_k (by decide)]
  have f31 : up (ldS1 F1) 136 14 0 3 1 = rdS v 901 (bgS v F) 3 1 := by rw [lo 3 1 (by decide), up_k (by decide)]
  have f32 : up (ldS1 F1) 136 14 0 3 2 = F 3 2 := by rw [lo 3 2 (by decide), up_k (by decide), rd_32 g2]
  have r19 : up (ldS1 F1) 136 14 0 136 19 = ldS1 F1 136 19 := up_i (by decide)
  have r20 : up (ldS1 F1) 136 14 0 136 20 = ldS1 F1 136 20 := up_i (by decide)
  have r17 : up (ldS1 F1) 136 14 0 136 17 = ldS1 F1 136 17 := up_i (by decide)
  have r18 : up (ldS1 F1) 136 14 0 136 18 = ldS1 F1 136 18 := up_i (by decide)
  have r21 : up (ldS1 F1) 136 14 0 136 21 = ldS1 F1 136 21 := up_i (by decide)
  have r140 : up (ldS1 F1) 136 14 0 140 = ldS1 F1 140 := up_r (by decide)
  have r149 : up (ldS1 F1) 136 14 0 149 = ldS1 F1 149 := up_r (by decide)
  generalize hG : up (ldS1 F1) 136 14 0 = G at *
  have hSG : StA 40 u K G := hsta.fr2 (fun a z1 z2 => lo2 a (by omega) (by omega) (by omega) (by omega) (by omega)) (fun a z1 z2 => lo2 a (by omega) (by omega) (by omega) (by omega) (by omega))
  refine ⟨⟨⟨g1, g2⟩, g3⟩, ?_, g5.fr (fun a z1 z2 => lo2 a (by omega) (by omega) (by omega) (by omega) (by omega)) (fun a z1 z2 => by rw [ev]), ?_, ?_, ?_, ?_, ?_, ?_⟩
  · obtain ⟨c1, c2, c3, c4, c5, c6, c7, c8, c9, c10⟩ := g4
    unfold CI
    rw [lo2 0 (by omega) (by omega) (by omega) (by omega) (by omega), f32, t1, lo2 88 (by omega) (by omega) (by omega) (by omega) (by omega), lo2 112 (by omega) (by omega) (by omega) (by omega) (by omega)]
    refine ⟨c1, c2, hSG, c4, by omega, fun i z0 z1 => by omega, c7, c8, fun z => ?_, fun z => ?_⟩
    · exact (c9 z).fr2 (fun a z1 z2 => lo2 a (by omega) (by omega) (by omega) (by omega) (by omega)) (fun a z1 z2 => lo2 a (by omega) (by omega) (by omega) (by omega) (by omega))
    · exact (c10 z).fr2 (fun a z1 z2 => lo2 a (by omega) (by omega) (by omega) (by omega) (by omega)) (fun a z1 z2 => lo2 a (by omega) (by omega) (by omega) (by omega) (by omega))
  · rw [ev]
    exact g6.frL (lo2 u (by omega) (by omega) (by omega) (by omega) (by omega)) (fun a z1 z2 => lo2 a (by omega) (by omega) (by omega) (by omega) (by omega))
  · unfold Nm at g7 ⊢
    rw [lo2 u (by omega) (by omega) (by omega) (by omega) (by omega), up1 139 (by decide) (by decide), lo2 (u + 1) (by omega) (by omega) (by omega) (by omega) (by omega)]
    exact g7
  · unfold Sn at g8 ⊢
    rw [up1 138 (by decide) (by decide), lo2 88 (by omega) (by omega) (by omega) (by omega) (by omega), lo2 112 (by omega) (by omega) (by omega) (by omega) (by omega), ev, ev]
    refine ⟨g8.1, g8.2.1, fun z => ?_, fun z => ?_⟩
    · exact (g8.2.2.1 z).frL (lo2 u (by omega) (by omega) (by omega) (by omega) (by omega)) (fun a z1 z2 => lo2 a (by omega) (by omega) (by omega) (by omega) (by omega))
    · exact (g8.2.2.2 z).frL (lo2 u (by omega) (by omega) (by omega) (by omega) (by omega)) (fun a z1 z2 => lo2 a (by omega) (by omega) (by omega) (by omega) (by omega))
  · unfold TxR
    rw [t1, t14]
    exact ⟨rfl, by omega, fun i z0 z1 => by omega⟩
  · rw [f30, f31, r19, r20]
    exact ⟨hb.2.1, hb.2.2⟩
  · obtain ⟨q1, q2, q3, q4, q5, q6, q7, q8, q9, q10, q11⟩ := pq
    unfold PZ
    rw [t14, r17, r18, r21, r140, r149]
    exact ⟨by omega, fun i z0 z1 => by omega, q3, q4, q5, q8, q11⟩

