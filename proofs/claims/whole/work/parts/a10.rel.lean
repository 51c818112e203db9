/-! the relation that each pair of calls keeps -/
theorem StA.fr2 {b u K : Int} {F G : Hp} (h : StA b u K F) (hb : ∀ a : Int, b ≤ a → a < b + 24 → G a = F a) (hu : ∀ a : Int, u ≤ a → a < u + 17 → G a = F a) : StA b u K G := h.ag (AgU.rf.fr (fun _ _ _ => rfl) hu) (h.1.fr hu) (AgS.rf.frR hb)
theorem sv_eq {o a : Int} {F G : Hp} (h : 1100 ≤ a) (h6 : G 136 3 = F 136 3 ∧ G 136 4 = F 136 4 ∧ G 136 5 = F 136 5 ∧ G 136 38 = F 136 38) (hr : ∀ a : Int, a = 139 ∨ (141 ≤ a ∧ a ≤ 145) ∨ (150 ≤ a ∧ a ≤ 153) → G a = F a) : vw o G a = vw o F a := by
  funext i
  rw [vw_su h, vw_su h]
  unfold sv
  rw [h6.1, h6.2.1, h6.2.2.1, h6.2.2.2, hr 139 (by omega), hr 141 (by omega), hr 142 (by omega), hr 143 (by omega), hr 144 (by omega), hr 145 (by omega), hr 150 (by omega), hr 151 (by omega), hr 152 (by omega), hr 153 (by omega)]
theorem vw_lo {o : Int} {F G : Hp} (h : ∀ a : Int, 136 ≤ a → G a = F a) : vw o G = vw o F := vw_fr (fun j _ _ => by rw [h 137 (by decide)]) (by rw [h 136 (by decide)]; exact ⟨rfl, rfl, rfl, rfl⟩) (fun a z => h a (by omega))
def Nm (u : Int) (F : Hp) : Prop := ∀ n : Int, 0 ≤ n → n < F u 0 → (WdR (F 139 n) ∧ F 139 n < 1099511627776) ∧ F (u + 1) n = cvN (F 139 n)
def Sn (u : Int) (F : Hp) : Prop := F 138 0 = F 88 0 ∧ F 138 1 = F 112 0 ∧ (F 88 0 = 1 → AgS 88 u F 1000 (vw 819 F)) ∧ (F 112 0 = 1 → AgS 112 u F 1000 (vw 1638 F))
def Gl (u v K : Int) (F : Hp) : Prop := ((isSu u ∧ isSu v) ∧ u ≠ v) ∧ CI 40 u v K F ∧ AgU u F 1100 (vw 0 F) ∧ AgS 40 u F 1000 (vw 0 F) ∧ Nm u F ∧ Sn u F ∧ TxR F F ∧ (F 3 0 = F 136 19 ∧ F 3 1 = F 136 20) ∧ PZ F
theorem Gl.sta {u v K : Int} {F : Hp} (h : Gl u v K F) : StA 40 u K F := h.2.1.2.2.1
theorem Gl.ri {u v K : Int} {F : Hp} (h : Gl u v K F) : RI K F := h.sta.ag h.2.2.1 (h.sta.1.vw h.2.2.1) h.2.2.2.1
theorem RI.lo {K : Int} {F G : Hp} (h : RI K F) (hG : ∀ a : Int, 136 ≤ a → G a = F a) : RI K G := by
  unfold RI
  rw [vw_lo hG]
  exact h
theorem Gl.ci {u v K K' : Int} {F G : Hp} (hu : isSu u) (h : CI 40 u v K F) (hK : K ≤ K' ∧ K' ≤ 1000000) (hc : ∀ a : Int, a < 136 → ¬ (40 ≤ a ∧ a < 88) → a ≠ 22 → G a = F a) (hS : StA 40 u K' G) : CI 40 u v K' G := by
  have hu2 : u = 4 ∨ u = 23 := hu
  obtain ⟨c1, c2, c3, c4, c5, c6, c7, c8, c9, c10⟩ := h
  unfold CI
  rw [hc 0 (by omega) (by omega) (by omega), hc 3 (by omega) (by omega) (by omega), hc 1 (by omega) (by omega) (by omega), hc 2 (by omega) (by omega) (by omega), hc 88 (by omega) (by omega) (by omega), hc 112 (by omega) (by omega) (by omega)]
  refine ⟨c1, c2, hS, hK.2, c5, c6, c7, c8, fun z => ?_, fun z => ?_⟩
  · exact ((c9 z).mono hK.1).fr2 (fun a z1 z2 => hc a (by omega) (by omega) (by omega)) (fun a z1 z2 => hc a (by omega) (by omega) (by omega))
  · exact ((c10 z).mono hK.1).fr2 (fun a z1 z2 => hc a (by omega) (by omega) (by omega)) (fun a z1 z2 => hc a (by omega) (by omega) (by omega))
/-- a step that leaves setups, snapshots, texts as they were -/
theorem Gl.st {u v K K' : Int} {F G : Hp} (h : Gl u v K F) (hK : K ≤ K' ∧ K' ≤ 1000000) (hc : ∀ a : Int, a < 136 → ¬ (40 ≤ a ∧ a < 88) → a ≠ 22 → G a = F a) (h6 : ∀ i : Int, i ≠ 0 → i ≠ 41 → G 136 i = F 136 i) (h7 : ∀ i : Int, 819 ≤ i → i < 2457 → G 137 i = F 137 i) (hr : ∀ a : Int, 138 ≤ a → a < 158 → G a = F a) (hS : StA 40 u K' G) (hA : AgS 40 u G 1000 (vw 0 G)) : Gl u v K' G := by
  obtain ⟨⟨⟨g1, g2⟩, g3⟩, g4, g5, g6, g7, g8, g9, g10, g11⟩ := h
  have hu2 : u = 4 ∨ u = 23 := g1
  have e6 : G 136 3 = F 136 3 ∧ G 136 4 = F 136 4 ∧ G 136 5 = F 136 5 ∧ G 136 38 = F 136 38 := ⟨h6 3 (by decide) (by decide), h6 4 (by decide) (by decide), h6 5 (by decide) (by decide), h6 38 (by decide) (by decide)⟩
  have er : ∀ a : Int, a = 139 ∨ (141 ≤ a ∧ a ≤ 145) ∨ (150 ≤ a ∧ a ≤ 153) → G a = F a := fun a z => hr a (by omega) (by omega)
  have eu : G u = F u := hc u (by omega) (by omega) (by omega)
  refine ⟨⟨⟨g1, g2⟩, g3⟩, Gl.ci g1 g4 hK hc hS, g5.fr (fun a z1 z2 => hc a (by omega) (by omega) (by omega)) (fun a z1 z2 => sv_eq z1 e6 er), hA, ?_, ?_, ?_, ?_, ?_⟩
  · unfold Nm at g7 ⊢
    rw [eu, hr 139 (by omega) (by omega), hc (u + 1) (by omega) (by omega) (by omega)]
    exact g7
  · have e1 : vw 819 G = vw 819 F := vw_fr (fun j z1 z2 => h7 j (by omega) (by omega)) e6 er
    have e2 : vw 1638 G = vw 1638 F := vw_fr (fun j z1 z2 => h7 j (by omega) (by omega)) e6 er
    unfold Sn at g8 ⊢
    rw [hr 138 (by omega) (by omega), hc 88 (by omega) (by omega) (by omega), hc 112 (by omega) (by omega) (by omega), e1, e2]
    refine ⟨g8.1, g8.2.1, fun z => ?_, fun z => ?_⟩
    · exact (g8.2.2.1 z).frL eu (fun a z1 z2 => hc a (by omega) (by omega) (by omega))
    · exact (g8.2.2.2 z).frL eu (fun a z1 z2 => hc a (by omega) (by omega) (by omega))
  · unfold TxR at g9 ⊢
    rw [hc 1 (by omega) (by omega) (by omega), hc 2 (by omega) (by omega) (by omega), h6 14 (by decide) (by decide), hr 146 (by omega) (by omega)]
    exact g9
  · rw [hc 3 (by omega) (by omega) (by omega), h6 19 (by decide) (by decide), h6 20 (by decide) (by decide)]
    exact g10
  · unfold PZ at g11 ⊢
    rw [h6 14 (by decide) (by decide), h6 17 (by decide) (by decide), h6 18 (by decide) (by decide), h6 21 (by decide) (by decide), hr 146 (by omega) (by omega), hr 140 (by omega) (by omega), hr 149 (by omega) (by omega)]
    exact g11
theorem Gl.mono {u v K K' : Int} {F : Hp} (h : Gl u v K F) (hK : K ≤ K' ∧ K' ≤ 1000000) : Gl u v K' F := h.st hK (fun _ _ _ _ => rfl) (fun _ _ _ => rfl) (fun _ _ _ => rfl) (fun _ _ _ => rfl) (h.sta.mono hK.1) h.2.2.2.1
theorem Gl.z {u v K : Int} {F : Hp} (h : Gl u v K F) {x : Int} : Gl u v K (up F 136 0 x) := by
  have hu2 : u = 4 ∨ u = 23 := h.1.1.1
  have hK := h.2.1.2.2.2.1
  refine h.st ⟨Int.le_refl _, hK⟩ (fun a z _ _ => up_r (by omega)) (fun i z _ => up_i z) (fun i _ _ => up_k (by decide)) (fun a z _ => up_r (by omega)) (h.sta.fr2 (fun a z1 z2 => up_r (by omega)) (fun a z1 z2 => up_r (by omega))) ?_
  rw [vw_z]
  exact h.2.2.2.1.frL (up_r (by omega)) (fun a z1 z2 => up_r (by omega))

