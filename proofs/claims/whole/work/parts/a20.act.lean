/-! snapshots -/
theorem vw_s19 {F : Hp} : vw 819 (cpR 0 1 819 F) = vw 0 F := vw_cp (f := 0) (t := 1) (F := F)
theorem vw_s16 {F : Hp} : vw 1638 (cpR 0 2 819 F) = vw 0 F := vw_cp (f := 0) (t := 2) (F := F)
theorem vw_s91 {F : Hp} : vw 0 (cpR 1 0 819 F) = vw 819 F := vw_cp (f := 1) (t := 0) (F := F)
theorem vw_s61 {F : Hp} : vw 0 (cpR 2 0 819 F) = vw 1638 F := vw_cp (f := 2) (t := 0) (F := F)
theorem vw_138 {o i x : Int} {F : Hp} : vw o (up F 138 i x) = vw o F := vw_fr (fun j _ _ => up_k (by decide)) ⟨up_k (by decide), up_k (by decide), up_k (by decide), up_k (by decide)⟩ (fun a z => up_r (by omega))
theorem gl_save0 {u v K : Int} {F F1 H F2 : Hp} (h : Gl u v K F) (a3 : F1 = up (cpT 40 88 F) 88 0 1) (hH : H = up F1 136 0 0) (b3 : F2 = up (cpR 0 1 819 H) 138 0 1) : Gl u v K F2 := by
  have hu2 : u = 4 ∨ u = 23 := h.1.1.1
  have hs := h.2.2.2.2.2.1
  obtain ⟨c1, c2, c3, c4, c5, c6, c7, c8, c9, c10⟩ := h.2.1
  have o1 : ∀ a : Int, ¬ (88 ≤ a ∧ a < 88 + 24) → F1 a = F a := fun a z => by rw [a3, up_r (by omega), cpT_r (by omega)]
  obtain ⟨z6, zr, zv, zl⟩ := hi_z hH (fun a z => o1 a (by omega))
  have lo : ∀ a : Int, a < 136 → F2 a = F1 a := fun a z => by rw [b3, up_r (by omega), cpR_r (by omega), zl a z]
  have lo2 : ∀ a : Int, a < 136 → ¬ (88 ≤ a ∧ a < 88 + 24) → F2 a = F a := fun a z1 z2 => by rw [lo a z1, o1 a z2]
  have v0 : vw 0 F2 = vw 0 F := by rw [b3, vw_138, vw_cpo (by decide), zv]
  have vo : vw 819 F2 = vw 0 F := by rw [b3, vw_138, vw_s19, zv]
  have vp : vw 1638 F2 = vw 1638 F := by rw [b3, vw_138, vw_cpo (by decide), zv]
  have ec : F2 88 0 = 1 := by rw [lo 88 (by decide), a3, up_s]
  have ed : F2 112 0 = F 112 0 := by rw [lo2 112 (by decide) (by decide)]
  have dd := h.dj
  have sc_ : StA 88 u K F2 := ((h.sta.cp (b := 88) (by omega) dd.2.2.1).u0 (x := 1) dd.2.2.1).fr2 (fun a z1 z2 => by rw [lo a (by omega), a3]) (fun a z1 z2 => by rw [lo a (by omega), a3])
  have ac_ : AgS 88 u F2 1000 (vw 0 F) := ((Ag.cp (b := 40) (e := 88) (by omega) dd.2.2.1 h.2.2.2.1 h.sta.1 h.sta.2.2.1 h.sta.2.2.2.1).u0 (x := 1) dd.2.2.1).frL (by rw [lo u (by omega), a3]) (fun a z1 z2 => by rw [lo a (by omega), a3])
  have sd_ : F2 112 0 = 1 → StA 112 u K F2 := fun z => StA.fr2 (c10 (by rw [← ed]; exact z)) (fun a z1 z2 => lo2 a (by omega) (by omega)) (fun a z1 z2 => lo2 a (by omega) (by omega))
  have ad_ : F2 112 0 = 1 → AgS 112 u F2 1000 (vw 1638 F2) := fun z => by
    rw [vp]
    exact (hs.2.2.2 (by rw [← ed]; exact z)).frL (lo2 u (by omega) (by omega)) (fun a z1 z2 => lo2 a (by omega) (by omega))
  have kc : F2 138 0 = F2 88 0 := by rw [ec, b3, up_s]
  have kd : F2 138 1 = F2 112 0 := by
    rw [ed, b3, up_i (by decide), cpR_r (by decide), zr 138 (by decide)]
    exact hs.2.1
  refine h.gen (fun a z1 z2 => lo2 a z1 (by omega)) (fun i z => by rw [b3, up_k (by decide), cpR_r (by decide), z6 i z]) (fun a z1 z2 => by rw [b3, up_r (by omega), cpR_r (by omega), zr a (by omega)]) ?_ ?_ (Or.inr ec) (by rw [ed]; exact c8) (fun _ => sc_) sd_ ⟨kc, kd, fun _ => by rw [vo]; exact ac_, ad_⟩
  · exact h.sta.fr2 (fun a z1 z2 => lo2 a (by omega) (by omega)) (fun a z1 z2 => lo2 a (by omega) (by omega))
  · rw [v0]
    exact h.2.2.2.1.frL (lo2 u (by omega) (by omega)) (fun a z1 z2 => lo2 a (by omega) (by omega))
theorem gl_save1 {u v K : Int} {F F1 H F2 : Hp} (h : Gl u v K F) (a3 : F1 = up (cpT 40 112 F) 112 0 1) (hH : H = up F1 136 0 0) (b3 : F2 = up (cpR 0 2 819 H) 138 1 1) : Gl u v K F2 := by
  have hu2 : u = 4 ∨ u = 23 := h.1.1.1
  have hs := h.2.2.2.2.2.1
  obtain ⟨c1, c2, c3, c4, c5, c6, c7, c8, c9, c10⟩ := h.2.1
  have o1 : ∀ a : Int, ¬ (112 ≤ a ∧ a < 112 + 24) → F1 a = F a := fun a z => by rw [a3, up_r (by omega), cpT_r (by omega)]
  obtain ⟨z6, zr, zv, zl⟩ := hi_z hH (fun a z => o1 a (by omega))
  have lo : ∀ a : Int, a < 136 → F2 a = F1 a := fun a z => by rw [b3, up_r (by omega), cpR_r (by omega), zl a z]
  have lo2 : ∀ a : Int, a < 136 → ¬ (112 ≤ a ∧ a < 112 + 24) → F2 a = F a := fun a z1 z2 => by rw [lo a z1, o1 a z2]
  have v0 : vw 0 F2 = vw 0 F := by rw [b3, vw_138, vw_cpo (by decide), zv]
  have vo : vw 1638 F2 = vw 0 F := by rw [b3, vw_138, vw_s16, zv]
  have vp : vw 819 F2 = vw 819 F := by rw [b3, vw_138, vw_cpo (by decide), zv]
  have ec : F2 112 0 = 1 := by rw [lo 112 (by decide), a3, up_s]
  have ed : F2 88 0 = F 88 0 := by rw [lo2 88 (by decide) (by decide)]
  have dd := h.dj
  have sc_ : StA 112 u K F2 := ((h.sta.cp (b := 112) (by omega) dd.2.2.2).u0 (x := 1) dd.2.2.2).fr2 (fun a z1 z2 => by rw [lo a (by omega), a3]) (fun a z1 z2 => by rw [lo a (by omega), a3])
  have ac_ : AgS 112 u F2 1000 (vw 0 F) := ((Ag.cp (b := 40) (e := 112) (by omega) dd.2.2.2 h.2.2.2.1 h.sta.1 h.sta.2.2.1 h.sta.2.2.2.1).u0 (x := 1) dd.2.2.2).frL (by rw [lo u (by omega), a3]) (fun a z1 z2 => by rw [lo a (by omega), a3])
  have sd_ : F2 88 0 = 1 → StA 88 u K F2 := fun z => StA.fr2 (c9 (by rw [← ed]; exact z)) (fun a z1 z2 => lo2 a (by omega) (by omega)) (fun a z1 z2 => lo2 a (by omega) (by omega))
  have ad_ : F2 88 0 = 1 → AgS 88 u F2 1000 (vw 819 F2) := fun z => by
    rw [vp]
    exact (hs.2.2.1 (by rw [← ed]; exact z)).frL (lo2 u (by omega) (by omega)) (fun a z1 z2 => lo2 a (by omega) (by omega))
  have kc : F2 138 1 = F2 112 0 := by rw [ec, b3, up_s]
  have kd : F2 138 0 = F2 88 0 := by
    rw [ed, b3, up_i (by decide), cpR_r (by decide), zr 138 (by decide)]
    exact hs.1
  refine h.gen (fun a z1 z2 => lo2 a z1 (by omega)) (fun i z => by rw [b3, up_k (by decide), cpR_r (by decide), z6 i z]) (fun a z1 z2 => by rw [b3, up_r (by omega), cpR_r (by omega), zr a (by omega)]) ?_ ?_ (by rw [ed]; exact c7) (Or.inr ec) sd_ (fun _ => sc_) ⟨kd, kc, ad_, fun _ => by rw [vo]; exact ac_⟩
  · exact h.sta.fr2 (fun a z1 z2 => lo2 a (by omega) (by omega)) (fun a z1 z2 => lo2 a (by omega) (by omega))
  · rw [v0]
    exact h.2.2.2.1.frL (lo2 u (by omega) (by omega)) (fun a z1 z2 => lo2 a (by omega) (by omega))
theorem gl_rest0 {u v K : Int} {F F1 H F2 : Hp} (h : Gl u v K F) (hc : F 88 0 = 1) (a3 : F1 = cpT 88 40 F) (hH : H = up F1 136 0 0) (b3 : F2 = cpR 1 0 819 H) : Gl u v K F2 := by
  have hu2 : u = 4 ∨ u = 23 := h.1.1.1
  have hs := h.2.2.2.2.2.1
  have hK := h.2.1.2.2.2.1
  obtain ⟨c1, c2, c3, c4, c5, c6, c7, c8, c9, c10⟩ := h.2.1
  have o1 : ∀ a : Int, ¬ (40 ≤ a ∧ a < 88) → a ≠ 22 → F1 a = F a := fun a z _ => by rw [a3, cpT_r (by omega)]
  obtain ⟨z6, zr, zv, zl⟩ := hi_z hH (fun a z => o1 a (by omega) (by omega))
  have sS := c9 hc
  have b4 : Fr (up F1 136 0 0) F2 := by
    rw [b3, hH]
    exact ⟨fun a z => cpR_r z, fun i z => cpR_o (by omega)⟩
  refine g_fr h ⟨Int.le_refl _, hK⟩ o1 b4 ?_ ?_
  · rw [a3]
    exact sS.cp (by omega) h.dj.1
  · rw [a3, b3, vw_s91, zv]
    exact Ag.cp (by omega) h.dj.1 (hs.2.2.1 hc) sS.1 sS.2.2.1 sS.2.2.2.1
theorem gl_rest1 {u v K : Int} {F F1 H F2 : Hp} (h : Gl u v K F) (hc : F 112 0 = 1) (a3 : F1 = cpT 112 40 F) (hH : H = up F1 136 0 0) (b3 : F2 = cpR 2 0 819 H) : Gl u v K F2 := by
  have hu2 : u = 4 ∨ u = 23 := h.1.1.1
  have hs := h.2.2.2.2.2.1
  have hK := h.2.1.2.2.2.1
  obtain ⟨c1, c2, c3, c4, c5, c6, c7, c8, c9, c10⟩ := h.2.1
  have o1 : ∀ a : Int, ¬ (40 ≤ a ∧ a < 88) → a ≠ 22 → F1 a = F a := fun a z _ => by rw [a3, cpT_r (by omega)]
  obtain ⟨z6, zr, zv, zl⟩ := hi_z hH (fun a z => o1 a (by omega) (by omega))
  have sS := c10 hc
  have b4 : Fr (up F1 136 0 0) F2 := by
    rw [b3, hH]
    exact ⟨fun a z => cpR_r z, fun i z => cpR_o (by omega)⟩
  refine g_fr h ⟨Int.le_refl _, hK⟩ o1 b4 ?_ ?_
  · rw [a3]
    exact sS.cp (by omega) h.dj.1
  · rw [a3, b3, vw_s61, zv]
    exact Ag.cp (by omega) h.dj.1 (hs.2.2.2 hc) sS.1 sS.2.2.1 sS.2.2.2.1
theorem g_save {u v K r r' k : Int} {F F1 F2 : Hp} (h : Gl u v K F) (h1 : ((¬ k = 0 ∧ ¬ k = 1) ∧ r = 0 ∧ F1 = F) ∨ (k = 0 ∧ r = 1 ∧ F1 = up (cpT 40 88 F) 88 0 1) ∨ (k = 1 ∧ r = 1 ∧ F1 = up (cpT 40 112 F) 112 0 1)) (h2 : ∃ H : Hp, H = up F1 136 0 0 ∧ ((¬ (0 ≤ k ∧ k ≤ 1) ∧ r' = 0 ∧ F2 = H) ∨ ((0 ≤ k ∧ k ≤ 1) ∧ r' = 1 ∧ F2 = up (cpR 0 (k + 1) 819 H) 138 k 1))) : r = r' ∧ Gl u v K F2 := by
  obtain ⟨H, hH, h2⟩ := h2
  have hu2 : u = 4 ∨ u = 23 := h.1.1.1
  have hN := h.N12
  have hK := h.2.1.2.2.2.1
  have hid : F1 = F → F2 = H → ∀ K' : Int, K ≤ K' ∧ K' ≤ 1000000 → Gl u v K' F2 := fun a b K' hk => by rw [b, hH, a]; exact (h.z (x := 0)).mono hk
  rcases h1 with ⟨n1, a2, a3⟩ | ⟨n1, a2, a3⟩ | ⟨n1, a2, a3⟩
  · rcases h2 with ⟨-, b2, b3⟩ | ⟨m1, -⟩
    · exact ⟨a2.trans b2.symm, hid a3 b3 _ (by omega)⟩
    · omega
  · rcases h2 with ⟨m1, -⟩ | ⟨m1, b2, b3⟩
    · omega
    · subst n1
      exact ⟨a2.trans b2.symm, gl_save0 h a3 hH b3⟩
  · rcases h2 with ⟨m1, -⟩ | ⟨m1, b2, b3⟩
    · omega
    · subst n1
      exact ⟨a2.trans b2.symm, gl_save1 h a3 hH b3⟩
theorem g_restore {u v K r r' k : Int} {F F1 F2 : Hp} (h : Gl u v K F) (h1 : (¬ ((k = 0 ∧ F 88 0 = 1) ∨ (k = 1 ∧ F 112 0 = 1)) ∧ r = 0 ∧ F1 = F) ∨ ((k = 0 ∧ F 88 0 = 1) ∧ r = 1 ∧ F1 = cpT 88 40 F) ∨ ((k = 1 ∧ F 112 0 = 1) ∧ r = 1 ∧ F1 = cpT 112 40 F)) (h2 : ∃ H : Hp, H = up F1 136 0 0 ∧ ((¬ ((0 ≤ k ∧ k ≤ 1) ∧ H 138 k = 1) ∧ r' = 0 ∧ F2 = H) ∨ (((0 ≤ k ∧ k ≤ 1) ∧ H 138 k = 1) ∧ r' = 1 ∧ F2 = cpR (k + 1) 0 819 H))) : r = r' ∧ Gl u v K F2 := by
  obtain ⟨H, hH, h2⟩ := h2
  have hu2 : u = 4 ∨ u = 23 := h.1.1.1
  have hN := h.N12
  have hK := h.2.1.2.2.2.1
  have hid : F1 = F → F2 = H → ∀ K' : Int, K ≤ K' ∧ K' ≤ 1000000 → Gl u v K' F2 := fun a b K' hk => by rw [b, hH, a]; exact (h.z (x := 0)).mono hk
  have hs := h.2.2.2.2.2.1
  have hF1 : ∀ a : Int, 136 ≤ a → F1 a = F a := fun a z => by
    rcases h1 with ⟨-, -, e⟩ | ⟨-, -, e⟩ | ⟨-, -, e⟩
    · rw [e]
    · rw [e, cpT_r (by omega)]
    · rw [e, cpT_r (by omega)]
  obtain ⟨z6, zr, zv, zl⟩ := hi_z hH hF1
  rw [zr 138 (by decide)] at h2
  have cond : ((k = 0 ∧ F 88 0 = 1) ∨ (k = 1 ∧ F 112 0 = 1)) ↔ ((0 ≤ k ∧ k ≤ 1) ∧ F 138 k = 1) := by
    constructor
    · rintro (⟨z, y⟩ | ⟨z, y⟩)
      · subst z
        exact ⟨by omega, by rw [hs.1]; exact y⟩
      · subst z
        exact ⟨by omega, by rw [hs.2.1]; exact y⟩
    · rintro ⟨z, y⟩
      have zz : k = 0 ∨ k = 1 := by omega
      rcases zz with z | z
      · subst z
        exact Or.inl ⟨rfl, by rw [← hs.1]; exact y⟩
      · subst z
        exact Or.inr ⟨rfl, by rw [← hs.2.1]; exact y⟩
  rcases h1 with ⟨n1, a2, a3⟩ | ⟨n1, a2, a3⟩ | ⟨n1, a2, a3⟩
  · rcases h2 with ⟨-, b2, b3⟩ | ⟨m1, -⟩
    · exact ⟨a2.trans b2.symm, hid a3 b3 _ (by omega)⟩
    · exact absurd (cond.mpr m1) n1
  · rcases h2 with ⟨m1, -⟩ | ⟨m1, b2, b3⟩
    · exact absurd (cond.mp (Or.inl n1)) m1
    · obtain ⟨rfl, n2⟩ := n1
      exact ⟨a2.trans b2.symm, gl_rest0 h n2 a3 hH b3⟩
  · rcases h2 with ⟨m1, -⟩ | ⟨m1, b2, b3⟩
    · exact absurd (cond.mp (Or.inr n1)) m1
    · obtain ⟨rfl, n2⟩ := n1
      exact ⟨a2.trans b2.symm, gl_rest1 h n2 a3 hH b3⟩

