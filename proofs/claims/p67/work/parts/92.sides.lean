/-- a lender lies on the path: the depths' difference is the steps -/
theorem stF_diff {N : Int} {par : Int → Int} (hTr : Tr N par) (hT : ∀ m : Int, 1 ≤ m → m < N → 0 ≤ par m ∧ par m < m) {l : Int} (hl : 0 ≤ l) : ∀ (k : Nat) (m : Int), 0 ≤ m → m < N → m < k → m < 13 → onP par k m l = true → stF par k m 0 = stF par k m l + stF par 13 l 0
  | 0, m, h, _, h1, _, _ => by omega
  | k + 1, m, h, h0, h1, h2, ho => by
    by_cases c : m = l
    · subst c
      rw [stF_e, stF_fuel0 hT (k + 1) 13 m h h0 h1 h2]
      omega
    · have hle := onP_le hTr (k + 1) m l h0 ho
      unfold onP at ho
      rw [if_neg (by omega), if_neg (fun z => c z.symm)] at ho
      have hm : m ≠ 0 := by omega
      have hp := hT m (by omega) h0
      rw [stF_s hm, stF_s c, stF_diff hTr hT hl k (par m) hp.1 (by omega) (by omega) (by omega) ho]
      omega
theorem snd_rows {b u leaf l c i : Int} {F : Hp} : sndS b u leaf l c F (b + 5) i = payS b u leaf l c F (b + 5) i ∧ sndS b u leaf l c F (b + 6) i = payS b u leaf l c F (b + 6) i ∧ sndS b u leaf l c F (b + 7) i = payS b u leaf l c F (b + 7) i ∧ sndS b u leaf l c F (b + 15) i = (if i = leaf then F (b + 15) i + 1 else F (b + 15) i) ∧ sndS b u leaf l c F (b + 16) i = (if ¬ l = leaf ∧ i = leaf then F (b + 16) i + c else F (b + 16) i) ∧ sndS b u leaf l c F (b + 17) i = (if ¬ l = leaf ∧ i = l then F (b + 17) i + c else F (b + 17) i) := by
  unfold sndS
  rw [lgS_r (by omega), lgS_r (by omega), lgS_r (by omega), lgS_r (by omega), lgS_r (by omega), lgS_r (by omega), cntS_r (by omega), cntS_r (by omega), cntS_r (by omega), cntS_15, cntS_16, cntS_17, payS_r (a := b + 15) (by omega), payS_r (a := b + 16) (by omega), payS_r (a := b + 17) (by omega)]
  exact ⟨rfl, rfl, rfl, rfl, rfl, rfl⟩
theorem snT_rows {t leaf l c i : Int} {F : Hp} : snT t leaf l c F (t + 12) i = (if i = leaf then F (t + 12) i + c else F (t + 12) i) ∧ snT t leaf l c F (t + 13) i = (if i = leaf then F (t + 13) i + 1 else F (t + 13) i) ∧ snT t leaf l c F (t + 14) i = (if ¬ l = leaf ∧ i = leaf then F (t + 14) i + c else F (t + 14) i) ∧ snT t leaf l c F (t + 15) i = (if ¬ l = leaf ∧ i = l then F (t + 15) i + c else F (t + 15) i) := by
  have e4 := cntS_14 (b := t - 2) (leaf := leaf) (l := l) (c := c) (n := i) (F := payS (t + 4) (t - 1) leaf l c F)
  have e5 := cntS_15 (b := t - 2) (leaf := leaf) (l := l) (c := c) (n := i) (F := payS (t + 4) (t - 1) leaf l c F)
  have e6 := cntS_16 (b := t - 2) (leaf := leaf) (l := l) (c := c) (n := i) (F := payS (t + 4) (t - 1) leaf l c F)
  have e7 := cntS_17 (b := t - 2) (leaf := leaf) (l := l) (c := c) (n := i) (F := payS (t + 4) (t - 1) leaf l c F)
  rw [show t - 2 + 14 = t + 12 by omega, payS_r (a := t + 12) (by omega)] at e4
  rw [show t - 2 + 15 = t + 13 by omega, payS_r (a := t + 13) (by omega)] at e5
  rw [show t - 2 + 16 = t + 14 by omega, payS_r (a := t + 14) (by omega)] at e6
  rw [show t - 2 + 17 = t + 15 by omega, payS_r (a := t + 15) (by omega)] at e7
  exact ⟨e4, e5, e6, e7⟩
/-- both sides send -/
theorem Rl.snd {u v K t leaf cost l : Int} {F : Hp} (hp : 136 ≤ t) (hR : Rl u v K F t) (hV : TrV F t) (hl : 0 ≤ leaf ∧ leaf < F t 0) (hc : 1 ≤ cost ∧ cost ≤ 99) (hK : K + 99 ≤ 1000000) (he : l = lnT t F leaf cost) (hne : l ≠ -2) : Rl u v (K + 99) (snT t leaf l cost (sndS 40 u leaf l cost F)) t := by
  have hs := hR.1
  have hs' := hs
  unfold SS at hs'
  have hu := hs.u
  have hCI := hR.2.1
  have hun := hR.2.2.2.1.1
  have elnd := hR.lnd (leaf := leaf) (c := cost) hl.2
  rw [← he] at elnd
  have hSt := hCI.2.2.1
  have hT : Tr (F u 0) (F (u + 2)) := hSt.1.2.1
  have hok : lOk 40 u F leaf l cost := by
    have := lndS_ok (b := 40) (u := u) (F := F) (c := cost) hT (by omega : leaf < F u 0) (by rw [elnd]; exact hne)
    rw [elnd] at this
    exact this
  have hsn := StA.snd (leaf := leaf) (l := l) (c := cost) hs.d40 (by decide) hSt hok ⟨hl.1, by omega⟩ hc
  have kr : ∀ a : Int, (a < 45 ∨ (47 < a ∧ a < 54) ∨ a = 58 ∨ 63 < a) → sndS 40 u leaf l cost F a = F a := fun a h => sndS_r (by omega)
  have gr : ∀ a : Int, a < t + 9 → snT t leaf l cost (sndS 40 u leaf l cost F) a = sndS 40 u leaf l cost F a := fun a h => snT_r (by omega)
  have g2 : ∀ a : Int, (a < 45 ∨ (47 < a ∧ a < 54) ∨ a = 58 ∨ 63 < a) → (a < t + 9 ∨ t + 15 < a) → snT t leaf l cost (sndS 40 u leaf l cost F) a = F a := fun a h h2 => by rw [snT_r h2, kr a h]
  obtain ⟨h1, h2, h3, h4, h5⟩ := hR
  obtain ⟨c1, c2, c3, c4, c5, c6, c7, c8, c9, c10⟩ := h2
  have sta : ∀ b : Int, (b = 88 ∨ b = 112) → StA b u K F → StA b u (K + 99) (snT t leaf l cost (sndS 40 u leaf l cost F)) := fun b hb z => by
    have e : ∀ a : Int, b ≤ a → a < b + 24 → snT t leaf l cost (sndS 40 u leaf l cost F) a = F a := fun a q1 q2 => g2 a (by omega) (by omega)
    have eu : ∀ a : Int, u ≤ a → a < u + 17 → snT t leaf l cost (sndS 40 u leaf l cost F) a = F a := fun a q1 q2 => g2 a (by omega) (by omega)
    exact StA.mono ⟨z.1.fr eu, z.2.1.fr eu (fun a h => e a (by omega)  (by omega)), z.2.2.1.fr eu (fun a h => e a (by omega) (by omega)), z.2.2.2.1.fr (fun a h => e a (by omega) (by omega)), z.2.2.2.2.fr eu (fun a h => e a (by omega) (by omega))⟩ (by omega)
  refine ⟨h1, ⟨?_, ?_, ?_, hK, ?_, ?_, ?_, ?_, ?_, ?_⟩, ?_, ?_, ?_, fun i q0 q1 => ?_⟩
  · rw [g2 0 (by omega) (by omega)]; exact c1
  · rw [g2 3 (by omega) (by omega)]; exact c2
  · obtain ⟨s1, s2, s3, s4, s5⟩ := hsn
    have eu : ∀ a : Int, u ≤ a → a < u + 17 → snT t leaf l cost (sndS 40 u leaf l cost F) a = sndS 40 u leaf l cost F a := fun a q1 q2 => gr a (by omega)
    exact ⟨s1.fr eu, s2.fr eu (fun a h => gr a (by omega)), s3.fr eu (fun a h => gr a (by omega)), s4.fr (fun a h => gr a (by omega)), s5.fr eu (fun a h => gr a (by omega))⟩
  · rw [g2 1 (by omega) (by omega)]; exact c5
  · rw [g2 1 (by omega) (by omega), g2 2 (by omega) (by omega)]; exact c6
  · rw [g2 88 (by omega) (by omega)]; exact c7
  · rw [g2 112 (by omega) (by omega)]; exact c8
  · rw [g2 88 (by omega) (by omega)]; exact fun z => sta 88 (by omega) (c9 z)
  · rw [g2 112 (by omega) (by omega)]; exact fun z => sta 112 (by omega) (c10 z)
  · rw [g2 1 (by omega) (by omega)]; exact h3
  · unfold RLs at h4 ⊢
    rw [g2 u (by omega) (by omega), g2 (u + 1) (by omega) (by omega), g2 (u + 2) (by omega) (by omega), g2 (u + 3) (by omega) (by omega), g2 (u + 7) (by omega) (by omega), g2 (u + 8) (by omega) (by omega), g2 (u + 10) (by omega) (by omega), g2 (u + 11) (by omega) (by omega), g2 (u + 12) (by omega) (by omega), g2 (u + 13) (by omega) (by omega), g2 (u + 14) (by omega) (by omega), g2 (u + 15) (by omega) (by omega), g2 (u + 16) (by omega) (by omega), g2 t (by omega) (by omega), g2 (t + 1) (by omega) (by omega), g2 (t + 4) (by omega) (by omega), g2 (t + 5) (by omega) (by omega), g2 (t + 7) (by omega) (by omega), g2 (t + 8) (by omega) (by omega)]
    exact h4
  · rw [g2 40 (by omega) (by omega), g2 t (by omega) (by omega)]; exact h5.1
  · rw [g2 t (by omega) (by omega)] at q1
    have a := h5.2 i q0 q1
    have al := h5.2 l hok.1.1 (by have := hok.1.2; omega)
    have eo : onP (F (u + 2)) 13 leaf i = onP (F (t + 1)) 13 leaf i := onP_cong (N := F t 0) (by rw [← hun]; exact hT) (fun m m0 m1 => (h4.2.1 m m0 m1).2.1) 13 leaf i hl.2
    obtain ⟨r5, r6, r7, r15, r16, r17⟩ := snd_rows (b := 40) (u := u) (leaf := leaf) (l := l) (c := cost) (i := i) (F := F)
    obtain ⟨e5, e6, e7⟩ := snT_5 (t := t) (leaf := leaf) (l := l) (c := cost) (i := i) (G := sndS 40 u leaf l cost F)
    obtain ⟨e12, e13, e14, e15⟩ := snT_rows (t := t) (leaf := leaf) (l := l) (c := cost) (i := i) (F := sndS 40 u leaf l cost F)
    have r14 := sndS_14 (b := 40) (u := u) (leaf := leaf) (l := l) (c := cost) (n := i) (F := F)
    rw [g2 (40 + 1) (by omega) (by omega), g2 (40 + 2) (by omega) (by omega), g2 (40 + 3) (by omega) (by omega), gr (40 + 5) (by omega), gr (40 + 6) (by omega), gr (40 + 7) (by omega), g2 (40 + 9) (by omega) (by omega), gr (40 + 14) (by omega), gr (40 + 15) (by omega), gr (40 + 16) (by omega), gr (40 + 17) (by omega), g2 (40 + 18) (by omega) (by omega), g2 (t + 2) (by omega) (by omega), g2 (t + 3) (by omega) (by omega), g2 (t + 6) (by omega) (by omega), g2 (t + 16) (by omega) (by omega), e5, e6, e7, e12, e13, e14, e15, r5, r6, r7, r14, r15, r16, r17, payS_5, payS_6, payS_7]
    rw [kr (t + 1) (by omega), kr (t + 9) (by omega), kr (t + 10) (by omega), kr (t + 11) (by omega), kr (t + 12) (by omega), kr (t + 13) (by omega), kr (t + 14) (by omega), kr (t + 15) (by omega), eo, a.2.2.2.1, a.2.2.2.2.1, a.2.2.2.2.2.1, al.2.2.2.1, a.2.2.2.2.2.2.2.1, a.2.2.2.2.2.2.2.2.1, a.2.2.2.2.2.2.2.2.2.1, a.2.2.2.2.2.2.2.2.2.2.1]
    exact ⟨a.1, a.2.1, a.2.2.1, rfl, rfl, rfl, a.2.2.2.2.2.2.1, rfl, rfl, rfl, rfl, a.2.2.2.2.2.2.2.2.2.2.2⟩

