theorem R.genT {X : KX} {T : Shp} {cs ss pc : Nat} {L : List (Option Value)} {st : List Value} {F : Hp} {Z : State → Prop} (k : ∀ G : Shp, G = T → R X (SH G) cs ss pc L st F Z) : R X (SH T) cs ss pc L st F Z := k T rfl
/-- the tree while it's being made: its first k nodes stand -/
def IT (F0 G : Hp) (t d k : Int) : Prop := (∀ q : Int, q < t → q ≠ d → G q = F0 q) ∧ (∀ j : Int, 3 ≤ j → j ≤ 19 → G t j = t + (j - 2)) ∧
  ((1 ≤ G t 0 ∧ G t 0 ≤ 6) ∧ (0 ≤ G t 1 ∧ G t 1 ≤ 5) ∧ (G t 2 = -1 ∨ (2 ≤ G t 2 ∧ G t 2 ≤ 7)) ∧ G t 20 = 0 ∧ (0 ≤ G t 22 ∧ G t 22 ≤ 9) ∧ (0 ≤ G t 23 ∧ G t 23 < G t 0) ∧ (0 ≤ G t 24 ∧ G t 24 ≤ 11)) ∧
  (∀ i : Int, 0 ≤ i → i < k → (i = 0 → G (t + 1) i = -2) ∧ (1 ≤ i → 0 ≤ G (t + 1) i ∧ G (t + 1) i < i)) ∧
  (∀ i : Int, 0 ≤ i → i < k → (0 ≤ G (t + 2) i ∧ G (t + 2) i ≤ 6) ∧ (0 ≤ G (t + 3) i ∧ G (t + 3) i ≤ 11) ∧ (1 ≤ G (t + 4) i ∧ G (t + 4) i ≤ 20) ∧ (0 ≤ G (t + 5) i ∧ G (t + 5) i ≤ 8) ∧ (1 ≤ G (t + 6) i ∧ G (t + 6) i ≤ 3) ∧ (0 ≤ G (t + 7) i ∧ G (t + 7) i ≤ 1) ∧ (0 ≤ G (t + 8) i ∧ G (t + 8) i ≤ 1)) ∧
  (∀ i : Int, 0 ≤ i → i < k → G (t + 9) i = G (t + 4) i ∧ G (t + 11) i = G (t + 4) i) ∧
  (∀ i : Int, G (t + 10) i = 0 ∧ G (t + 12) i = 0 ∧ G (t + 13) i = 0 ∧ G (t + 14) i = 0 ∧ G (t + 15) i = 0 ∧ G (t + 16) i = 0)
theorem IT.fr {F0 G H : Hp} {t d k : Int} (h : IT F0 G t d k) (hdt : d < t) (hq : ∀ q : Int, q < t + 17 → H q = G q) : IT F0 H t d k := by
  unfold IT at h ⊢
  rw [hq t (by omega), hq (t + 1) (by omega), hq (t + 2) (by omega), hq (t + 3) (by omega), hq (t + 4) (by omega), hq (t + 5) (by omega), hq (t + 6) (by omega), hq (t + 7) (by omega), hq (t + 8) (by omega), hq (t + 9) (by omega), hq (t + 10) (by omega), hq (t + 11) (by omega), hq (t + 12) (by omega), hq (t + 13) (by omega), hq (t + 14) (by omega), hq (t + 15) (by omega), hq (t + 16) (by omega)]
  exact ⟨fun q h1 h2 => by rw [hq q (by omega)]; exact h.1 q h1 h2, h.2⟩
theorem IT.drw {F0 G : Hp} {t d k v : Int} (hdt : d < t) (h : IT F0 G t d k) : IT F0 (up G d 0 v) t d k := by
  unfold IT at h ⊢
  have e : ∀ a : Int, t ≤ a → up G d 0 v a = G a := fun a ha => up_r (by omega)
  rw [e t (by omega), e (t + 1) (by omega), e (t + 2) (by omega), e (t + 3) (by omega), e (t + 4) (by omega), e (t + 5) (by omega), e (t + 6) (by omega), e (t + 7) (by omega), e (t + 8) (by omega), e (t + 9) (by omega), e (t + 10) (by omega), e (t + 11) (by omega), e (t + 12) (by omega), e (t + 13) (by omega), e (t + 14) (by omega), e (t + 15) (by omega), e (t + 16) (by omega)]
  exact ⟨fun q h1 h2 => by rw [up_r h2]; exact h.1 q h1 h2, h.2⟩
theorem IT.put {F0 G : Hp} {t d k j v : Int} (hj : (1 ≤ j ∧ j ≤ 9) ∨ j = 11) (h : IT F0 G t d k) : IT F0 (up G (t + j) k v) t d k := by
  unfold IT at h ⊢
  obtain ⟨i1, i2, i3, i4, i5, i6, i7⟩ := h
  have e0 : up G (t + j) k v t = G t := up_r (by omega)
  have e : ∀ a i : Int, i < k → up G (t + j) k v a i = G a i := fun a i hi => up_i (by omega)
  rw [e0]
  refine ⟨fun q h1 h2 => by rw [up_r (by omega)]; exact i1 q h1 h2, i2, i3, fun i h0 h1 => ?_, fun i h0 h1 => ?_, fun i h0 h1 => ?_, fun i => ?_⟩
  · rw [e _ _ h1]; exact i4 i h0 h1
  · rw [e _ _ h1, e _ _ h1, e _ _ h1, e _ _ h1, e _ _ h1, e _ _ h1, e _ _ h1]; exact i5 i h0 h1
  · rw [e _ _ h1, e _ _ h1, e _ _ h1]; exact i6 i h0 h1
  · rw [up_k (by omega), up_k (by omega), up_k (by omega), up_k (by omega), up_k (by omega), up_k (by omega)]; exact i7 i
/-- the node being made -/
def NB (G : Hp) (t k : Int) : Prop := ((k = 0 → G (t + 1) k = -2) ∧ (1 ≤ k → 0 ≤ G (t + 1) k ∧ G (t + 1) k < k)) ∧ (0 ≤ G (t + 2) k ∧ G (t + 2) k ≤ 6) ∧ (0 ≤ G (t + 3) k ∧ G (t + 3) k ≤ 11) ∧ (1 ≤ G (t + 4) k ∧ G (t + 4) k ≤ 20) ∧ (0 ≤ G (t + 5) k ∧ G (t + 5) k ≤ 8) ∧ (1 ≤ G (t + 6) k ∧ G (t + 6) k ≤ 3) ∧ (0 ≤ G (t + 7) k ∧ G (t + 7) k ≤ 1)
theorem NB.of {G : Hp} {t d k p r1 r2 r3 r4 r5 r6 v1 v2 v3 v4 v5 v6 v7 : Int} (hdt : d < t) (hp : (k = 0 → p = -2) ∧ (1 ≤ k → 0 ≤ p ∧ p < k)) (h1 : 0 ≤ r1 ∧ r1 < 7) (h2 : 0 ≤ r2 ∧ r2 < 12) (h3 : 0 ≤ r3 ∧ r3 < 20) (h4 : 0 ≤ r4 ∧ r4 < 9) (h5 : 0 ≤ r5 ∧ r5 < 3) (h6 : 0 ≤ r6 ∧ r6 < 2) :
    NB (up (up (up (up (up (up (up (up (up (up (up (up (up (up G (t + 1) k p) d 0 v1) (t + 2) k r1) d 0 v2) (t + 3) k r2) d 0 v3) (t + 4) k (1 + r3)) d 0 v4) (t + 5) k r4) d 0 v5) (t + 6) k (1 + r5)) d 0 v6) (t + 7) k r6) d 0 v7) t k := by
  unfold NB
  simp (disch := omega) only [up_k, up_s]
  omega
theorem IT.next {F0 G : Hp} {t d k a : Int} (h : IT F0 G t d k) (nb : NB G t k) (ha : a = 0 ∨ a = 1) (hdt : d < t) : IT F0 (up (up (up G (t + 8) k a) (t + 9) k (G (t + 4) k)) (t + 11) k (G (t + 4) k)) t d (k + 1) := by
  have hh : IT F0 (up (up (up G (t + 8) k a) (t + 9) k (G (t + 4) k)) (t + 11) k (G (t + 4) k)) t d k := IT.put (Or.inr rfl) (IT.put (Or.inl (by omega)) (IT.put (Or.inl (by omega)) h))
  have e : ∀ j : Int, 1 ≤ j → j ≤ 7 → (up (up (up G (t + 8) k a) (t + 9) k (G (t + 4) k)) (t + 11) k (G (t + 4) k)) (t + j) k = G (t + j) k := fun j h1 h2 => by rw [up_k (by omega), up_k (by omega), up_k (by omega)]
  have e8 : (up (up (up G (t + 8) k a) (t + 9) k (G (t + 4) k)) (t + 11) k (G (t + 4) k)) (t + 8) k = a := by rw [up_k (by omega), up_k (by omega), up_s]
  have e9 : (up (up (up G (t + 8) k a) (t + 9) k (G (t + 4) k)) (t + 11) k (G (t + 4) k)) (t + 9) k = G (t + 4) k := by rw [up_k (by omega), up_s]
  have e11 : (up (up (up G (t + 8) k a) (t + 9) k (G (t + 4) k)) (t + 11) k (G (t + 4) k)) (t + 11) k = G (t + 4) k := by rw [up_s]
  revert hh e e8 e9 e11
  generalize up (up (up G (t + 8) k a) (t + 9) k (G (t + 4) k)) (t + 11) k (G (t + 4) k) = H
  intro hh e e8 e9 e11
  unfold IT at hh ⊢
  unfold NB at nb
  obtain ⟨i1, i2, i3, i4, i5, i6, i7⟩ := hh
  have q1 := e 1 (by omega) (by omega)
  have q2 := e 2 (by omega) (by omega)
  have q3 := e 3 (by omega) (by omega)
  have q4 := e 4 (by omega) (by omega)
  have q5 := e 5 (by omega) (by omega)
  have q6 := e 6 (by omega) (by omega)
  have q7 := e 7 (by omega) (by omega)
  clear e
  refine ⟨i1, i2, i3, fun i h0 h1 => ?_, fun i h0 h1 => ?_, fun i h0 h1 => ?_, i7⟩
  · by_cases c : i = k
    · subst c
      rw [q1]; exact nb.1
    · exact i4 i h0 (by omega)
  · by_cases c : i = k
    · subst c
      rw [q2, q3, q4, q5, q6, q7, e8]; exact ⟨nb.2.1, nb.2.2.1, nb.2.2.2.1, nb.2.2.2.2.1, nb.2.2.2.2.2.1, nb.2.2.2.2.2.2, by omega⟩
    · exact i5 i h0 (by omega)
  · by_cases c : i = k
    · subst c
      rw [e9, e11, q4]; exact ⟨rfl, rfl⟩
    · exact i6 i h0 (by omega)
/-- its lists -/
def IL (T : Shp) (G : Hp) (t k : Int) : Prop := (k = 0 → G (t + 17) 1 = -2 ∧ G (t + 17) 2 = 0) ∧ (1 ≤ k → G (t + 17) 1 = t + 19 ∧ G (t + 17) 2 = k ∧ isA (SH T) (t + 19) (.object "java/lang/Object") 10) ∧ ∀ i : Int, 0 ≤ i → i < k → G (t + 19) i = qc t i ∧ isO (SH T) (qc t i) 15 [] ∧ G (qc t i) 2 = 0
theorem qc_b {t i : Int} (h : 0 ≤ i) : t + 18 ≤ qc t i ∧ qc t i ≠ t + 19 := by
  unfold qc
  by_cases c : i = 0
  · rw [if_pos c]; omega
  · rw [if_neg c]; omega
theorem qc_n {t i k : Int} (h : 0 ≤ i) (hik : i < k) : qc t i < qc t k := by
  unfold qc
  rw [if_neg (show ¬ k = 0 by omega)]
  by_cases c : i = 0
  · rw [if_pos c]; omega
  · rw [if_neg c]; omega
theorem IL.put {T : Shp} {G : Hp} {t k a i v : Int} (ha : a < t + 17) (h : IL T G t k) : IL T (up G a i v) t k := by
  unfold IL at h ⊢
  rw [up_r (show t + 17 ≠ a by omega), up_r (show t + 19 ≠ a by omega)]
  refine ⟨h.1, h.2.1, fun j h0 h1 => ?_⟩
  have := qc_b (t := t) h0
  rw [up_r (show qc t j ≠ a by omega)]
  exact h.2.2 j h0 h1
theorem IL.F {T g : Shp} {F' : Hp} {t : Int} (hs : isA (SH (T ++ g)) (t + 19) (.object "java/lang/Object") 10) (ho : isO (SH T) (t + 18) 15 []) (r1 : F' (t + 17) 1 = t + 19) (r2 : F' (t + 17) 2 = 1) (r3 : F' (t + 19) 0 = t + 18) (r4 : F' (t + 18) 2 = 0) : IL (T ++ g) F' t 1 := by
  refine ⟨fun z => by omega, fun _ => ⟨r1, r2, hs⟩, fun i h0 h1 => ?_⟩
  obtain rfl : i = 0 := by omega
  have e : qc t 0 = t + 18 := if_pos rfl
  rw [e]
  exact ⟨r3, ho.up, r4⟩
theorem IL.N {T g : Shp} {G F' : Hp} {t k : Int} (hk : 1 ≤ k) (hL : IL T G t k) (ho : isO (SH (T ++ g)) (qc t k) 15 []) (r1 : F' (t + 17) 1 = t + 19) (r2 : F' (t + 17) 2 = k + 1) (r3 : F' (t + 19) k = qc t k) (r4 : ∀ i : Int, i ≠ k → F' (t + 19) i = G (t + 19) i) (r5 : ∀ i : Int, 0 ≤ i → i < k → F' (qc t i) 2 = G (qc t i) 2) (r6 : F' (qc t k) 2 = 0) : IL (T ++ g) F' t (k + 1) := by
  refine ⟨fun z => by omega, fun _ => ⟨r1, r2, (hL.2.1 hk).2.2.up⟩, fun i h0 h1 => ?_⟩
  by_cases c : i = k
  · subst c
    exact ⟨r3, ho, r6⟩
  · obtain ⟨b1, b2, b3⟩ := hL.2.2 i h0 (by omega)
    exact ⟨by rw [r4 i c]; exact b1, b2.up, by rw [r5 i h0 (by omega)]; exact b3⟩
theorem nl_keep {G : Hp} {n : Int} {f : Int → Int} (hf : f 2 = 0) : (∀ q : Int, q ≠ n → up (up (row G n f) n 0 0) n 1 (-2) q = G q) ∧ up (up (row G n f) n 0 0) n 1 (-2) n 2 = 0 :=
  ⟨fun q hq => by rw [up_r hq, up_r hq, row_r hq], by rw [up_i (by omega), up_i (by omega), row_sb]; exact hf⟩
/-- its rows' shape, before the references are frozen -/
def TrA (T : Shp) (t : Int) : Prop := isO (SH T) t 12 [] ∧ isA (SH T) (t + 1) .int 6 ∧ isA (SH T) (t + 2) .int 6 ∧ isA (SH T) (t + 3) .int 6 ∧ isA (SH T) (t + 4) .int 6 ∧ isA (SH T) (t + 5) .int 6 ∧ isA (SH T) (t + 6) .int 6 ∧ isA (SH T) (t + 7) .int 6 ∧ isA (SH T) (t + 8) .boolean 6 ∧ isA (SH T) (t + 9) .int 6 ∧ isA (SH T) (t + 10) .int 6 ∧ isA (SH T) (t + 11) .int 6 ∧ isA (SH T) (t + 12) .int 6 ∧ isA (SH T) (t + 13) .int 6 ∧ isA (SH T) (t + 14) .int 6 ∧ isA (SH T) (t + 15) .int 6 ∧ isA (SH T) (t + 16) .int 6 ∧ isO (SH T) (t + 17) 15 []
/-- its first m rows are made -/
def P0 (F G : Hp) (t m : Int) : Prop := (∀ q : Int, q < t → G q = F q) ∧ (∀ j : Int, 3 ≤ j → j < 3 + m → G t j = t + (j - 2)) ∧ (∀ j : Int, (j < 3 ∨ 3 + m ≤ j) → G t j = F t j) ∧ (∀ a i : Int, t + 1 ≤ a → a ≤ t + m → G a i = 0)
theorem P0.z {F : Hp} {t : Int} : P0 F F t 0 := ⟨fun _ _ => rfl, fun j h1 h2 => by omega, fun _ _ => rfl, fun a i h1 h2 => by omega⟩
theorem P0.next {F G : Hp} {t m : Int} {f : Int → Int} (h : P0 F G t m) (hm : 0 ≤ m) (hf : ∀ i, f i = 0) {j n : Int} (hj : j = 3 + m) (hn : n = t + (m + 1)) : P0 F (up (row G n f) t j n) t (m + 1) := by
  subst hj hn
  obtain ⟨h1, h2, h3, h4⟩ := h
  refine ⟨fun q hq => ?_, fun j h5 h6 => ?_, fun j hj => ?_, fun a i h5 h6 => ?_⟩
  · rw [up_r (by omega), row_r (by omega)]; exact h1 q hq
  · by_cases c : j = 3 + m
    · subst c
      rw [up_s]; omega
    · rw [up_i c, row_rb (by omega)]; exact h2 j h5 (by omega)
  · rw [up_i (by omega), row_rb (by omega)]; exact h3 j (by omega)
  · rw [up_k (by omega)]
    by_cases c : a = t + (m + 1)
    · subst c
      rw [row_sb]; exact hf i
    · rw [row_rb c]; exact h4 a i h5 (by omega)
/-- the rows stand; the settings are drawn -/
def S0 (F G : Hp) (t d : Int) : Prop := (∀ q : Int, q < t → q ≠ d → G q = F q) ∧ (∀ j : Int, 3 ≤ j → j ≤ 19 → G t j = t + (j - 2)) ∧ G t 20 = 0 ∧ (∀ a i : Int, t + 1 ≤ a → a ≤ t + 16 → G a i = 0) ∧ G (t + 17) 1 = -2 ∧ G (t + 17) 2 = 0
theorem S0.of {F G : Hp} {t d : Int} {f : Int → Int} (hf : f 2 = 0) (h : P0 F G t 16) (hz : F t 20 = 0) {n : Int} (hn : n = t + 17) : S0 F (up (up (up (row G n f) n 0 0) n 1 (-2)) t 19 n) t d := by
  subst hn
  obtain ⟨h1, h2, h3, h4⟩ := h
  refine ⟨fun q hq hd => ?_, fun j h5 h6 => ?_, ?_, fun a i h5 h6 => ?_, ?_, ?_⟩
  · rw [up_r (by omega), up_r (by omega), up_r (by omega), row_r (by omega)]; exact h1 q hq
  · by_cases c : j = 19
    · subst c
      rw [up_s]; omega
    · rw [up_i c, up_k (by omega), up_k (by omega), row_rb (by omega)]; exact h2 j h5 (by omega)
  · rw [up_i (by omega), up_k (by omega), up_k (by omega), row_rb (by omega), h3 20 (by omega)]; exact hz
  · rw [up_k (by omega), up_k (by omega), up_k (by omega), row_rb (by omega)]; exact h4 a i h5 h6
  · rw [up_k (by omega), up_s]
  · rw [up_k (by omega), up_i (by omega), up_i (by omega), row_sb]; exact hf
theorem S0.drw {F G : Hp} {t d v : Int} (hdt : d < t) (h : S0 F G t d) : S0 F (up G d 0 v) t d := by
  unfold S0 at h ⊢
  rw [up_r (show t ≠ d by omega), up_r (show t + 17 ≠ d by omega)]
  exact ⟨fun q h1 h2 => by rw [up_r h2]; exact h.1 q h1 h2, h.2.1, h.2.2.1, fun a i h1 h2 => by rw [up_r (by omega)]; exact h.2.2.2.1 a i h1 h2, h.2.2.2.2⟩
theorem S0.put {F G : Hp} {t d j v : Int} (hj : j < 3 ∨ 20 < j) (h : S0 F G t d) : S0 F (up G t j v) t d := by
  unfold S0 at h ⊢
  rw [up_r (show t + 17 ≠ t by omega), up_i (show 20 ≠ j by omega)]
  exact ⟨fun q h1 h2 => by rw [up_r (by omega)]; exact h.1 q h1 h2, fun i h1 h2 => by rw [up_i (by omega)]; exact h.2.1 i h1 h2, h.2.2.1, fun a i h1 h2 => by rw [up_r (by omega)]; exact h.2.2.2.1 a i h1 h2, h.2.2.2.2⟩
theorem S0.it {F G : Hp} {t d : Int} (h : S0 F G t d) (hb : (1 ≤ G t 0 ∧ G t 0 ≤ 6) ∧ (0 ≤ G t 1 ∧ G t 1 ≤ 5) ∧ (G t 2 = -1 ∨ (2 ≤ G t 2 ∧ G t 2 ≤ 7)) ∧ (0 ≤ G t 22 ∧ G t 22 ≤ 9) ∧ (0 ≤ G t 23 ∧ G t 23 < G t 0) ∧ (0 ≤ G t 24 ∧ G t 24 ≤ 11)) : IT F G t d 0 :=
  ⟨h.1, h.2.1, ⟨hb.1, hb.2.1, hb.2.2.1, h.2.2.1, hb.2.2.2.1, hb.2.2.2.2.1, hb.2.2.2.2.2⟩, fun i h0 h1 => by omega, fun i h0 h1 => by omega, fun i h0 h1 => by omega, fun i => ⟨h.2.2.2.1 _ _ (by omega) (by omega), h.2.2.2.1 _ _ (by omega) (by omega), h.2.2.2.1 _ _ (by omega) (by omega), h.2.2.2.1 _ _ (by omega) (by omega), h.2.2.2.1 _ _ (by omega) (by omega), h.2.2.2.1 _ _ (by omega) (by omega)⟩⟩
theorem IL.z {T : Shp} {F G : Hp} {t d : Int} (h : S0 F G t d) : IL T G t 0 := ⟨fun _ => h.2.2.2.2, fun z => by omega, fun i h0 h1 => by omega⟩
theorem TrA.o {T : Shp} {t : Int} (h : TrA T t) : isO (SH T) t 12 [] := h.1
theorem TrA.a1 {T : Shp} {t : Int} (h : TrA T t) : isA (SH T) (t + 1) .int 6 := h.2.1
theorem TrA.a2 {T : Shp} {t : Int} (h : TrA T t) : isA (SH T) (t + 2) .int 6 := h.2.2.1
theorem TrA.a3 {T : Shp} {t : Int} (h : TrA T t) : isA (SH T) (t + 3) .int 6 := h.2.2.2.1
theorem TrA.a4 {T : Shp} {t : Int} (h : TrA T t) : isA (SH T) (t + 4) .int 6 := h.2.2.2.2.1
theorem TrA.a5 {T : Shp} {t : Int} (h : TrA T t) : isA (SH T) (t + 5) .int 6 := h.2.2.2.2.2.1
theorem TrA.a6 {T : Shp} {t : Int} (h : TrA T t) : isA (SH T) (t + 6) .int 6 := h.2.2.2.2.2.2.1
theorem TrA.a7 {T : Shp} {t : Int} (h : TrA T t) : isA (SH T) (t + 7) .int 6 := h.2.2.2.2.2.2.2.1
theorem TrA.a8 {T : Shp} {t : Int} (h : TrA T t) : isA (SH T) (t + 8) .boolean 6 := h.2.2.2.2.2.2.2.2.1
theorem TrA.a9 {T : Shp} {t : Int} (h : TrA T t) : isA (SH T) (t + 9) .int 6 := h.2.2.2.2.2.2.2.2.2.1
theorem TrA.a10 {T : Shp} {t : Int} (h : TrA T t) : isA (SH T) (t + 10) .int 6 := h.2.2.2.2.2.2.2.2.2.2.1
theorem TrA.a11 {T : Shp} {t : Int} (h : TrA T t) : isA (SH T) (t + 11) .int 6 := h.2.2.2.2.2.2.2.2.2.2.2.1
theorem TrA.a12 {T : Shp} {t : Int} (h : TrA T t) : isA (SH T) (t + 12) .int 6 := h.2.2.2.2.2.2.2.2.2.2.2.2.1
theorem TrA.a13 {T : Shp} {t : Int} (h : TrA T t) : isA (SH T) (t + 13) .int 6 := h.2.2.2.2.2.2.2.2.2.2.2.2.2.1
theorem TrA.a14 {T : Shp} {t : Int} (h : TrA T t) : isA (SH T) (t + 14) .int 6 := h.2.2.2.2.2.2.2.2.2.2.2.2.2.2.1
theorem TrA.a15 {T : Shp} {t : Int} (h : TrA T t) : isA (SH T) (t + 15) .int 6 := h.2.2.2.2.2.2.2.2.2.2.2.2.2.2.2.1
theorem TrA.a16 {T : Shp} {t : Int} (h : TrA T t) : isA (SH T) (t + 16) .int 6 := h.2.2.2.2.2.2.2.2.2.2.2.2.2.2.2.2.1
theorem TrA.q {T : Shp} {t : Int} (h : TrA T t) : isO (SH T) (t + 17) 15 [] := h.2.2.2.2.2.2.2.2.2.2.2.2.2.2.2.2.2
theorem TrA.up {T g : Shp} {t : Int} (h : TrA T t) : TrA (T ++ g) t := ⟨h.o.up, h.a1.up, h.a2.up, h.a3.up, h.a4.up, h.a5.up, h.a6.up, h.a7.up, h.a8.up, h.a9.up, h.a10.up, h.a11.up, h.a12.up, h.a13.up, h.a14.up, h.a15.up, h.a16.up, h.q.up⟩

