theorem rfT_k {t n a : Int} (h : a ≠ t + 9) (h2 : a ≠ t + 10) (h3 : a ≠ t + 11) : ∀ (w : Nat) (G : Hp), rfT t n w G a = G a
  | 0, G => rfl
  | w + 1, G => by
    show rfT t n w (rfP t G n) a = G a
    rw [rfT_k h h2 h3 w, rfP_kr h h2 h3]
theorem rfT_out {t n a i : Int} (h : i < 0 ∨ n ≤ i) : ∀ (w : Nat) (G : Hp), rfT t n w G a i = G a i
  | 0, G => rfl
  | w + 1, G => by
    show rfT t n w (rfP t G n) a i = G a i
    rw [rfT_out h w, rfP_out (by omega)]
theorem rfT_V {t n : Int} : ∀ (w : Nat) (G : Hp), G t 0 = n → TrV G t → TrV (rfT t n w G) t
  | 0, G, _, h => h
  | w + 1, G, hn, h => by
    have h2 := h.rf
    rw [hn] at h2
    exact rfT_V w _ (by rw [rfP_k (by omega) (by omega) (by omega)]; exact hn) h2
theorem wtS_row {u : Int} {F G : Hp} {c : Int} (hu : isSu u) (h : ∀ a : Int, a < 64 → G a = F a) : ∀ (k : Nat) (n may x y : Int), wtS 40 u G c k n may x y = wtS 40 u F c k n may x y
  | 0, _, _, _, _ => rfl
  | k + 1, n, may, x, y => by
    have hu' : u = 4 ∨ u = 23 := hu
    unfold wtS
    rw [h (40 + 7) (by omega), h (40 + 2) (by omega), h (u + 7) (by omega), h (40 + 5) (by omega), h (40 + 6) (by omega), h (40 + 1) (by omega), h (u + 8) (by omega), h (u + 11) (by omega), h (u + 2) (by omega)]
    split
    · rfl
    · exact wtS_row hu h k _ _ _ _
theorem wtA_row {u c l : Int} {F G : Hp} (hu : isSu u) (h : ∀ a : Int, a < 64 → G a = F a) : wtA 40 u G l c = if mW 40 u F c l ≤ 1000 then mW 40 u F c l else -2 := by
  unfold wtA mW
  rw [wtS_row hu h]
theorem lnT_rng {t leaf c : Int} {G : Hp} (hV : TrV G t) (hl : leaf < G t 0) : lnT t G leaf c = -2 ∨ (0 ≤ lnT t G leaf c ∧ lnT t G leaf c ≤ leaf) := lendS_rng hV.tr hl
theorem acT_r {a : Int} {F : Hp} (h : a < 69 ∨ 71 < a) : acT 40 64 F a = F a := by
  unfold acT
  rw [cpy_r (by omega), cpy_r (by omega), cpy_r (by omega)]
theorem acT_v {i : Int} {F : Hp} (h : 0 ≤ i ∧ i < 12) : acT 40 64 F (64 + 5) i = F (40 + 5) i ∧ acT 40 64 F (64 + 6) i = F (40 + 6) i ∧ acT 40 64 F (64 + 7) i = F (40 + 7) i := by
  unfold acT
  refine ⟨?_, ?_, ?_⟩
  · rw [cpy_k (by omega), cpy_k (by omega), cpy_in (by omega) (by omega), show (0 : Int) + (i - 0) = i by omega]
  · rw [cpy_k (by omega), cpy_in (by omega) (by omega), cpy_k (by omega), show (0 : Int) + (i - 0) = i by omega]
  · rw [cpy_in (by omega) (by omega), cpy_k (by omega), cpy_k (by omega), show (0 : Int) + (i - 0) = i by omega]
/-- repeats: the limiter's count is the tree's -/
theorem rep_eq {u v K t leaf c : Int} {H G : Hp} (hR : Rl u v K H t) (hV : TrV H t) (hl : 0 ≤ leaf ∧ leaf < H t 0) (hc : 1 ≤ c) (hq : ∀ a : Int, a < 136 → G a = H a) : (pofS 64 u leaf c 999 (acT 40 64 G)).1 = (snC t leaf c 999 H).1 := by
  have hn := hV.n
  have hs := hR.1
  unfold SS at hs
  refine pof_eq (n := H t 0) hR.1.d64 hl hc 999 _ _ ?_ (fun i h0 h1 => ?_) rfl hV
  · rw [acT_r (by omega), hq (u + 2) (by omega), ← hR.2.2.2.1.1]
    exact hR.2.1.2.2.1.1.2.1
  · have a := hR.ace.1 i h0 h1
    obtain ⟨e5, e6, e7⟩ := acT_v (F := G) (i := i) ⟨h0, by omega⟩
    rw [e5, e6, e7, acT_r (a := u + 2) (by omega), acT_r (a := u + 11) (by omega), hq (40 + 5) (by omega), hq (40 + 6) (by omega), hq (40 + 7) (by omega), hq (u + 2) (by omega), hq (u + 11) (by omega)]
    exact a
/-- the rows are back -/
theorem bk_all {F0 G H : Hp} {t w B : Int} (hB : t + 19 < B) (hk : ∀ k : Int, 0 ≤ k → k < 7 → ∀ i : Int, H (t + 9 + k) i = if 0 ≤ i ∧ i < 6 then G (w + 1 + k) i else G (t + 9 + k) i) (hH : ∀ q : Int, (q < t + 9 ∨ t + 16 ≤ q) → q < B → H q = G q) (hc : ∀ k : Int, 0 ≤ k → k < 7 → G (w + 1 + k) = F0 (t + 9 + k)) (ho : ∀ a i : Int, (i < 0 ∨ 6 ≤ i) → t + 9 ≤ a → a < t + 16 → G a i = F0 a i) (hG : ∀ q : Int, (q < t + 9 ∨ t + 16 ≤ q) → q < B → G q = F0 q) : ∀ q : Int, q < B → H q = F0 q := by
  intro q hq
  by_cases c : q < t + 9 ∨ t + 16 ≤ q
  · rw [hH q c hq, hG q c hq]
  · funext i
    have := hk (q - (t + 9)) (by omega) (by omega) i
    rw [show t + 9 + (q - (t + 9)) = q by omega] at this
    rw [this]
    by_cases z : 0 ≤ i ∧ i < 6
    · rw [if_pos z, hc (q - (t + 9)) (by omega) (by omega), show t + 9 + (q - (t + 9)) = q by omega]
    · rw [if_neg z]
      exact ho q i (by omega) (by omega) (by omega)
theorem TrV.up {F G : Hp} {t B : Int} (hB : t + 19 < B) (h : TrV F t) (hq : ∀ q : Int, q < B → G q = F q) : TrV G t := h.fr2 (fun a h1 h2 => hq a (by omega))
theorem TQ.up2 {T g : Shp} {F G : Hp} {t : Int} (h : TQ T F t) (hn : TrV F t) (hB : t + 19 < 136 + (T.length : Int)) (hq : ∀ q : Int, q < 136 + T.length → G q = F q) : TQ (T ++ g) G t := by
  refine h.up (by rw [hq t (by omega)]) (hq _ (by omega)) (hq _ (by omega)) (fun k k0 k1 => ?_)
  have := (h.2.2 k k0 k1).2.1.ltT
  rw [hq _ (by omega)]

