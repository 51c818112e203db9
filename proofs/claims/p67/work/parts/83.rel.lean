/-! the text's letters, and its length -/
theorem Asc.app {a b : List Int} (h1 : Asc a) (h2 : Asc b) : Asc (a ++ b) := by
  intro i hi
  rw [List.length_append] at hi
  rw [List.getD_eq_getElem?_getD]
  by_cases c : i < a.length
  · rw [List.getElem?_append_left c, ← List.getD_eq_getElem?_getD]
    exact h1 i c
  · rw [List.getElem?_append_right (by omega), ← List.getD_eq_getElem?_getD]
    exact h2 _ (by omega)
theorem Asc.nil : Asc [] := fun i hi => absurd hi (Nat.not_lt_zero i)
theorem Asc.one {c : Int} (h : 0 ≤ c ∧ c < 128) : Asc [c] := by
  intro i hi
  obtain rfl : i = 0 := by simpa using hi
  exact h
theorem stl_asc0 : ∀ j : Nat, j < 27 → (List.range (stl j).length).all (fun i => decide (0 ≤ (stl j).getD i 0 ∧ (stl j).getD i 0 < 128)) = true := by decide +kernel
theorem Asc.stl {j : Nat} (h : j < 27) : Asc (stl j) := fun i hi => of_decide_eq_true (List.all_eq_true.mp (stl_asc0 j h) i (List.mem_range.mpr hi))
theorem dec_asc0 : ∀ n : Nat, n < 100 → (List.range (decS n).length).all (fun i => decide (0 ≤ (decS n).getD i 0 ∧ (decS n).getD i 0 < 128)) = true := by decide +kernel
theorem Asc.dec {x : Int} (h : 0 ≤ x ∧ x < 100) : Asc (decS x) := by
  obtain ⟨n, hn⟩ := Int.eq_ofNat_of_zero_le h.1
  subst hn
  exact fun i hi => of_decide_eq_true (List.all_eq_true.mp (dec_asc0 n (by omega)) i (List.mem_range.mpr hi))
theorem stl_len : ∀ j : Nat, j < 27 → ((stl j).length : Int) ≤ 10 := by decide +kernel
theorem nd_ok {K : Hp} {t k : Int} (hV : TrV K t) (hk : 0 ≤ k ∧ k < K t 0) : Asc (ndL K t k) ∧ ((ndL K t k).length : Int) ≤ 120 := by
  have hn := hV.n
  have hst := hV.st k hk.1 hk.2
  have hpar := hV.par k hk.1 hk.2
  have hh : Asc (hdL K t k) ∧ ((hdL K t k).length : Int) ≤ 10 + 1 + (10 + 1) := by
    unfold hdL
    by_cases c : k ≤ 0
    · rw [if_pos c]
      exact ⟨((Asc.stl (by decide)).app (Asc.one (by omega))).app Asc.nil, lnA (lnA (stl_len 13 (by decide)) (Int.le_refl 1)) (by decide)⟩
    · rw [if_neg c]
      have := hpar.2 (by omega)
      exact ⟨((Asc.stl (by decide)).app (Asc.one (by omega))).app ((Asc.stl (by decide)).app (Asc.one (by omega))), lnA (lnA (stl_len 13 (by decide)) (Int.le_refl 1)) (lnA (stl_len 14 (by decide)) (Int.le_refl 1))⟩
  have hE : Asc (if K (t + 8) k = 0 then stl 22 else stl 21) ∧ ((if K (t + 8) k = 0 then stl 22 else stl 21 : List Int).length : Int) ≤ 10 := by
    split
    · exact ⟨Asc.stl (by decide), stl_len 22 (by decide)⟩
    · exact ⟨Asc.stl (by decide), stl_len 21 (by decide)⟩
  unfold ndL
  refine ⟨((((((((((((hh.1.app (Asc.stl (by decide))).app (Asc.dec (by omega))).app (Asc.stl (by decide))).app (Asc.dec (by omega))).app (Asc.stl (by decide))).app (Asc.dec (by omega))).app (Asc.stl (by decide))).app (Asc.dec (by omega))).app (Asc.stl (by decide))).app (Asc.dec (by omega))).app (Asc.stl (by decide))).app (Asc.dec (by omega))).app hE.1, ?_⟩
  have := lnA (lnA (lnA (lnA (lnA (lnA (lnA (lnA (lnA (lnA (lnA (lnA (lnA hh.2 (stl_len 15 (by decide))) (decS_2 (x := K (t + 2) k))) (stl_len 16 (by decide))) (decS_2 (x := K (t + 3) k))) (stl_len 17 (by decide))) (decS_2 (x := K (t + 4) k))) (stl_len 18 (by decide))) (decS_2 (x := K (t + 5) k))) (stl_len 19 (by decide))) (decS_2 (x := K (t + 6) k))) (stl_len 20 (by decide))) (decS_2 (x := K (t + 7) k))) hE.2
  omega
theorem nodes_ok {K : Hp} {t : Int} (hV : TrV K t) : ∀ n : Nat, (n : Int) ≤ K t 0 → Asc (nodesL K t n) ∧ ((nodesL K t n).length : Int) ≤ 120 * n
  | 0, _ => ⟨Asc.nil, by show ((0 : Nat) : Int) ≤ _; omega⟩
  | n + 1, h => by
    have ih := nodes_ok hV n (by omega)
    have q := nd_ok hV (k := n) ⟨by omega, by omega⟩
    refine ⟨ih.1.app q.1, ?_⟩
    have := lnA ih.2 q.2
    show (((nodesL K t n ++ ndL K t n).length : Nat) : Int) ≤ _
    omega
theorem tx_ok {K : Hp} {t : Int} (hV : TrV K t) : Asc (txL K t) ∧ (txL K t).length ≤ 860 := by
  have hn := hV.n
  have htm := hV.tm
  have hlm := hV.2.1
  have hag := hV.2.2.1
  have q := nodes_ok hV (K t 0).toNat (by omega)
  have a1 : Asc (ageL K t) ∧ ((ageL K t).length : Int) ≤ 10 + 2 + 10 := by
    unfold ageL
    by_cases c : K t 2 < 0
    · rw [if_pos c]; exact ⟨Asc.nil, by decide⟩
    · rw [if_neg c]; exact ⟨((Asc.stl (by decide)).app (Asc.dec (by omega))).app (Asc.stl (by decide)), lnA (lnA (stl_len 24 (by decide)) decS_2) (stl_len 22 (by decide))⟩
  have a2 : Asc (atL K t) ∧ ((atL K t).length : Int) ≤ 10 + 2 + 10 + 1 + 10 + 2 + 10 := by
    unfold atL
    by_cases c : K t 22 ≤ K t 20
    · rw [if_pos c]; exact ⟨Asc.nil, by decide⟩
    · rw [if_neg c]; exact ⟨((((((Asc.stl (by decide)).app (Asc.dec (by omega))).app (Asc.stl (by decide))).app (Asc.one (by omega))).app (Asc.stl (by decide))).app (Asc.dec (by omega))).app (Asc.stl (by decide)), lnA (lnA (lnA (lnA (lnA (lnA (stl_len 25 (by decide)) decS_2) (stl_len 26 (by decide))) (Int.le_refl 1)) (stl_len 15 (by decide))) decS_2) (stl_len 22 (by decide))⟩
  unfold txL
  refine ⟨((((q.1.app (Asc.stl (by decide))).app (Asc.dec (by omega))).app (Asc.stl (by decide))).app a1.1).app a2.1, ?_⟩
  have := lnA (lnA (lnA (lnA (lnA q.2 (stl_len 23 (by decide))) (decS_2 (x := K t 1))) (stl_len 22 (by decide))) a1.2) a2.2
  omega
/-! the limiter and the tree, side by side -/
theorem beg_f {b u : Int} {F : Hp} (hd : dj b u) : begS b u F b 1 = 0 ∧ begS b u F (b + 8) 4 = 0 ∧ begS b u F (b + 19) 0 = 0 ∧ ∀ n : Int, 0 ≤ n → n < 12 → (begS b u F (b + 1) n = F (u + 5) n ∧ begS b u F (b + 2) n = F (u + 6) n ∧ begS b u F (b + 3) n = F (u + 9) n ∧ begS b u F (b + 5) n = F (u + 7) n ∧ begS b u F (b + 6) n = 0 ∧ begS b u F (b + 7) n = F (u + 7) n ∧ begS b u F (b + 9) n = 0) ∧ begS b u F (b + 14) n = 0 ∧ begS b u F (b + 15) n = 0 ∧ begS b u F (b + 16) n = 0 ∧ begS b u F (b + 17) n = 0 ∧ begS b u F (b + 18) n = 0 := by
  unfold dj at hd
  unfold begS
  refine ⟨?_, ?_, ?_, fun n h0 h1 => ⟨⟨?_, ?_, ?_, ?_, ?_, ?_, ?_⟩, ?_, ?_, ?_, ?_, ?_⟩⟩ <;> simp (disch := omega) only [up_k, up_i, up_s, cpy_k, cpy_in, fillz_k, fillz_in, Int.zero_add, Int.sub_zero]
theorem rd_31 {v : Int} (hv : isSu v) : ∀ (k : Nat) (F : Hp), rdS v k F 3 0 = 0 → rdS v k F 3 1 = F 3 1
  | 0, F, _ => rfl
  | k + 1, F, h => by
    unfold rdS at h ⊢
    by_cases c : tokK F = 0 ∧ F 3 4 = 0
    · rw [if_pos c, scn_r (by decide)]
    · rw [if_neg c] at h ⊢
      by_cases d : (takS v (scnS F)).1 = 0
      · rw [if_pos d] at h ⊢
        rw [rd_31 hv k _ h, up_i (by decide), tak_k hv (Or.inr ⟨rfl, by decide⟩), scn_r (by decide)]
      · rw [if_neg d] at h
        rw [up_i (by decide), up_s] at h
        exact absurd h d
def SS (u v : Int) : Prop := (u = 4 ∧ v = 23) ∨ (u = 23 ∧ v = 4)
/-- the setup, as the tree has it -/
def RLs (u : Int) (F : Hp) (t : Int) : Prop := F u 0 = F t 0 ∧ (∀ i : Int, 0 ≤ i → i < F t 0 → F (u + 1) i = nmW i ∧ F (u + 2) i = F (t + 1) i ∧ F (u + 3) i = stF (F (t + 1)) 13 i 0 ∧ F (u + 7) i = F (t + 4) i ∧ F (u + 8) i = F (t + 5) i ∧ F (u + 10) i = F (t + 7) i ∧ F (u + 11) i = F (t + 8) i) ∧ F u 13 = F t 1 ∧ F u 14 = F t 2 ∧ (F t 22 ≤ 0 → F (u + 12) 0 = 0) ∧ (0 < F t 22 → F (u + 12) 0 = 1 ∧ F (u + 13) 0 = F t 22 ∧ F (u + 14) 0 = F t 23 ∧ F (u + 15) 0 = 0 ∧ F (u + 16) 0 = F t 24)
/-- the state, as the tree has it -/
def RLd (F : Hp) (t : Int) : Prop := F 40 1 = F t 20 ∧ ∀ i : Int, 0 ≤ i → i < F t 0 → F (40 + 1) i = F (t + 2) i ∧ F (40 + 2) i = F (t + 3) i ∧ F (40 + 3) i = F (t + 6) i ∧ F (40 + 5) i = F (t + 9) i ∧ F (40 + 6) i = F (t + 10) i ∧ F (40 + 7) i = F (t + 11) i ∧ F (40 + 9) i = 0 ∧ F (40 + 14) i = F (t + 12) i ∧ F (40 + 15) i = F (t + 13) i ∧ F (40 + 16) i = F (t + 14) i ∧ F (40 + 17) i = F (t + 15) i ∧ F (40 + 18) i = F (t + 16) i
def Rl (u v K : Int) (F : Hp) (t : Int) : Prop := SS u v ∧ CI 40 u v K F ∧ F 1 1 = 0 ∧ RLs u F t ∧ RLd F t
/-- the tree's accounts at the start -/
def TB0 (F : Hp) (t : Int) : Prop := ∀ i : Int, 0 ≤ i → i < F t 0 → F (t + 9) i = F (t + 4) i ∧ F (t + 10) i = 0 ∧ F (t + 11) i = F (t + 4) i ∧ F (t + 12) i = 0 ∧ F (t + 13) i = 0 ∧ F (t + 14) i = 0 ∧ F (t + 15) i = 0 ∧ F (t + 16) i = 0
theorem Rl.load {u v t B : Int} {F W : Hp} (hs : SS u v) (ht : 136 ≤ t) (hV : TrV F t) (h20 : F t 20 = 0) (hB : TB0 F t) (h30 : W 3 0 = 0) (h31 : W 3 1 = -2) (hR : RS v W F t) (hP : SuI v W) (htB : t + 17 ≤ B) (hk : ∀ a : Int, 40 ≤ a → a < B → W a = F a) :
    Rl v u 0 (up (up (begS 40 v (up (up (up W 1 1 0) 0 3 v) 3 2 u)) 88 0 0) 112 0 0) t ∧ (up (up (begS 40 v (up (up (up W 1 1 0) 0 3 v) 3 2 u)) 88 0 0) 112 0 0) 3 0 = 0 ∧ (up (up (begS 40 v (up (up (up W 1 1 0) 0 3 v) 3 2 u)) 88 0 0) 112 0 0) 3 1 = -2 ∧ ∀ a : Int, 136 ≤ a → a < B → (up (up (begS 40 v (up (up (up W 1 1 0) 0 3 v) 3 2 u)) 88 0 0) 112 0 0) a = F a := by
  have hs' : (u = 4 ∧ v = 23) ∨ (u = 23 ∧ v = 4) := hs
  have hdj : dj 40 v := by unfold dj; omega
  have bf := beg_f (F := up (up (up W 1 1 0) 0 3 v) 3 2 u) hdj
  have lo : ∀ a i : Int, a ≠ 88 → a ≠ 112 → (up (up (begS 40 v (up (up (up W 1 1 0) 0 3 v) 3 2 u)) 88 0 0) 112 0 0) a i = begS 40 v (up (up (up W 1 1 0) 0 3 v) 3 2 u) a i := fun a i h1 h2 => by rw [up_k h2, up_k h1]
  have c88 : (up (up (begS 40 v (up (up (up W 1 1 0) 0 3 v) 3 2 u)) 88 0 0) 112 0 0) 88 0 = 0 := by rw [up_k (by decide), up_s]
  have c112 : (up (up (begS 40 v (up (up (up W 1 1 0) 0 3 v) 3 2 u)) 88 0 0) 112 0 0) 112 0 = 0 := up_s
  have out : ∀ a : Int, (a < 40 ∨ 136 ≤ a) → a ≠ 0 → a ≠ 1 → a ≠ 3 → (up (up (begS 40 v (up (up (up W 1 1 0) 0 3 v) 3 2 u)) 88 0 0) 112 0 0) a = W a := fun a h0 h1 h2 h3 => by
    funext i
    rw [lo a i (by omega) (by omega), begS_r (by decide) (by omega), up_k h3, up_k h1, up_k h2]
  have c03 : (up (up (begS 40 v (up (up (up W 1 1 0) 0 3 v) 3 2 u)) 88 0 0) 112 0 0) 0 3 = v := by rw [lo 0 3 (by decide) (by decide), begS_r (by decide) (by decide), up_k (by decide), up_s]
  have c32 : (up (up (begS 40 v (up (up (up W 1 1 0) 0 3 v) 3 2 u)) 88 0 0) 112 0 0) 3 2 = u := by rw [lo 3 2 (by decide) (by decide), begS_r (by decide) (by decide), up_s]
  have c11 : (up (up (begS 40 v (up (up (up W 1 1 0) 0 3 v) 3 2 u)) 88 0 0) 112 0 0) 1 1 = 0 := by rw [lo 1 1 (by decide) (by decide), begS_r (by decide) (by decide), up_k (by decide), up_k (by decide), up_s]
  have c30 : (up (up (begS 40 v (up (up (up W 1 1 0) 0 3 v) 3 2 u)) 88 0 0) 112 0 0) 3 0 = 0 := by rw [lo 3 0 (by decide) (by decide), begS_r (by decide) (by decide), up_i (by decide), up_k (by decide), up_k (by decide)]; exact h30
  have c31 : (up (up (begS 40 v (up (up (up W 1 1 0) 0 3 v) 3 2 u)) 88 0 0) 112 0 0) 3 1 = -2 := by rw [lo 3 1 (by decide) (by decide), begS_r (by decide) (by decide), up_i (by decide), up_k (by decide), up_k (by decide)]; exact h31
  have wv : ∀ a i : Int, v ≤ a → a ≤ v + 16 → up (up (up W 1 1 0) 0 3 v) 3 2 u a i = W a i := fun a i h1 h2 => by rw [up_k (by omega), up_k (by omega), up_k (by omega)]
  have cb : ∀ a i : Int, 40 ≤ a → a < 64 → (up (up (begS 40 v (up (up (up W 1 1 0) 0 3 v) 3 2 u)) 88 0 0) 112 0 0) a i = begS 40 v (up (up (up W 1 1 0) 0 3 v) 3 2 u) a i := fun a i h1 h2 => lo a i (by omega) (by omega)
  generalize hG : up (up (begS 40 v (up (up (up W 1 1 0) 0 3 v) 3 2 u)) 88 0 0) 112 0 0 = G at *
  have vS : ∀ a : Int, v ≤ a → a < v + 17 → G a = W a := fun a h1 h2 => out a (by omega) (by omega) (by omega) (by omega)
  have tS0 : ∀ a : Int, 136 ≤ a → a < B → G a = F a := fun a h1 h2 => by rw [out a (by omega) (by omega) (by omega) (by omega)]; exact hk a (by omega) h2
  have tS : ∀ a : Int, t ≤ a ∧ a ≤ t + 16 → G a = F a := fun a h1 => tS0 a (by omega) (by omega)
  have hSu : SuI v G := hP.fr vS
  have rows : ∀ n : Int, 0 ≤ n → n < 12 → (G (40 + 1) n = W (v + 5) n ∧ G (40 + 2) n = W (v + 6) n ∧ G (40 + 3) n = W (v + 9) n ∧ G (40 + 5) n = W (v + 7) n ∧ G (40 + 6) n = 0 ∧ G (40 + 7) n = W (v + 7) n ∧ G (40 + 9) n = 0) ∧ G (40 + 14) n = 0 ∧ G (40 + 15) n = 0 ∧ G (40 + 16) n = 0 ∧ G (40 + 17) n = 0 ∧ G (40 + 18) n = 0 := fun n n0 n1 => by
    have b := bf.2.2.2 n n0 n1
    rw [wv (v + 5) n (by omega) (by omega), wv (v + 6) n (by omega) (by omega), wv (v + 9) n (by omega) (by omega), wv (v + 7) n (by omega) (by omega)] at b
    rw [cb (40 + 1) n (by omega) (by omega), cb (40 + 2) n (by omega) (by omega), cb (40 + 3) n (by omega) (by omega), cb (40 + 5) n (by omega) (by omega), cb (40 + 6) n (by omega) (by omega), cb (40 + 7) n (by omega) (by omega), cb (40 + 9) n (by omega) (by omega), cb (40 + 14) n (by omega) (by omega), cb (40 + 15) n (by omega) (by omega), cb (40 + 16) n (by omega) (by omega), cb (40 + 17) n (by omega) (by omega), cb (40 + 18) n (by omega) (by omega)]
    exact b
  have ct : G 40 1 = 0 := by rw [cb 40 1 (by decide) (by decide)]; exact bf.1
  have cl : G (40 + 19) 0 = 0 := by rw [cb (40 + 19) 0 (by decide) (by decide)]; exact bf.2.2.1
  clear lo cb wv bf hG
  have hn := hV.n
  have h12 := hSu.1
  have hStA : StA 40 v 0 G := by
    refine ⟨hSu, fun n h0 hn => ?_, ⟨by rw [ct]; omega, fun n h0 hn => ?_, fun n h0 hn k k0 k1 => ?_⟩, ⟨by rw [cl]; omega, fun k k0 k1 => by rw [cl] at k1; omega⟩, fun n h0 hn => ?_⟩
    · have a := rows n h0 (by omega)
      have s := hSu.2.2.2.2.2.2.1 n h0 hn
      rw [vS (v + 5) (by omega) (by omega), vS (v + 6) (by omega) (by omega), vS (v + 7) (by omega) (by omega), vS (v + 9) (by omega) (by omega)] at s
      rw [vS (v + 7) (by omega) (by omega)]
      omega
    · have a := rows n h0 (by omega)
      exact ⟨by omega, fun _ => by omega⟩
    · have a := rows n h0 (by omega)
      omega
    · have a := rows n h0 (by omega)
      omega
  obtain ⟨⟨r0, r1, -⟩, r2, r3, r4, r5⟩ := hR
  refine ⟨⟨by unfold SS; omega, ⟨c03, c32, hStA, by omega, by omega, fun i q0 q1 => by omega, Or.inl c88, Or.inl c112, fun z => by omega, fun z => by omega⟩, c11, ⟨?_, fun i q0 q1 => ?_, ?_, ?_, fun z => ?_, fun z => ?_⟩, ?_, fun i q0 q1 => ?_⟩, c30, c31, tS0⟩
  · rw [vS v (by omega) (by omega), tS t (by omega)]; exact r0
  · rw [tS t (by omega)] at q1
    have s := r1 i q0 q1
    rw [vS (v + 1) (by omega) (by omega), vS (v + 2) (by omega) (by omega), vS (v + 3) (by omega) (by omega), vS (v + 7) (by omega) (by omega), vS (v + 8) (by omega) (by omega), vS (v + 10) (by omega) (by omega), vS (v + 11) (by omega) (by omega), tS (t + 1) (by omega), tS (t + 4) (by omega), tS (t + 5) (by omega), tS (t + 7) (by omega), tS (t + 8) (by omega)]
    exact ⟨s.1, s.2.1, s.2.2.1, s.2.2.2.2.2.1, s.2.2.2.2.2.2.1, s.2.2.2.2.2.2.2.2.1, s.2.2.2.2.2.2.2.2.2⟩
  · rw [vS v (by omega) (by omega), tS t (by omega)]; exact r2
  · rw [vS v (by omega) (by omega), tS t (by omega)]; exact r3
  · rw [tS t (by omega)] at z
    rw [vS (v + 12) (by omega) (by omega)]; exact r4 (by omega)
  · rw [tS t (by omega)] at z ⊢
    rw [vS (v + 12) (by omega) (by omega), vS (v + 13) (by omega) (by omega), vS (v + 14) (by omega) (by omega), vS (v + 15) (by omega) (by omega), vS (v + 16) (by omega) (by omega)]; exact r5 (by omega)
  · rw [tS t (by omega), ct, h20]
  · rw [tS t (by omega)] at q1
    have s := r1 i q0 q1
    have a := rows i q0 (by omega)
    have b := hB i q0 q1
    rw [tS (t + 2) (by omega), tS (t + 3) (by omega), tS (t + 6) (by omega), tS (t + 9) (by omega), tS (t + 10) (by omega), tS (t + 11) (by omega), tS (t + 12) (by omega), tS (t + 13) (by omega), tS (t + 14) (by omega), tS (t + 15) (by omega), tS (t + 16) (by omega)]
    unfold SNi at s
    omega

