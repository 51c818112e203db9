/-! the reference's row, seen as a state and a setup: cells 1000.. and 1100.. -/
def rof (a : Int) : Int := if a = 1005 then 3 else if a = 1006 then 15 else if a = 1007 then 27 else if a = 1014 then 39 else if a = 1015 then 51 else if a = 1016 then 63 else if a = 1017 then 75 else if a = 1018 then 87 else if a = 1001 then 99 else if a = 1002 then 111 else if a = 1003 then 123 else if a = 1009 then 135 else -1
def pos (a i : Int) : Int :=
  if a = 1000 then (if i = 1 then 0 else -1) else if a = 1008 then (if i = 4 then 1 else -1) else if a = 1019 then (if i = 0 then 2 else -1) else
  if 1010 ≤ a ∧ a ≤ 1012 then (if 0 ≤ i ∧ i < 192 then 147 + 3 * i + (a - 1010) else -1) else if 1020 ≤ a ∧ a ≤ 1023 then (if 0 ≤ i ∧ i < 24 then 723 + 4 * i + (a - 1020) else -1) else
  if 0 ≤ rof a ∧ 0 ≤ i ∧ i < 12 then rof a + i else -1
def dA (j : Int) : Int := if j = 0 then 1000 else if j = 1 then 1008 else if j = 2 then 1019 else if j < 15 then 1005 else if j < 27 then 1006 else if j < 39 then 1007 else if j < 51 then 1014 else if j < 63 then 1015 else if j < 75 then 1016 else if j < 87 then 1017 else if j < 99 then 1018 else if j < 111 then 1001 else if j < 123 then 1002 else if j < 135 then 1003 else if j < 147 then 1009 else if j < 723 then 1010 + (j - 147) % 3 else 1020 + (j - 723) % 4
def dI (j : Int) : Int := if j = 0 then 1 else if j = 1 then 4 else if j = 2 then 0 else if j < 147 then (j - 3) % 12 else if j < 723 then (j - 147) / 3 else (j - 723) / 4
theorem rof_c (a : Int) (h : 0 ≤ rof a) : (a = 1005 ∧ rof a = 3) ∨ (a = 1006 ∧ rof a = 15) ∨ (a = 1007 ∧ rof a = 27) ∨ (a = 1014 ∧ rof a = 39) ∨ (a = 1015 ∧ rof a = 51) ∨ (a = 1016 ∧ rof a = 63) ∨ (a = 1017 ∧ rof a = 75) ∨ (a = 1018 ∧ rof a = 87) ∨ (a = 1001 ∧ rof a = 99) ∨ (a = 1002 ∧ rof a = 111) ∨ (a = 1003 ∧ rof a = 123) ∨ (a = 1009 ∧ rof a = 135) := by
  by_cases q0 : a = 1005
  · subst q0; exact Or.inl ⟨rfl, rfl⟩
  by_cases q1 : a = 1006
  · subst q1; exact Or.inr (Or.inl ⟨rfl, rfl⟩)
  by_cases q2 : a = 1007
  · subst q2; exact Or.inr (Or.inr (Or.inl ⟨rfl, rfl⟩))
  by_cases q3 : a = 1014
  · subst q3; exact Or.inr (Or.inr (Or.inr (Or.inl ⟨rfl, rfl⟩)))
  by_cases q4 : a = 1015
  · subst q4; exact Or.inr (Or.inr (Or.inr (Or.inr (Or.inl ⟨rfl, rfl⟩))))
  by_cases q5 : a = 1016
  · subst q5; exact Or.inr (Or.inr (Or.inr (Or.inr (Or.inr (Or.inl ⟨rfl, rfl⟩)))))
  by_cases q6 : a = 1017
  · subst q6; exact Or.inr (Or.inr (Or.inr (Or.inr (Or.inr (Or.inr (Or.inl ⟨rfl, rfl⟩))))))
  by_cases q7 : a = 1018
  · subst q7; exact Or.inr (Or.inr (Or.inr (Or.inr (Or.inr (Or.inr (Or.inr (Or.inl ⟨rfl, rfl⟩)))))))
  by_cases q8 : a = 1001
  · subst q8; exact Or.inr (Or.inr (Or.inr (Or.inr (Or.inr (Or.inr (Or.inr (Or.inr (Or.inl ⟨rfl, rfl⟩))))))))
  by_cases q9 : a = 1002
  · subst q9; exact Or.inr (Or.inr (Or.inr (Or.inr (Or.inr (Or.inr (Or.inr (Or.inr (Or.inr (Or.inl ⟨rfl, rfl⟩)))))))))
  by_cases q10 : a = 1003
  · subst q10; exact Or.inr (Or.inr (Or.inr (Or.inr (Or.inr (Or.inr (Or.inr (Or.inr (Or.inr (Or.inr (Or.inl ⟨rfl, rfl⟩))))))))))
  by_cases q11 : a = 1009
  · subst q11; exact Or.inr (Or.inr (Or.inr (Or.inr (Or.inr (Or.inr (Or.inr (Or.inr (Or.inr (Or.inr (Or.inr (⟨rfl, rfl⟩)))))))))))
  have e : rof a = -1 := by unfold rof; rw [if_neg q0, if_neg q1, if_neg q2, if_neg q3, if_neg q4, if_neg q5, if_neg q6, if_neg q7, if_neg q8, if_neg q9, if_neg q10, if_neg q11]
  omega
theorem pos_dec {a i : Int} (h : 0 ≤ pos a i) : dA (pos a i) = a ∧ dI (pos a i) = i ∧ pos a i < 819 := by
  by_cases q1 : a = 1000
  · subst q1
    have e : pos 1000 i = if i = 1 then 0 else -1 := rfl
    rw [e] at h ⊢
    split at h
    · rename_i q; rw [if_pos q, q]; decide
    · omega
  · by_cases q2 : a = 1008
    · subst q2
      have e : pos 1008 i = if i = 4 then 1 else -1 := rfl
      rw [e] at h ⊢
      split at h
      · rename_i q; rw [if_pos q, q]; decide
      · omega
    · by_cases q3 : a = 1019
      · subst q3
        have e : pos 1019 i = if i = 0 then 2 else -1 := rfl
        rw [e] at h ⊢
        split at h
        · rename_i q; rw [if_pos q, q]; decide
        · omega
      · by_cases q4 : 1010 ≤ a ∧ a ≤ 1012
        · have e : pos a i = if 0 ≤ i ∧ i < 192 then 147 + 3 * i + (a - 1010) else -1 := by unfold pos; rw [if_neg q1, if_neg q2, if_neg q3, if_pos q4]
          rw [e] at h ⊢
          split at h
          · rename_i q
            rw [if_pos q]
            unfold dA dI
            refine ⟨?_, ?_, by omega⟩ <;> (repeat (first | rw [if_neg (by omega)] | rw [if_pos (by omega)])) <;> omega
          · omega
        · by_cases q5 : 1020 ≤ a ∧ a ≤ 1023
          · have e : pos a i = if 0 ≤ i ∧ i < 24 then 723 + 4 * i + (a - 1020) else -1 := by unfold pos; rw [if_neg q1, if_neg q2, if_neg q3, if_neg q4, if_pos q5]
            rw [e] at h ⊢
            split at h
            · rename_i q
              rw [if_pos q]
              unfold dA dI
              refine ⟨?_, ?_, by omega⟩ <;> (repeat (first | rw [if_neg (by omega)] | rw [if_pos (by omega)])) <;> omega
            · omega
          · have e : pos a i = if 0 ≤ rof a ∧ 0 ≤ i ∧ i < 12 then rof a + i else -1 := by unfold pos; rw [if_neg q1, if_neg q2, if_neg q3, if_neg q4, if_neg q5]
            rw [e] at h ⊢
            split at h
            · rename_i q
              rw [if_pos q]
              have hc := rof_c a q.1
              obtain ⟨-, q6, q7⟩ := q
              unfold dA dI
              rcases hc with ⟨h1, h2⟩ | ⟨h1, h2⟩ | ⟨h1, h2⟩ | ⟨h1, h2⟩ | ⟨h1, h2⟩ | ⟨h1, h2⟩ | ⟨h1, h2⟩ | ⟨h1, h2⟩ | ⟨h1, h2⟩ | ⟨h1, h2⟩ | ⟨h1, h2⟩ | ⟨h1, h2⟩ <;> (subst h1; rw [h2]; refine ⟨?_, ?_, by omega⟩ <;> (repeat (first | rw [if_neg (by omega)] | rw [if_pos (by omega)])) <;> omega)
            · omega
theorem pos_inj {a i r n : Int} (h : 0 ≤ pos r n) (he : pos a i = pos r n) : a = r ∧ i = n := by
  have h1 := pos_dec h
  have h2 := pos_dec (a := a) (i := i) (by omega)
  rw [he] at h2
  omega
/-- how deep a node lies; whether it has a child -/
def dptF (par : Int → Int) : Nat → Int → Int
  | 0, _ => 0
  | k + 1, n => if par n < 0 then 0 else dptF par k (par n) + 1
def hasC (par : Int → Int) (n : Int) : Nat → Bool
  | 0 => false
  | k + 1 => decide (par k = n) || hasC par n k
def chlC (par : Int → Int) (N n : Int) : Int := if hasC par n N.toNat = true then 1 else 0
/-- letters of a word of the reference; the word packed as the class packs it -/
def nlF : Nat → Int → Nat
  | 0, _ => 0
  | k + 1, w => if w ≤ 0 then 0 else nlF k (w / 32) + 1
def cvN (w : Int) : Int := w * ((32 ^ (8 - nlF 8 w) : Nat) : Int)
def sv (F : Hp) (a i : Int) : Int :=
  if a = 1100 then (if i = 0 then F 136 3 else if i = 13 then F 136 4 else if i = 14 then F 136 5 else 0) else if a = 1112 then (if i = 0 then F 136 38 else 0) else if a = 1101 then cvN (F 139 i) else if a = 1102 then F 141 i else if a = 1103 then dptF (F 141) 13 i else if a = 1104 then chlC (F 141) (F 136 3) i else
  if a = 1107 then F 142 i else if a = 1108 then F 143 i else if a = 1110 then F 144 i else if a = 1111 then F 145 i else if a = 1113 then F 150 i else if a = 1114 then F 151 i else if a = 1115 then F 152 i else if a = 1116 then F 153 i else if a = 1105 ∨ a = 1106 ∨ a = 1109 then 1 else 0
def vw (o : Int) (F : Hp) : Hp := fun a i => if 0 ≤ pos a i then F 137 (o + pos a i) else if a < 1100 then 0 else sv F a i
theorem pos_su {a i : Int} (h : 1100 ≤ a) : pos a i = -1 := by
  have hr : rof a = -1 := by unfold rof; (repeat (first | rw [if_neg (by omega)] | rw [if_pos (by omega)]))
  unfold pos
  rw [hr]
  (repeat (first | rw [if_neg (by omega)] | rw [if_pos (by omega)]))
theorem vw_su {o a i : Int} {F : Hp} (h : 1100 ≤ a) : vw o F a i = sv F a i := by
  unfold vw
  rw [pos_su h, if_neg (by decide), if_neg (by omega)]
theorem vw_up {o r n x : Int} {F : Hp} (h : 0 ≤ pos r n) : vw o (up F 137 (o + pos r n) x) = up (vw o F) r n x := by
  funext a i
  unfold vw
  by_cases q : a = r ∧ i = n
  · rw [q.1, q.2, if_pos h, up_s, up_s]
  · rw [up_n q]
    by_cases p : 0 ≤ pos a i
    · rw [if_pos p, if_pos p, up_n (fun z => q (pos_inj h (by omega)))]
    · rw [if_neg p, if_neg p]
      split
      · rfl
      · unfold sv
        simp only [up_k (show (136 : Int) ≠ 137 by decide), up_k (show (139 : Int) ≠ 137 by decide), up_k (show (141 : Int) ≠ 137 by decide), up_k (show (142 : Int) ≠ 137 by decide), up_k (show (143 : Int) ≠ 137 by decide), up_k (show (144 : Int) ≠ 137 by decide), up_k (show (145 : Int) ≠ 137 by decide), up_k (show (150 : Int) ≠ 137 by decide), up_k (show (151 : Int) ≠ 137 by decide), up_k (show (152 : Int) ≠ 137 by decide), up_k (show (153 : Int) ≠ 137 by decide), up_r (show (141 : Int) ≠ 137 by decide)]
theorem vw_fr {o : Int} {F G : Hp} (h7 : ∀ j : Int, o ≤ j → j < o + 819 → G 137 j = F 137 j) (h6 : G 136 3 = F 136 3 ∧ G 136 4 = F 136 4 ∧ G 136 5 = F 136 5 ∧ G 136 38 = F 136 38) (h : ∀ a : Int, a = 139 ∨ (141 ≤ a ∧ a ≤ 145) ∨ (150 ≤ a ∧ a ≤ 153) → G a = F a) : vw o G = vw o F := by
  funext a i
  unfold vw
  by_cases p : 0 ≤ pos a i
  · have := pos_dec p
    rw [if_pos p, if_pos p, h7 _ (by omega) (by omega)]
  · rw [if_neg p, if_neg p]
    split
    · rfl
    · unfold sv
      rw [h6.1, h6.2.1, h6.2.2.1, h6.2.2.2, h 139 (by omega), h 141 (by omega), h 142 (by omega), h 143 (by omega), h 144 (by omega), h 145 (by omega), h 150 (by omega), h 151 (by omega), h 152 (by omega), h 153 (by omega)]
theorem pos_5 {n : Int} (h : 0 ≤ n ∧ n < 12) : pos 1005 n = 3 + n := by show (if 0 ≤ (3 : Int) ∧ 0 ≤ n ∧ n < 12 then (3 : Int) + n else -1) = _; rw [if_pos ⟨by decide, h⟩]
theorem vw_5 {F : Hp} {n : Int} (h : 0 ≤ n ∧ n < 12) : vw 0 F 1005 n = F 137 (3 + n) := by unfold vw; rw [pos_5 h, if_pos (by omega), Int.zero_add]
theorem vu_5 {F : Hp} {n x : Int} (h : 0 ≤ n ∧ n < 12) : vw 0 (up F 137 (3 + n) x) = up (vw 0 F) 1005 n x := by have := vw_up (o := 0) (r := 1005) (n := n) (x := x) (F := F) (by rw [pos_5 h]; omega); rw [pos_5 h, Int.zero_add] at this; exact this
theorem pos_6 {n : Int} (h : 0 ≤ n ∧ n < 12) : pos 1006 n = 15 + n := by show (if 0 ≤ (15 : Int) ∧ 0 ≤ n ∧ n < 12 then (15 : Int) + n else -1) = _; rw [if_pos ⟨by decide, h⟩]
theorem vw_6 {F : Hp} {n : Int} (h : 0 ≤ n ∧ n < 12) : vw 0 F 1006 n = F 137 (15 + n) := by unfold vw; rw [pos_6 h, if_pos (by omega), Int.zero_add]
theorem vu_6 {F : Hp} {n x : Int} (h : 0 ≤ n ∧ n < 12) : vw 0 (up F 137 (15 + n) x) = up (vw 0 F) 1006 n x := by have := vw_up (o := 0) (r := 1006) (n := n) (x := x) (F := F) (by rw [pos_6 h]; omega); rw [pos_6 h, Int.zero_add] at this; exact this
theorem pos_7 {n : Int} (h : 0 ≤ n ∧ n < 12) : pos 1007 n = 27 + n := by show (if 0 ≤ (27 : Int) ∧ 0 ≤ n ∧ n < 12 then (27 : Int) + n else -1) = _; rw [if_pos ⟨by decide, h⟩]
theorem vw_7 {F : Hp} {n : Int} (h : 0 ≤ n ∧ n < 12) : vw 0 F 1007 n = F 137 (27 + n) := by unfold vw; rw [pos_7 h, if_pos (by omega), Int.zero_add]
theorem vu_7 {F : Hp} {n x : Int} (h : 0 ≤ n ∧ n < 12) : vw 0 (up F 137 (27 + n) x) = up (vw 0 F) 1007 n x := by have := vw_up (o := 0) (r := 1007) (n := n) (x := x) (F := F) (by rw [pos_7 h]; omega); rw [pos_7 h, Int.zero_add] at this; exact this
theorem pos_14 {n : Int} (h : 0 ≤ n ∧ n < 12) : pos 1014 n = 39 + n := by show (if 0 ≤ (39 : Int) ∧ 0 ≤ n ∧ n < 12 then (39 : Int) + n else -1) = _; rw [if_pos ⟨by decide, h⟩]
theorem vw_14 {F : Hp} {n : Int} (h : 0 ≤ n ∧ n < 12) : vw 0 F 1014 n = F 137 (39 + n) := by unfold vw; rw [pos_14 h, if_pos (by omega), Int.zero_add]
theorem vu_14 {F : Hp} {n x : Int} (h : 0 ≤ n ∧ n < 12) : vw 0 (up F 137 (39 + n) x) = up (vw 0 F) 1014 n x := by have := vw_up (o := 0) (r := 1014) (n := n) (x := x) (F := F) (by rw [pos_14 h]; omega); rw [pos_14 h, Int.zero_add] at this; exact this
theorem pos_15 {n : Int} (h : 0 ≤ n ∧ n < 12) : pos 1015 n = 51 + n := by show (if 0 ≤ (51 : Int) ∧ 0 ≤ n ∧ n < 12 then (51 : Int) + n else -1) = _; rw [if_pos ⟨by decide, h⟩]
theorem vw_15 {F : Hp} {n : Int} (h : 0 ≤ n ∧ n < 12) : vw 0 F 1015 n = F 137 (51 + n) := by unfold vw; rw [pos_15 h, if_pos (by omega), Int.zero_add]
theorem vu_15 {F : Hp} {n x : Int} (h : 0 ≤ n ∧ n < 12) : vw 0 (up F 137 (51 + n) x) = up (vw 0 F) 1015 n x := by have := vw_up (o := 0) (r := 1015) (n := n) (x := x) (F := F) (by rw [pos_15 h]; omega); rw [pos_15 h, Int.zero_add] at this; exact this
theorem pos_16 {n : Int} (h : 0 ≤ n ∧ n < 12) : pos 1016 n = 63 + n := by show (if 0 ≤ (63 : Int) ∧ 0 ≤ n ∧ n < 12 then (63 : Int) + n else -1) = _; rw [if_pos ⟨by decide, h⟩]
theorem vw_16 {F : Hp} {n : Int} (h : 0 ≤ n ∧ n < 12) : vw 0 F 1016 n = F 137 (63 + n) := by unfold vw; rw [pos_16 h, if_pos (by omega), Int.zero_add]
theorem vu_16 {F : Hp} {n x : Int} (h : 0 ≤ n ∧ n < 12) : vw 0 (up F 137 (63 + n) x) = up (vw 0 F) 1016 n x := by have := vw_up (o := 0) (r := 1016) (n := n) (x := x) (F := F) (by rw [pos_16 h]; omega); rw [pos_16 h, Int.zero_add] at this; exact this
theorem pos_17 {n : Int} (h : 0 ≤ n ∧ n < 12) : pos 1017 n = 75 + n := by show (if 0 ≤ (75 : Int) ∧ 0 ≤ n ∧ n < 12 then (75 : Int) + n else -1) = _; rw [if_pos ⟨by decide, h⟩]
theorem vw_17 {F : Hp} {n : Int} (h : 0 ≤ n ∧ n < 12) : vw 0 F 1017 n = F 137 (75 + n) := by unfold vw; rw [pos_17 h, if_pos (by omega), Int.zero_add]
theorem vu_17 {F : Hp} {n x : Int} (h : 0 ≤ n ∧ n < 12) : vw 0 (up F 137 (75 + n) x) = up (vw 0 F) 1017 n x := by have := vw_up (o := 0) (r := 1017) (n := n) (x := x) (F := F) (by rw [pos_17 h]; omega); rw [pos_17 h, Int.zero_add] at this; exact this
theorem pos_18 {n : Int} (h : 0 ≤ n ∧ n < 12) : pos 1018 n = 87 + n := by show (if 0 ≤ (87 : Int) ∧ 0 ≤ n ∧ n < 12 then (87 : Int) + n else -1) = _; rw [if_pos ⟨by decide, h⟩]
theorem vw_18 {F : Hp} {n : Int} (h : 0 ≤ n ∧ n < 12) : vw 0 F 1018 n = F 137 (87 + n) := by unfold vw; rw [pos_18 h, if_pos (by omega), Int.zero_add]
theorem vu_18 {F : Hp} {n x : Int} (h : 0 ≤ n ∧ n < 12) : vw 0 (up F 137 (87 + n) x) = up (vw 0 F) 1018 n x := by have := vw_up (o := 0) (r := 1018) (n := n) (x := x) (F := F) (by rw [pos_18 h]; omega); rw [pos_18 h, Int.zero_add] at this; exact this
theorem pos_1 {n : Int} (h : 0 ≤ n ∧ n < 12) : pos 1001 n = 99 + n := by show (if 0 ≤ (99 : Int) ∧ 0 ≤ n ∧ n < 12 then (99 : Int) + n else -1) = _; rw [if_pos ⟨by decide, h⟩]
theorem vw_1 {F : Hp} {n : Int} (h : 0 ≤ n ∧ n < 12) : vw 0 F 1001 n = F 137 (99 + n) := by unfold vw; rw [pos_1 h, if_pos (by omega), Int.zero_add]
theorem vu_1 {F : Hp} {n x : Int} (h : 0 ≤ n ∧ n < 12) : vw 0 (up F 137 (99 + n) x) = up (vw 0 F) 1001 n x := by have := vw_up (o := 0) (r := 1001) (n := n) (x := x) (F := F) (by rw [pos_1 h]; omega); rw [pos_1 h, Int.zero_add] at this; exact this
theorem pos_2 {n : Int} (h : 0 ≤ n ∧ n < 12) : pos 1002 n = 111 + n := by show (if 0 ≤ (111 : Int) ∧ 0 ≤ n ∧ n < 12 then (111 : Int) + n else -1) = _; rw [if_pos ⟨by decide, h⟩]
theorem vw_2 {F : Hp} {n : Int} (h : 0 ≤ n ∧ n < 12) : vw 0 F 1002 n = F 137 (111 + n) := by unfold vw; rw [pos_2 h, if_pos (by omega), Int.zero_add]
theorem vu_2 {F : Hp} {n x : Int} (h : 0 ≤ n ∧ n < 12) : vw 0 (up F 137 (111 + n) x) = up (vw 0 F) 1002 n x := by have := vw_up (o := 0) (r := 1002) (n := n) (x := x) (F := F) (by rw [pos_2 h]; omega); rw [pos_2 h, Int.zero_add] at this; exact this
theorem pos_3 {n : Int} (h : 0 ≤ n ∧ n < 12) : pos 1003 n = 123 + n := by show (if 0 ≤ (123 : Int) ∧ 0 ≤ n ∧ n < 12 then (123 : Int) + n else -1) = _; rw [if_pos ⟨by decide, h⟩]
theorem vw_3 {F : Hp} {n : Int} (h : 0 ≤ n ∧ n < 12) : vw 0 F 1003 n = F 137 (123 + n) := by unfold vw; rw [pos_3 h, if_pos (by omega), Int.zero_add]
theorem vu_3 {F : Hp} {n x : Int} (h : 0 ≤ n ∧ n < 12) : vw 0 (up F 137 (123 + n) x) = up (vw 0 F) 1003 n x := by have := vw_up (o := 0) (r := 1003) (n := n) (x := x) (F := F) (by rw [pos_3 h]; omega); rw [pos_3 h, Int.zero_add] at this; exact this
theorem pos_9 {n : Int} (h : 0 ≤ n ∧ n < 12) : pos 1009 n = 135 + n := by show (if 0 ≤ (135 : Int) ∧ 0 ≤ n ∧ n < 12 then (135 : Int) + n else -1) = _; rw [if_pos ⟨by decide, h⟩]
theorem vw_9 {F : Hp} {n : Int} (h : 0 ≤ n ∧ n < 12) : vw 0 F 1009 n = F 137 (135 + n) := by unfold vw; rw [pos_9 h, if_pos (by omega), Int.zero_add]
theorem vu_9 {F : Hp} {n x : Int} (h : 0 ≤ n ∧ n < 12) : vw 0 (up F 137 (135 + n) x) = up (vw 0 F) 1009 n x := by have := vw_up (o := 0) (r := 1009) (n := n) (x := x) (F := F) (by rw [pos_9 h]; omega); rw [pos_9 h, Int.zero_add] at this; exact this
theorem pos_q0 {j : Int} (h : 0 ≤ j ∧ j < 192) : pos 1010 j = 147 + 3 * j + 0 := by show (if 0 ≤ j ∧ j < 192 then 147 + 3 * j + ((1010 : Int) - 1010) else -1) = _; rw [if_pos h]; rfl
theorem vw_q0 {F : Hp} {j : Int} (h : 0 ≤ j ∧ j < 192) : vw 0 F 1010 j = F 137 (147 + 3 * j + 0) := by unfold vw; rw [pos_q0 h, if_pos (by omega), Int.zero_add]
theorem vu_q0 {F : Hp} {j x : Int} (h : 0 ≤ j ∧ j < 192) : vw 0 (up F 137 (147 + 3 * j + 0) x) = up (vw 0 F) 1010 j x := by have := vw_up (o := 0) (r := 1010) (n := j) (x := x) (F := F) (by rw [pos_q0 h]; omega); rw [pos_q0 h, Int.zero_add] at this; exact this
theorem pos_q1 {j : Int} (h : 0 ≤ j ∧ j < 192) : pos 1011 j = 147 + 3 * j + 1 := by show (if 0 ≤ j ∧ j < 192 then 147 + 3 * j + ((1011 : Int) - 1010) else -1) = _; rw [if_pos h]; rfl
theorem vw_q1 {F : Hp} {j : Int} (h : 0 ≤ j ∧ j < 192) : vw 0 F 1011 j = F 137 (147 + 3 * j + 1) := by unfold vw; rw [pos_q1 h, if_pos (by omega), Int.zero_add]
theorem vu_q1 {F : Hp} {j x : Int} (h : 0 ≤ j ∧ j < 192) : vw 0 (up F 137 (147 + 3 * j + 1) x) = up (vw 0 F) 1011 j x := by have := vw_up (o := 0) (r := 1011) (n := j) (x := x) (F := F) (by rw [pos_q1 h]; omega); rw [pos_q1 h, Int.zero_add] at this; exact this
theorem pos_q2 {j : Int} (h : 0 ≤ j ∧ j < 192) : pos 1012 j = 147 + 3 * j + 2 := by show (if 0 ≤ j ∧ j < 192 then 147 + 3 * j + ((1012 : Int) - 1010) else -1) = _; rw [if_pos h]; rfl
theorem vw_q2 {F : Hp} {j : Int} (h : 0 ≤ j ∧ j < 192) : vw 0 F 1012 j = F 137 (147 + 3 * j + 2) := by unfold vw; rw [pos_q2 h, if_pos (by omega), Int.zero_add]
theorem vu_q2 {F : Hp} {j x : Int} (h : 0 ≤ j ∧ j < 192) : vw 0 (up F 137 (147 + 3 * j + 2) x) = up (vw 0 F) 1012 j x := by have := vw_up (o := 0) (r := 1012) (n := j) (x := x) (F := F) (by rw [pos_q2 h]; omega); rw [pos_q2 h, Int.zero_add] at this; exact this
theorem pos_l0 {j : Int} (h : 0 ≤ j ∧ j < 24) : pos 1020 j = 723 + 4 * j + 0 := by show (if 0 ≤ j ∧ j < 24 then 723 + 4 * j + ((1020 : Int) - 1020) else -1) = _; rw [if_pos h]; rfl
theorem vw_l0 {F : Hp} {j : Int} (h : 0 ≤ j ∧ j < 24) : vw 0 F 1020 j = F 137 (723 + 4 * j + 0) := by unfold vw; rw [pos_l0 h, if_pos (by omega), Int.zero_add]
theorem pos_l1 {j : Int} (h : 0 ≤ j ∧ j < 24) : pos 1021 j = 723 + 4 * j + 1 := by show (if 0 ≤ j ∧ j < 24 then 723 + 4 * j + ((1021 : Int) - 1020) else -1) = _; rw [if_pos h]; rfl
theorem vw_l1 {F : Hp} {j : Int} (h : 0 ≤ j ∧ j < 24) : vw 0 F 1021 j = F 137 (723 + 4 * j + 1) := by unfold vw; rw [pos_l1 h, if_pos (by omega), Int.zero_add]
theorem pos_l2 {j : Int} (h : 0 ≤ j ∧ j < 24) : pos 1022 j = 723 + 4 * j + 2 := by show (if 0 ≤ j ∧ j < 24 then 723 + 4 * j + ((1022 : Int) - 1020) else -1) = _; rw [if_pos h]; rfl
theorem vw_l2 {F : Hp} {j : Int} (h : 0 ≤ j ∧ j < 24) : vw 0 F 1022 j = F 137 (723 + 4 * j + 2) := by unfold vw; rw [pos_l2 h, if_pos (by omega), Int.zero_add]
theorem pos_l3 {j : Int} (h : 0 ≤ j ∧ j < 24) : pos 1023 j = 723 + 4 * j + 3 := by show (if 0 ≤ j ∧ j < 24 then 723 + 4 * j + ((1023 : Int) - 1020) else -1) = _; rw [if_pos h]; rfl
theorem vw_l3 {F : Hp} {j : Int} (h : 0 ≤ j ∧ j < 24) : vw 0 F 1023 j = F 137 (723 + 4 * j + 3) := by unfold vw; rw [pos_l3 h, if_pos (by omega), Int.zero_add]
theorem vw_t {F : Hp} : vw 0 F 1000 1 = F 137 0 := rfl
theorem vu_t {F : Hp} {x : Int} : vw 0 (up F 137 0 x) = up (vw 0 F) 1000 1 x := vw_up (o := 0) (r := 1000) (n := 1) (by decide)
theorem vw_x {F : Hp} : vw 0 F 1008 4 = F 137 1 := rfl
theorem vu_x {F : Hp} {x : Int} : vw 0 (up F 137 1 x) = up (vw 0 F) 1008 4 x := vw_up (o := 0) (r := 1008) (n := 4) (by decide)
theorem vw_c {F : Hp} : vw 0 F 1019 0 = F 137 2 := rfl
theorem vu_c {F : Hp} {x : Int} : vw 0 (up F 137 2 x) = up (vw 0 F) 1019 0 x := vw_up (o := 0) (r := 1019) (n := 0) (by decide)
theorem vw_1102 {o : Int} {F : Hp} : vw o F 1102 = F 141 := by funext i; rw [vw_su (by decide)]; rfl
theorem vw_1107 {o : Int} {F : Hp} : vw o F 1107 = F 142 := by funext i; rw [vw_su (by decide)]; rfl
theorem vw_1108 {o : Int} {F : Hp} : vw o F 1108 = F 143 := by funext i; rw [vw_su (by decide)]; rfl
theorem vw_1110 {o : Int} {F : Hp} : vw o F 1110 = F 144 := by funext i; rw [vw_su (by decide)]; rfl
theorem vw_1111 {o : Int} {F : Hp} : vw o F 1111 = F 145 := by funext i; rw [vw_su (by decide)]; rfl
theorem vw_1113 {o : Int} {F : Hp} : vw o F 1113 = F 150 := by funext i; rw [vw_su (by decide)]; rfl
theorem vw_1114 {o : Int} {F : Hp} : vw o F 1114 = F 151 := by funext i; rw [vw_su (by decide)]; rfl
theorem vw_1115 {o : Int} {F : Hp} : vw o F 1115 = F 152 := by funext i; rw [vw_su (by decide)]; rfl
theorem vw_1116 {o : Int} {F : Hp} : vw o F 1116 = F 153 := by funext i; rw [vw_su (by decide)]; rfl
theorem vw_1103 {o : Int} {F : Hp} : vw o F 1103 = dptF (F 141) 13 := by funext i; rw [vw_su (by decide)]; rfl
theorem vw_1104 {o : Int} {F : Hp} : vw o F 1104 = chlC (F 141) (F 136 3) := by funext i; rw [vw_su (by decide)]; rfl
theorem vw_1101 {o : Int} {F : Hp} : vw o F 1101 = fun i => cvN (F 139 i) := by funext i; rw [vw_su (by decide)]; rfl
theorem vw_1100_0 {o : Int} {F : Hp} : vw o F 1100 0 = F 136 3 := by rw [vw_su (by decide)]; rfl
theorem vw_1100_13 {o : Int} {F : Hp} : vw o F 1100 13 = F 136 4 := by rw [vw_su (by decide)]; rfl
theorem vw_1100_14 {o : Int} {F : Hp} : vw o F 1100 14 = F 136 5 := by rw [vw_su (by decide)]; rfl
theorem vw_1112_0 {o : Int} {F : Hp} : vw o F 1112 0 = F 136 38 := by rw [vw_su (by decide)]; rfl
