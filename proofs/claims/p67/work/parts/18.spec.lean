
theorem payS_7 {b u leaf l c n : Int} {F : Hp} : payS b u leaf l c F (b + 7) n = if onP (F (u + 2)) 13 leaf n = true then F (b + 7) n - c else F (b + 7) n := by
  unfold payS
  by_cases o : onP (F (u + 2)) 13 leaf n = true
  · rw [if_pos ⟨rfl, o⟩, if_pos o]
  · rw [if_neg (fun z => o z.2), if_neg (by omega), if_neg (by omega), if_neg o]
theorem payS_5 {b u leaf l c n : Int} {F : Hp} : payS b u leaf l c F (b + 5) n = if onP (F (u + 2)) 13 leaf n = true ∧ n ≤ l then F (b + 5) n - min (F (b + 5) n) c else F (b + 5) n := by
  unfold payS
  by_cases o : onP (F (u + 2)) 13 leaf n = true ∧ n ≤ l
  · rw [if_neg (by omega), if_pos ⟨rfl, o⟩, if_pos o]
  · rw [if_neg (by omega), if_neg (fun z => o z.2), if_neg (by omega), if_neg o]
theorem payS_6 {b u leaf l c n : Int} {F : Hp} : payS b u leaf l c F (b + 6) n = if n = l then F (b + 6) n - (c - min (F (b + 5) l) c) else F (b + 6) n := by
  unfold payS
  by_cases o : n = l
  · rw [if_neg (by omega), if_neg (by omega), if_pos ⟨rfl, o⟩, if_pos o]
  · rw [if_neg (by omega), if_neg (by omega), if_neg (fun z => o z.2), if_neg o]
theorem AcI.pay {b u leaf l c : Int} {F : Hp} (hd : dj b u) (hb : 0 ≤ b) (h : AcI b u F) (hl : lOk b u F leaf l c) (hc : 1 ≤ c) : AcI b u (payS b u leaf l c F) := by
  intro n h0 h1
  rw [payS_r (a := u) (by omega)] at h1
  have k := h n h0 h1
  rw [payS_r (a := b + 1) (by omega), payS_r (a := b + 2) (by omega), payS_r (a := b + 3) (by omega), payS_r (a := u + 7) (by omega), payS_r (a := u + 8) (by omega), payS_5, payS_6, payS_7]
  have k2 := hl.2.2.2 n
  refine ⟨k.1, k.2.1, k.2.2.1, ?_, ?_, ?_⟩
  · split <;> omega
  · split
    · rename_i q; subst q; have := hl.2.2.1; omega
    · exact k.2.2.2.2.1
  · split
    · rename_i q; have := k2 q; omega
    · exact k.2.2.2.2.2
theorem AcI.rf {b u m : Int} {F : Hp} (hd : dj b u) (h : AcI b u F) (hS : SuI u F) (hm : 0 ≤ m ∧ m < F u 0) : AcI b u (rfS1 b u m F) := by
  intro n h0 h1
  rw [rfS1_r (a := u) (by omega)] at h1
  have k := h n h0 h1
  have km := h m hm.1 hm.2
  have kb := hS.2.2.2.2.2.2.1 m hm.1 hm.2
  rw [rfS1_r (a := b + 1) (by omega), rfS1_r (a := b + 2) (by omega), rfS1_r (a := b + 3) (by omega), rfS1_r (a := u + 7) (by omega), rfS1_r (a := u + 8) (by omega)]
  by_cases q : n = m
  · subst q
    unfold rfS1
    simp (disch := omega) only [up_k, up_s]
    omega
  · unfold rfS1
    simp (disch := omega) only [up_k, up_i]
    exact k
theorem SuI.rf {b u m : Int} {F : Hp} (hd : dj b u) (hS : SuI u F) : SuI u (rfS1 b u m F) := hS.fr fun a h1 h2 => rfS1_r (by omega)
theorem SuI.ref {b u : Int} {F : Hp} {k : Nat} (hd : dj b u) (hS : SuI u F) : SuI u (refS b u k F) := hS.fr fun a h1 h2 => refS_r (by omega) _ _
theorem AcI.ref {b u : Int} {F : Hp} (hd : dj b u) (h : AcI b u F) (hS : SuI u F) : ∀ k : Nat, (k : Int) ≤ F u 0 → AcI b u (refS b u k F)
  | 0, _ => h
  | k + 1, hk => by
    have k2 := AcI.ref hd h hS k (by omega)
    have e : refS b u k F u = F u := refS_r (by omega) _ _
    exact k2.rf hd (hS.ref hd) (by rw [e]; omega)
theorem SuI.ch {b u m : Int} {F : Hp} (hd : dj b u) (hS : SuI u F) : SuI u (chS1 b u m F) := hS.fr fun a h1 h2 => chS1_r (by omega)
theorem SuI.chg {b u : Int} {F : Hp} {k : Nat} (hd : dj b u) (hS : SuI u F) : SuI u (chgS b u k F) := hS.fr fun a h1 h2 => chgS_r (by omega) _ _
theorem AcI.ch {b u m : Int} {F : Hp} (hd : dj b u) (h : AcI b u F) (hS : SuI u F) (hm : 0 ≤ m ∧ m < F (u + 12) 0) : AcI b u (chS1 b u m F) := by
  intro n h0 h1
  rw [chS1_r (a := u) (by omega)] at h1
  have k := h n h0 h1
  have kc := hS.2.2.2.2.2.2.2.2.2.2.2 m hm.1 hm.2
  rw [chS1_r (a := b + 5) (by omega), chS1_r (a := b + 6) (by omega), chS1_r (a := b + 7) (by omega), chS1_r (a := u + 7) (by omega), chS1_r (a := u + 8) (by omega)]
  unfold chS1 plc
  split
  · by_cases q : n = F (u + 14) m
    · split
      · simp (disch := omega) only [up_k, ← q, up_s]; omega
      · split
        · simp (disch := omega) only [up_k, ← q, up_s]; omega
        · simp (disch := omega) only [up_k, ← q, up_s]; omega
    · split
      · simp (disch := omega) only [up_k, up_i]; exact k
      · split
        · simp (disch := omega) only [up_k, up_i]; exact k
        · simp (disch := omega) only [up_k, up_i]; exact k
  · exact k
theorem AcI.chg {b u : Int} {F : Hp} (hd : dj b u) (h : AcI b u F) (hS : SuI u F) : ∀ k : Nat, (k : Int) ≤ F (u + 12) 0 → AcI b u (chgS b u k F)
  | 0, _ => h
  | k + 1, hk => by
    have k2 := AcI.chg hd h hS k (by omega)
    have e : chgS b u k F (u + 12) = F (u + 12) := chgS_r (by omega) _ _
    exact k2.ch hd (hS.chg hd) (by rw [e]; omega)
theorem rmS_9 {b leaf n : Int} {F : Hp} : rmS b leaf F (b + 9) n = if n = leaf then F (b + 9) n - 1 else F (b + 9) n := by
  unfold rmS
  simp (disch := omega) only [cpy_k]
  by_cases q : n = leaf
  · subst q; rw [up_s, if_pos rfl]
  · rw [up_i q, if_neg q]
theorem rmS_c {b leaf n k c : Int} {F : Hp} (hc : c = 10 ∨ c = 11 ∨ c = 12) (hk : 0 ≤ k ∧ k < 16) : rmS b leaf F (b + c) (n * 16 + k) = if n = leaf ∧ k < 15 then F (b + c) (n * 16 + (k + 1)) else F (b + c) (n * 16 + k) := by
  unfold rmS
  rcases hc with rfl | rfl | rfl <;> (try simp (disch := omega) only [cpy_k]) <;>
  · by_cases q : n = leaf ∧ k < 15
    · obtain ⟨q1, q2⟩ := q
      subst q1
      rw [if_pos ⟨rfl, q2⟩, cpy_in (by omega) (by omega)]
      simp (disch := omega) only [cpy_k, up_k]
      congr 1
      omega
    · rw [if_neg q, cpy_out (by omega)]
      simp (disch := omega) only [cpy_k, up_k]
theorem QuI.rm {b u leaf : Int} {F : Hp} (hd : dj b u) (h : QuI b u F) (hl : 0 ≤ leaf ∧ leaf < F u 0) (hq : 1 ≤ F (b + 9) leaf) : QuI b u (rmS b leaf F) := by
  unfold QuI
  rw [rmS_r (a := b) (by omega), rmS_r (a := u) (by omega), rmS_r (a := u + 4) (by omega)]
  refine ⟨h.1, fun n h0 h1 => ?_, fun n h0 h1 k k0 k1 => ?_⟩
  · have k := h.2.1 n h0 h1
    rw [rmS_9]
    split
    · rename_i q; subst q; omega
    · exact k
  · have kk := h.2.1 n h0 h1
    rw [rmS_9] at k1
    have kl : k < 16 := by split at k1 <;> omega
    rw [rmS_c (by omega) (by omega), rmS_c (by omega) (by omega)]
    split
    · rename_i q
      rw [if_pos q.1] at k1
      exact h.2.2 n h0 h1 (k + 1) (by omega) (by omega)
    · exact h.2.2 n h0 h1 k k0 (by split at k1 <;> omega)
theorem putS_9 {b leaf cost time n : Int} {F : Hp} : putS b leaf cost time F (b + 9) n = if n = leaf then F (b + 9) n + 1 else F (b + 9) n := by
  unfold putS
  by_cases q : n = leaf
  · subst q; rw [up_k (by omega), up_s, if_pos rfl]
  · rw [up_k (by omega), up_i q, up_k (by omega), up_k (by omega), up_k (by omega), if_neg q]
theorem putS_c {b leaf cost time j : Int} {F : Hp} : putS b leaf cost time F (b + 10) j = (if j = leaf * 16 + F (b + 9) leaf then F (b + 8) 4 else F (b + 10) j) ∧ putS b leaf cost time F (b + 11) j = (if j = leaf * 16 + F (b + 9) leaf then cost else F (b + 11) j) ∧ putS b leaf cost time F (b + 12) j = (if j = leaf * 16 + F (b + 9) leaf then time else F (b + 12) j) := by
  unfold putS
  by_cases q : j = leaf * 16 + F (b + 9) leaf
  · subst q
    simp (disch := omega) only [up_k, up_s, if_true, and_self]
  · rw [if_neg q, if_neg q, if_neg q]
    simp (disch := omega) only [up_k, up_i, and_self]
theorem putS_r {b leaf cost time a : Int} {F : Hp} (h : a < b + 8 ∨ b + 12 < a) : putS b leaf cost time F a = F a := by
  unfold putS
  simp (disch := omega) only [up_r]
theorem QuI.put {b u leaf cost : Int} {F : Hp} (hd : dj b u) (h : QuI b u F) (hl : 0 ≤ leaf ∧ leaf < F u 0) (hc : 1 ≤ cost ∧ cost ≤ 99) (hq : F (b + 9) leaf < 16) (hcc : F (u + 4) leaf = 0) : QuI b u (putS b leaf cost (F b 1) F) := by
  have kl := h.2.1 leaf hl.1 hl.2
  have h01 := h.1
  unfold QuI
  rw [putS_r (a := b) (by omega), putS_r (a := u) (by omega), putS_r (a := u + 4) (by omega)]
  refine ⟨h.1, fun n h0 h1 => ?_, fun n h0 h1 k k0 k1 => ?_⟩
  · have k := h.2.1 n h0 h1
    rw [putS_9]
    split
    · rename_i q; subst q; exact ⟨by omega, fun z => absurd hcc z⟩
    · exact k
  · have kk := h.2.1 n h0 h1
    rw [putS_9] at k1
    rw [putS_c.2.1, putS_c.2.2]
    by_cases q : n = leaf ∧ k = F (b + 9) leaf
    · rw [if_pos (by rw [q.1, q.2]), if_pos (by rw [q.1, q.2])]
      omega
    · have k2 : k < F (b + 9) n := by
        split at k1
        · rename_i q2; subst q2; omega
        · exact k1
      rw [if_neg (by omega), if_neg (by omega)]
      exact h.2.2 n h0 h1 k k0 k2
theorem lgS_19 {b lf co le ti : Int} {F : Hp} : lgS b lf co le ti F (b + 19) 0 = min 24 (F (b + 19) 0 + 1) := by
  unfold lgS; rw [up_s]
theorem lgS_k {b lf co le ti k : Int} {F : Hp} (hk : 0 ≤ k ∧ k < 24) : lgS b lf co le ti F (b + 20) k = (if k = 0 then lf else F (b + 20) (k - 1)) ∧ lgS b lf co le ti F (b + 21) k = (if k = 0 then co else F (b + 21) (k - 1)) ∧ lgS b lf co le ti F (b + 22) k = (if k = 0 then le else F (b + 22) (k - 1)) ∧ lgS b lf co le ti F (b + 23) k = (if k = 0 then ti else F (b + 23) (k - 1)) := by
  unfold lgS
  by_cases q : k = 0
  · subst q
    simp (disch := omega) only [up_k, pf_k, pf_0, if_true, and_self]
  · rw [if_neg q, if_neg q, if_neg q, if_neg q]
    simp (disch := omega) only [up_k, pf_k, pf_s, and_self]
theorem LoI.lg {b lf co le : Int} {F : Hp} (h : LoI b F) (ht : 0 ≤ F b 1) (hc : 0 ≤ co ∧ co ≤ 99) : LoI b (lgS b lf co le (F b 1) F) := by
  unfold LoI
  rw [lgS_r (a := b) (by omega), lgS_19]
  have h1 := h.1
  refine ⟨by omega, fun k k0 k1 => ?_⟩
  obtain ⟨-, e2, -, e4⟩ := lgS_k (b := b) (lf := lf) (co := co) (le := le) (ti := F b 1) (F := F) (k := k) ⟨k0, by omega⟩
  rw [e2, e4]
  by_cases q : k = 0
  · rw [if_pos q, if_pos q]; omega
  · rw [if_neg q, if_neg q]; exact h.2 (k - 1) (by omega) (by omega)
theorem cntS_14 {b leaf l c n : Int} {F : Hp} : cntS b leaf l c F (b + 14) n = if n = leaf then F (b + 14) n + c else F (b + 14) n := by
  unfold cntS
  by_cases q : n = leaf
  · subst q
    split <;> simp (disch := omega) only [up_k, up_s, if_true]
  · split <;> simp (disch := omega) only [up_k, up_i, if_neg q]
/-! a whole state -/
def StA (b u K : Int) (F : Hp) : Prop := SuI u F ∧ AcI b u F ∧ QuI b u F ∧ LoI b F ∧ BdS b u K F
theorem sndS_14 {b u leaf l c n : Int} {F : Hp} : sndS b u leaf l c F (b + 14) n = if n = leaf then F (b + 14) n + c else F (b + 14) n := by
  unfold sndS
  rw [lgS_r (by omega), cntS_14, payS_r (by omega)]
theorem StA.snd {b u K leaf l c : Int} {F : Hp} (hd : dj b u) (hb : 0 ≤ b) (h : StA b u K F) (hl : lOk b u F leaf l c) (hlf : 0 ≤ leaf ∧ leaf < F u 0) (hc : 1 ≤ c ∧ c ≤ 99) : SuI u (sndS b u leaf l c F) ∧ AcI b u (sndS b u leaf l c F) ∧ QuI b u (sndS b u leaf l c F) ∧ LoI b (sndS b u leaf l c F) ∧ BdS b u (K + 99) (sndS b u leaf l c F) := by
  obtain ⟨h1, h2, h3, h4, h5⟩ := h
  refine ⟨h1.fr fun a h1 h2 => sndS_r (by omega), ?_, h3.fr (fun a h1 h2 => sndS_r (by omega)) (fun a h1 => sndS_r (by omega)), ?_, ?_⟩
  · refine (h2.pay hd hb hl hc.1).fr (fun a q1 q2 => ?_) (fun a q => ?_) <;>
    · unfold sndS
      rw [lgS_r (by omega), cntS_r (by omega)]
  · have e : LoI b (cntS b leaf l c (payS b u leaf l c F)) := h4.fr fun a q => by rw [cntS_r (by omega), payS_r (by omega)]
    have e2 : cntS b leaf l c (payS b u leaf l c F) b = F b := by rw [cntS_r (by omega), payS_r (by omega)]
    have e3 := e.lg (lf := leaf) (co := c) (le := l) (by rw [e2]; exact h3.1.1) (by omega)
    rw [e2] at e3
    exact e3
  · intro n q0 q1
    rw [sndS_r (a := u) (by omega)] at q1
    rw [sndS_14, sndS_r (a := b + 9) (by omega)]
    have := h5 n q0 q1
    split <;> omega
theorem StA.dis {b u K leaf l c : Int} {F : Hp} (hd : dj b u) (hb : 0 ≤ b) (h : StA b u K F) (hl : lOk b u F leaf l c) (hlf : 0 ≤ leaf ∧ leaf < F u 0) (hc : 1 ≤ c ∧ c ≤ 99) (hq : 1 ≤ F (b + 9) leaf) : StA b u K (rmS b leaf (sndS b u leaf l c F)) := by
  obtain ⟨h1, h2, h3, h4, h5⟩ := h.snd hd hb hl hlf hc
  have eu : sndS b u leaf l c F u = F u := sndS_r (by omega)
  have e9 : sndS b u leaf l c F (b + 9) = F (b + 9) := sndS_r (by omega)
  refine ⟨h1.fr fun a q1 q2 => rmS_r (by omega), h2.fr (fun a q1 q2 => rmS_r (by omega)) (fun a q => rmS_r (by omega)), h3.rm hd (by rw [eu]; exact hlf) (by rw [e9]; exact hq), h4.fr (fun a q => rmS_r (by omega)), ?_⟩
  intro n q0 q1
  rw [rmS_r (a := u) (by omega), eu] at q1
  rw [rmS_r (a := b + 14) (by omega), rmS_9, sndS_14, e9]
  have := h.2.2.2.2 n q0 q1
  split
  · rename_i q; subst q; omega
  · omega
theorem chlS_rng (b u : Int) (F : Hp) (hN : 0 ≤ F u 0) : chlS b u F = -2 ∨ (0 ≤ chlS b u F ∧ chlS b u F < F u 0 ∧ dstS b u F (chlS b u F) ≠ -2) := by
  have := choS_rng (dist := dstS b u F) (prec := precB (F (u + 10)) (F (b + 14)) (F (b + 3))) (F u 0).toNat
  unfold chlS
  omega
theorem dstS_ok {b u n : Int} {F : Hp} (hQ : QuI b u F) (h0 : 0 ≤ n) (h1 : n < F u 0) (h : dstS b u F n ≠ -2) : 1 ≤ F (b + 9) n ∧ lndS b u F n (F (b + 11) (n * 16)) ≠ -2 ∧ (1 ≤ F (b + 11) (n * 16) ∧ F (b + 11) (n * 16) ≤ 99) := by
  unfold dstS at h
  have k := hQ.2.1 n h0 h1
  split at h
  · exact absurd rfl h
  · split at h
    · exact absurd rfl h
    · rename_i q1 q2
      have := hQ.2.2 n h0 h1 0 (by omega) (by omega)
      rw [Int.add_zero] at this
      exact ⟨by omega, q2, this.1⟩
theorem StA.dsp {b u K : Int} (hd : dj b u) (hb : 0 ≤ b) : ∀ (k : Nat) (F : Hp), StA b u K F → StA b u K (dspS b u k F).2 ∧ 0 ≤ (dspS b u k F).1 ∧ (dspS b u k F).1 ≤ k
  | 0, F, h => ⟨h, by simp [dspS], by simp [dspS]⟩
  | k + 1, F, h => by
    have hr := chlS_rng b u F h.1.1.1
    unfold dspS
    split
    · exact ⟨h, by dsimp only; omega, by dsimp only; omega⟩
    · rename_i q
      have hr2 : 0 ≤ chlS b u F ∧ chlS b u F < F u 0 ∧ dstS b u F (chlS b u F) ≠ -2 := by omega
      have hk := dstS_ok h.2.2.1 hr2.1 hr2.2.1 hr2.2.2
      have hl := lndS_ok (b := b) h.1.2.1 hr2.2.1 hk.2.1
      have := StA.dsp hd hb k _ (h.dis hd hb hl ⟨hr2.1, hr2.2.1⟩ hk.2.2 hk.1)
      exact ⟨this.1, by dsimp only; omega, by dsimp only; omega⟩
theorem StA.tm {b u K : Int} {F : Hp} (hd : dj b u) (h : StA b u K F) (ht : F b 1 < 5000) : StA b u K (up F b 1 (F b 1 + 1)) := by
  obtain ⟨h1, h2, h3, h4, h5⟩ := h
  refine ⟨h1.fr fun a q1 q2 => up_r (by omega), h2.fr (fun a q1 q2 => up_r (by omega)) (fun a q => up_r (by omega)), ?_, ?_, h5.fr (fun a q1 q2 => up_r (by omega)) (fun a q => up_r (by omega))⟩
  · unfold QuI
    rw [up_s, up_r (a := u) (by omega), up_r (a := u + 4) (by omega), up_r (a := b + 9) (by omega), up_r (a := b + 11) (by omega), up_r (a := b + 12) (by omega)]
    have := h3.1
    refine ⟨by omega, h3.2.1, fun n q0 q1 k k0 k1 => ?_⟩
    have := h3.2.2 n q0 q1 k k0 k1
    omega
  · unfold LoI
    rw [up_s, up_r (a := b + 19) (by omega), up_r (a := b + 21) (by omega), up_r (a := b + 23) (by omega)]
    refine ⟨h4.1, fun k k0 k1 => ?_⟩
    have := h4.2 k k0 k1
    omega
theorem StA.chg {b u K : Int} {F : Hp} (hd : dj b u) (h : StA b u K F) : StA b u K (chgS b u (F (u + 12) 0).toNat F) := by
  obtain ⟨h1, h2, h3, h4, h5⟩ := h
  have hc := h1.2.2.2.2.2.2.2.2.2.2.1
  exact ⟨h1.chg hd, h2.chg hd h1 _ (by omega), h3.fr (fun a q1 q2 => chgS_r (by omega) _ _) (fun a q => chgS_r (by omega) _ _), h4.fr (fun a q => chgS_r (by omega) _ _), h5.fr (fun a q1 q2 => chgS_r (by omega) _ _) (fun a q => chgS_r (by omega) _ _)⟩
theorem StA.ref {b u K : Int} {F : Hp} (hd : dj b u) (h : StA b u K F) : StA b u K (refS b u (F u 0).toNat F) := by
  obtain ⟨h1, h2, h3, h4, h5⟩ := h
  have hc := h1.1
  exact ⟨h1.ref hd, h2.ref hd h1 _ (by omega), h3.fr (fun a q1 q2 => refS_r (by omega) _ _) (fun a q => refS_r (by omega) _ _), h4.fr (fun a q => refS_r (by omega) _ _), h5.fr (fun a q1 q2 => refS_r (by omega) _ _) (fun a q => refS_r (by omega) _ _)⟩
theorem oldF_t {b leaf age : Int} {F : Hp} (h : oldF b leaf age F = true) : 0 < F (b + 9) leaf ∧ age < F b 1 - F (b + 12) (leaf * 16) := of_decide_eq_true h
theorem oldF_f {b leaf age : Int} {F : Hp} (h : ¬ oldF b leaf age F = true) : ¬ (0 < F (b + 9) leaf ∧ age < F b 1 - F (b + 12) (leaf * 16)) := fun z => h (decide_eq_true z)
theorem StA.dr1 {b u K leaf : Int} {F : Hp} (hd : dj b u) (h : StA b u K F) (hl : 0 ≤ leaf ∧ leaf < F u 0) (hq : 1 ≤ F (b + 9) leaf) : StA b u K (up (rmS b leaf F) (b + 18) leaf (F (b + 18) leaf + 1)) := by
  obtain ⟨h1, h2, h3, h4, h5⟩ := h
  have key : ∀ a : Int, a ≠ b + 9 ∧ a ≠ b + 10 ∧ a ≠ b + 11 ∧ a ≠ b + 12 ∧ a ≠ b + 18 → up (rmS b leaf F) (b + 18) leaf (F (b + 18) leaf + 1) a = F a := fun a q => by rw [up_r (by omega), rmS_r (by omega)]
  have k2 : ∀ a : Int, a ≠ b + 18 → up (rmS b leaf F) (b + 18) leaf (F (b + 18) leaf + 1) a = rmS b leaf F a := fun a q => up_r (by omega)
  refine ⟨h1.fr fun a q1 q2 => key a (by omega), h2.fr (fun a q1 q2 => key a (by omega)) (fun a q => key a (by omega)), (h3.rm hd hl hq).fr (fun a q1 q2 => k2 a (by omega)) (fun a q => k2 a (by omega)), h4.fr (fun a q => key a (by omega)), ?_⟩
  intro n q0 q1
  rw [key u (by omega)] at q1
  rw [key (b + 14) (by omega), k2 (b + 9) (by omega), rmS_9]
  have := h5 n q0 q1
  split <;> omega
theorem StA.pdrp1 {b u K leaf : Int} (hd : dj b u) : ∀ (k : Nat) (F : Hp), StA b u K F → 0 ≤ leaf → leaf < F u 0 → StA b u K (drp1 b u leaf k F)
  | 0, F, h, _, _ => h
  | k + 1, F, h, h0, h1 => by
    unfold drp1
    split
    · rename_i q
      have q1 := oldF_t q
      exact StA.pdrp1 hd k _ (h.dr1 hd ⟨h0, h1⟩ (by omega)) h0 (by rw [up_r (by omega), rmS_r (by omega)]; exact h1)
    · exact h
theorem StA.pdrpS {b u K : Int} {F : Hp} (hd : dj b u) (h : StA b u K F) : ∀ (k : Nat), (k : Int) ≤ F u 0 → StA b u K (drpS b u k F)
  | 0, _ => h
  | k + 1, hk => by
    have e : drpS b u k F u = F u := drpS_r (by omega) _ _
    exact StA.pdrp1 hd 16 _ (StA.pdrpS hd h k (by omega)) (by omega) (by rw [e]; omega)
theorem StA.pdrpA {b u K : Int} {F : Hp} (hd : dj b u) (h : StA b u K F) : StA b u K (drpA b u F) := by
  unfold drpA
  split
  · exact h
  · have := h.1.1
    exact h.pdrpS hd _ (by omega)
theorem StA.ptikP {b u K : Int} {F : Hp} (hd : dj b u) (h : StA b u K F) (ht : F b 1 < 5000) : StA b u K (tikP b u F) := by
  have h1 := (h.tm hd ht).chg hd
  rw [up_r (a := u + 12) (by omega)] at h1
  have h2 := h1.ref hd
  rw [chgS_r (a := u) (by omega), up_r (a := u) (by omega)] at h2
  exact h2.pdrpA hd
theorem StA.tik {b u K : Int} {F : Hp} (hd : dj b u) (hb : 0 ≤ b) (h : StA b u K F) (ht : F b 1 < 5000) : StA b u K (tikS b u F).2 ∧ 0 ≤ (tikS b u F).1 ∧ (tikS b u F).1 ≤ 99 := by
  have h1 := h.1.2.2.2.2.2.2.2.2.1
  have h2 := StA.dsp hd hb (F u 13).toNat _ (h.ptikP hd ht)
  exact ⟨h2.1, h2.2.1, by have := h2.2.2; unfold tikS; omega⟩
theorem tikS_t {b u : Int} {F : Hp} : (tikS b u F).2 b 1 = F b 1 + 1 := by
  unfold tikS tikP
  rw [dspS_r (by omega), drpA_r (by omega), refS_r (by omega), chgS_r (by omega), up_s]
theorem StA.tks {b u K : Int} {F : Hp} (hd : dj b u) (hb : 0 ≤ b) (h : StA b u K F) : ∀ (k : Nat), F b 1 + k ≤ 5000 → StA b u K (tksS b u k F).2 ∧ (tksS b u k F).2 b 1 = F b 1 + k ∧ 0 ≤ (tksS b u k F).1 ∧ (tksS b u k F).1 ≤ 99 * k
  | 0, _ => ⟨h, by simp [tksS], by simp [tksS], by simp [tksS]⟩
  | k + 1, hk => by
    have q := StA.tks hd hb h k (by omega)
    have q2 := q.1.tik hd hb (by omega)
    unfold tksS
    dsimp only
    exact ⟨q2.1, by rw [tikS_t]; omega, by omega, by omega⟩
