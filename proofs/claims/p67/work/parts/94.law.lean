/-! what the law's walk needs between its calls -/
theorem rl_drw {u v K t d x : Int} {F : Hp} (h : Rl u v K F t) (hd : 136 ≤ d ∧ d < t) : Rl u v K (up F d 0 x) t := h.fr (fun a q => up_r (by omega)) (fun a q1 q2 => up_r (by omega)) (fun a q1 q2 => up_r (by omega))
theorem trv_drw {t d x : Int} {F : Hp} (h : TrV F t) (hd : d < t) : TrV (up F d 0 x) t := h.fr2 (fun a q1 q2 => up_r (by omega))
theorem tq_drw {T : Shp} {t d x : Int} {F : Hp} (h : TQ T F t) (hd : d < t) : TQ T (up F d 0 x) t := h.fr (by rw [up_r (by omega)]) (fun a q => up_r (by omega))
theorem tq_snd {T : Shp} {t u leaf l c : Int} {F : Hp} (hp : 136 ≤ t) (h : TQ T F t) : TQ T (snT t leaf l c (sndS 40 u leaf l c F)) t := h.fr (by rw [snT_r (by omega), sndS_r (by omega)]) (fun a q => by rw [snT_r (by omega), sndS_r (by omega)])
theorem trv_sndS {t u leaf l c : Int} {F : Hp} (hp : 136 ≤ t) (h : TrV F t) : TrV (sndS 40 u leaf l c F) t := h.fr2 (fun a q1 q2 => sndS_r (by omega))
theorem lnT_sndS {t u leaf l c x y : Int} {F : Hp} (hp : 136 ≤ t) : lnT t (sndS 40 u leaf l c F) x y = lnT t F x y := by
  unfold lnT
  rw [sndS_r (a := t + 11) (by omega), sndS_r (a := t + 9) (by omega), sndS_r (a := t + 10) (by omega), sndS_r (a := t + 1) (by omega), sndS_r (a := t + 8) (by omega)]
/-- the newest entry of the log -/
theorem snd_log {u leaf l c t : Int} {F : Hp} (hp : 136 ≤ t) (hc : 0 ≤ F (40 + 19) 0) : 0 < snT t leaf l c (sndS 40 u leaf l c F) (40 + 19) 0 ∧ snT t leaf l c (sndS 40 u leaf l c F) (40 + 20) 0 = leaf ∧ snT t leaf l c (sndS 40 u leaf l c F) (40 + 21) 0 = c ∧ snT t leaf l c (sndS 40 u leaf l c F) (40 + 22) 0 = l ∧ snT t leaf l c (sndS 40 u leaf l c F) (40 + 23) 0 = F 40 1 := by
  rw [snT_r (by omega), snT_r (by omega), snT_r (by omega), snT_r (by omega), snT_r (by omega)]
  unfold sndS
  obtain ⟨e1, e2, e3, e4⟩ := lgS_k (b := 40) (lf := leaf) (co := c) (le := l) (ti := F 40 1) (F := cntS 40 leaf l c (payS 40 u leaf l c F)) (k := 0) (by omega)
  rw [if_pos rfl] at e1 e2 e3 e4
  rw [lgS_19, e1, e2, e3, e4, cntS_r (by omega), payS_r (by omega)]
  exact ⟨by omega, rfl, rfl, rfl, rfl⟩
theorem trv_tick {t : Int} {F : Hp} (h : TrV F t) (ht : F t 20 < 1000) : TrV (tkT t F) t := by
  have h1 := h.time ht
  have h2 : TrV (chT t (up F t 20 (F t 20 + 1))) t := by
    unfold chT
    split
    · exact h1.chg
    · exact h1
  have e : chT t (up F t 20 (F t 20 + 1)) t 0 = F t 0 := by
    unfold chT
    split
    · rw [up_k (by omega), up_i (by decide)]
    · rw [up_i (by decide)]
  have h3 := h2.rf
  rw [e] at h3
  exact h3
theorem tkT_t {t i : Int} {F : Hp} : tkT t F t i = if i = 20 then F t 20 + 1 else F t i := by
  unfold tkT chT
  rw [rfP_k (by omega) (by omega) (by omega)]
  have e : up F t 20 (F t 20 + 1) t i = if i = 20 then F t 20 + 1 else F t i := by
    by_cases c : i = 20
    · subst c
      rw [up_s, if_pos rfl]
    · rw [up_i c, if_neg c]
  split
  · rw [up_k (by omega)]; exact e
  · exact e
theorem tkT_r {t a : Int} {F : Hp} (h : a < t ∨ t + 16 < a) : tkT t F a = F a := by
  unfold tkT chT
  rw [rfP_kr (by omega) (by omega) (by omega)]
  split
  · rw [up_r (by omega), up_r (by omega)]
  · rw [up_r (by omega)]
theorem tq_tick {T : Shp} {t : Int} {F : Hp} (h : TQ T F t) : TQ T (tkT t F) t := h.fr (by rw [tkT_t, if_neg (by decide)]) (fun a q => tkT_r (by omega))
/-- a new tree -/
theorem it_v {F0 F : Hp} {t d : Int} (h : IT F0 F t d (F t 0)) : TrV F t ∧ TB0 F t ∧ F t 20 = 0 := by
  unfold IT at h
  obtain ⟨i1, i2, ⟨j0, j1, j2, j20, j22, j23, j24⟩, i4, i5, i6, i7⟩ := h
  refine ⟨⟨j0, j1, j2, i4, fun k k0 k1 => ?_, fun k k0 k1 => ?_, by omega, j22, j23, j24⟩, fun k k0 k1 => ?_, j20⟩
  · have := i5 k k0 k1
    omega
  · have a := i5 k k0 k1
    have b := i6 k k0 k1
    have c := i7 k
    omega
  · have b := i6 k k0 k1
    have c := i7 k
    exact ⟨b.1, c.1, b.2, c.2.1, c.2.2.1, c.2.2.2.1, c.2.2.2.2.1, c.2.2.2.2.2⟩
theorem il_q {T : Shp} {F : Hp} {t : Int} (hn : 1 ≤ F t 0) (h : IL T F t (F t 0)) : TQ T F t := ⟨(h.2.1 hn).1, (h.2.1 hn).2.1, h.2.2⟩

