theorem Bd.tm {W F : Hp} (h : Bd W F) : Bd W (tmS F) := by
  have a : Bd W (tmA F) := h.mu.sc
  have b : Bd W (tmB F) := a.rn
  have c : Bd W (tmC F) := b.mu
  have d : Bd W (tmD F) := c.mu.sc
  have e : Bd W (tmE F) := d.mu.sc
  have g : Bd W (tmG F) := e.rn
  unfold tmS
  rw [if_neg g.1]
  exact g
theorem Bd.nd {W F : Hp} (h : Bd W F) : Bd W (ndS F) := by
  have a : Bd W (ndA F) := h.mu.sc
  have b : Bd W (ndB F) := a.mu
  have c : Bd W (ndC F) := b.mu
  unfold ndS
  rw [if_neg c.1]
  exact c
theorem sim_oth {v : Int} {W M F : Hp} (h : Ms v W M F) (h34 : M 3 4 = 0) (h17 : ¬ F 136 17 = 0) (hw : ¬ kwR F = 7 ∧ ¬ kwR F = 9 ∧ ¬ kwR F = 10 ∧ ¬ kwR F = 11) : Bd W (stmS F) := by
  have hf := h.2.2.2.2.1.f
  obtain ⟨-, -, k7, -, k9, k10, k11, -⟩ := kw_r (F := F) (fun z => (hf.2.2.2.2.1 z).1)
  have hc : takS v (scnS M) = (1, scnS M) := by
    unfold takS
    rw [scn_r (k := 3) (by decide), h34, if_pos rfl]
    unfold tkStm
    rw [hf.2.2.2.1, if_neg hw.1, if_neg hw.2.1, if_neg hw.2.2.1, if_neg hw.2.2.2]
  have hb : bdS F = tmS (mu (wdB 52 F) 1 F) := by
    unfold bdS
    rw [if_neg (fun z => hw.1 (k7.mp z)), if_neg (fun z => hw.2.1 (k9.mp z)), if_neg (fun z => hw.2.2.1 (k10.mp z))]
  have m : Bd W (mu (wdB 52 F) 1 F) := h.bad (fun z => hw.2.2.2 (k11.mp z)) (fun z => h17 z.1) (by rw [hc]; split <;> rfl) (by decide)
  have b : Bd W (bdS F) := by rw [hb]; exact m.tm
  exact b.mu.sc

