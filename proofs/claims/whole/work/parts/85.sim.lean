/-! words -/
abbrev WdR (w : Int) : Prop := 0 < w ∧ ¬ w % 32 = 0 ∧ LtW w
theorem pw_inj {w x : Int} (hw : ¬ w % 32 = 0) (hx : ¬ x % 32 = 0) : ∀ a b : Nat, w * ((32 ^ a : Nat) : Int) = x * ((32 ^ b : Nat) : Int) → w = x
  | 0, 0, h => by simpa using h
  | 0, b + 1, h => by
    rw [p32_s, ← Int.mul_assoc] at h
    have : w = x * ((32 ^ b : Nat) : Int) * 32 := by simpa using h
    omega
  | a + 1, 0, h => by
    rw [p32_s, ← Int.mul_assoc] at h
    have : w * ((32 ^ a : Nat) : Int) * 32 = x := by simpa using h
    omega
  | a + 1, b + 1, h => by
    rw [p32_s, p32_s, ← Int.mul_assoc, ← Int.mul_assoc] at h
    exact pw_inj hw hx a b (by omega)
theorem cv_inj {w x : Int} (hw : WdR w) (hx : WdR x) (h : cvN w = cvN x) : w = x := pw_inj hw.2.1 hx.2.1 _ _ h
def CW (k : Nat) : Int := ([591493, 3398837703, 2804340, 119705908, 777297172, 569401484953, 1457605, 474245, 302, 12891444, 1253, 52] : List Int).getD k 0
theorem cw_ok : ∀ k, k < 12 → WdR (CW k) ∧ kwv k = cvN (CW k) ∧ kwS (kwv k) = (k : Int) := by decide +kernel
theorem kw_cv {w : Int} (hw : WdR w) : (∀ k : Nat, k < 12 → (kwS (cvN w) = (k : Int) ↔ w = CW k)) ∧ (kwS (cvN w) = -1 ∨ (0 ≤ kwS (cvN w) ∧ kwS (cvN w) < 12)) := by
  have hr := kwS_rng (cvN w)
  refine ⟨fun k hk => ⟨fun h => ?_, fun h => ?_⟩, by omega⟩
  · have o := cw_ok k hk
    have e : kwv (kwS (cvN w)).toNat = cvN w := by omega
    rw [h, Int.toNat_natCast, o.2.1] at e
    exact (cv_inj o.1 hw e).symm
  · have o := cw_ok k hk
    rw [h, ← o.2.1]
    exact o.2.2
theorem st_kw {F : Hp} (h1 : F 136 17 = 1) (hw : WdR (F 136 21)) : (stH F = if 0 ≤ kwS (cvN (F 136 21)) ∧ kwS (cvN (F 136 21)) ≤ 6 then kwS (cvN (F 136 21)) else -2) ∧ (nmB F ↔ kwS (cvN (F 136 21)) = -1) ∧ (wdB 474245 F ↔ kwS (cvN (F 136 21)) = 7) ∧ (wdB 302 F ↔ kwS (cvN (F 136 21)) = 8) ∧ (wdB 12891444 F ↔ kwS (cvN (F 136 21)) = 9) ∧ (wdB 1253 F ↔ kwS (cvN (F 136 21)) = 10) ∧ (wdB 52 F ↔ kwS (cvN (F 136 21)) = 11) := by
  obtain ⟨hk, hr⟩ := kw_cv hw
  have k0 : kwS (cvN (F 136 21)) = 0 ↔ F 136 21 = 591493 := hk 0 (by decide)
  have k1 : kwS (cvN (F 136 21)) = 1 ↔ F 136 21 = 3398837703 := hk 1 (by decide)
  have k2 : kwS (cvN (F 136 21)) = 2 ↔ F 136 21 = 2804340 := hk 2 (by decide)
  have k3 : kwS (cvN (F 136 21)) = 3 ↔ F 136 21 = 119705908 := hk 3 (by decide)
  have k4 : kwS (cvN (F 136 21)) = 4 ↔ F 136 21 = 777297172 := hk 4 (by decide)
  have k5 : kwS (cvN (F 136 21)) = 5 ↔ F 136 21 = 569401484953 := hk 5 (by decide)
  have k6 : kwS (cvN (F 136 21)) = 6 ↔ F 136 21 = 1457605 := hk 6 (by decide)
  have k7 : kwS (cvN (F 136 21)) = 7 ↔ F 136 21 = 474245 := hk 7 (by decide)
  have k8 : kwS (cvN (F 136 21)) = 8 ↔ F 136 21 = 302 := hk 8 (by decide)
  have k9 : kwS (cvN (F 136 21)) = 9 ↔ F 136 21 = 12891444 := hk 9 (by decide)
  have k10 : kwS (cvN (F 136 21)) = 10 ↔ F 136 21 = 1253 := hk 10 (by decide)
  have k11 : kwS (cvN (F 136 21)) = 11 ↔ F 136 21 = 52 := hk 11 (by decide)
  generalize kwS (cvN (F 136 21)) = q at *
  clear hk hw
  have hs : stH F = if 0 ≤ q ∧ q ≤ 6 then q else -2 := by
    unfold stH
    rw [if_neg (fun z => z h1)]
    repeat' split
    all_goals omega
  refine ⟨hs, ⟨fun z => ?_, fun z => ⟨h1, ?_, by omega, by omega, by omega, by omega, by omega⟩⟩, ?_, ?_, ?_, ?_, ?_⟩
  · obtain ⟨z1, z2, z3, z4, z5, z6, z7⟩ := z
    rw [hs] at z2
    split at z2 <;> omega
  · rw [hs, if_neg (by omega)]
  all_goals (unfold wdB; omega)

