/-! the law -/
theorem i32_rng (z : Int32) : I32 z.toInt := ⟨Int32.le_toInt z, by have := Int32.toInt_lt z; omega⟩
theorem vi_x (z : Int32) : vi z.toInt = .int z := by unfold vi; rw [Int32.ofInt_toInt]
section LR
variable {X : KX} {sh : Shp} {cs ss pc : Nat} {L : List (Option Value)} {st : List Value} {F : Hp} {Z : State → Prop} {own : String} {cc : ByteArray} {nL : Nat} {ret : Option FieldType} {fr lo mc ms : Nat}
theorem R_aload_0_any (hX : Ok X own cc nL ret fr lo mc ms) {T : List (Option Value)} {q : Nat} (hd : decode cc pc = .ok (.aload_n 0, 1)) (k : R X sh cs ss (pc + 1) (some (.ref q) :: T) (.ref q :: st) F Z) : R X sh cs ss pc (some (.ref q) :: T) st F Z := fun hz H locs ls hP hS hL => lv_aload_n hX.1 hX.2.1 hd rfl (hL.at (i := 0) rfl) (k hz H locs ls hP hS hL)
theorem R_sld (hX : Ok X own cc nL ret fr lo mc ms) {b N : Nat} {f : Nat → Int32} {i : Int} (hT : va_X b N f (xs X) (xs X).heap) (hb : b < (xs X).heap.size) (hA : ¬ AB (xV X) b) (hN : N < 2147483648) (hi : 0 ≤ i ∧ i < N) (hd : decode cc pc = .ok (.iaload, 1)) (kk : R X sh cs ss (pc + 1) L (vi (f i.toNat).toInt :: st) F Z) : R X sh cs ss pc L (vi i :: .ref b :: st) F Z := by
  intro hz H locs ls hP hS hL
  obtain ⟨h1, h2⟩ := ix_in (n := N) hi.1 hi.2 hN
  have e := kk hz H locs ls hP hS hL
  rw [vi_x] at e
  exact va_sld hX.1 hX.2.1 hT hb hA hS h1 hd (by rw [h2]; exact e)
theorem R_slen (hX : Ok X own cc nL ret fr lo mc ms) {b N : Nat} {f : Nat → Int32} (hT : va_X b N f (xs X) (xs X).heap) (hb : b < (xs X).heap.size) (hA : ¬ AB (xV X) b) (hd : decode cc pc = .ok (.arraylength, 1)) (kk : R X sh cs ss (pc + 1) L (vi (N : Int) :: st) F Z) : R X sh cs ss pc L (.ref b :: st) F Z :=
  fun hz H locs ls hP hS hL => va_slen hX.1 hX.2.1 hT hb hA hS hd (kk hz H locs ls hP hS hL)
theorem R_icmpeqS (hX : Ok X own cc nL ret fr lo mc ms) {x y : Int} {off : Int} {tgt : Nat} (hd : decode cc pc = .ok (.if_icmp .eq off, 3)) (ht : (pc : Int) + off = (tgt : Int)) (he : x = y) (kt : R X sh cs ss tgt L st F Z) : R X sh cs ss pc L (vi y :: vi x :: st) F Z := fun hz H locs ls hP hS hL => lv_icmp_eq hX.1 hX.2.1 hd ht (fun _ => kt hz H locs ls hP hS hL) (fun h => absurd (by rw [he]) h)
end LR
theorem Gl.nms {u v K : Int} {F : Hp} (h : Gl u v K F) : ∀ d : Int, 0 ≤ d → d < F 136 3 → 0 ≤ F 139 d ∧ F 139 d < 1099511627776 := fun d d0 d1 => by
  have a := h.2.2.2.2.1 d d0 (by rw [h.N]; exact d1)
  exact ⟨by have := a.1.1.1; omega, a.1.2⟩
theorem Gl.k138 {u v K : Int} {F : Hp} (h : Gl u v K F) : ∀ k : Int, 0 ≤ k → k ≤ 1 → F 138 k = 0 ∨ F 138 k = 1 := fun k k0 k1 => by
  have s := h.2.2.2.2.2.1
  have c := h.2.1.2.2.2.2.2.2
  have z : k = 0 ∨ k = 1 := by omega
  rcases z with z | z
  · rw [z, s.1]; exact c.1
  · rw [z, s.2.1]; exact c.2.1
/-- the law's frame: the script of Ln ints f at the cell b -/
def LwX (X : KX) (b Ln : Nat) (f : Nat → Int32) : Prop := Ok X RL cL_law 4 (some .boolean) 12 438 159 11283 ∧ va_X b Ln f (xs X) (xs X).heap ∧ b < (xs X).heap.size ∧ ¬ AB (xV X) b
abbrev LWl (X : KX) (b : Nat) (i : Int) : List (Option Value) := [some (.ref b), some (vr (xV X) 0), some (vr (xV X) 136), some (vi i)]
theorem lwc_0 {X : KX} {Z : State → Prop} {b Ln : Nat} {f : Nat → Int32} {i u v K : Int} {F : Hp} (hW : LwX X b Ln f) (hi : 0 ≤ i ∧ i + 6 ≤ Ln ∧ (Ln : Int) ≤ 3072) (h : Gl u v K F) (hK : 0 ≤ K ∧ K + 99 ≤ 100000) (hk : ∀ (u1 v1 : Int) (G : Hp), Gl u1 v1 (K + 99) G → R X SH 159 11283 1876 (LWl X b i) [] G Z) : R X SH 159 11283 304 (LWl X b i) [] F Z := by
  obtain ⟨hX, hs, hb, hbA⟩ := hW
  refine R_aload_1 hX dL_law_304 ?_
  refine R_aload_0_any hX dL_law_305 ?_
  refine R_iload_3 hX dL_law_306 ?_
  refine R_iconst hX dL_law_307 ?_
  refine R_iadd hX dL_law_308 ?_
  refine R_sld hX hs hb hbA (by omega) (by omega) dL_law_309 ?_
  refine R_aload_0_any hX dL_law_310 ?_
  refine R_iload_3 hX dL_law_311 ?_
  refine R_iconst hX dL_law_312 ?_
  refine R_iadd hX dL_law_313 ?_
  refine R_sld hX hs hb hbA (by omega) (by omega) dL_law_314 ?_
  refine R_aload_0_any hX dL_law_315 ?_
  refine R_iload_3 hX dL_law_316 ?_
  refine R_iconst hX dL_law_317 ?_
  refine R_iadd hX dL_law_318 ?_
  refine R_sld hX hs hb hbA (by omega) (by omega) dL_law_319 ?_
  refine R_aload_0_any hX dL_law_320 ?_
  refine R_iload_3 hX dL_law_321 ?_
  refine R_iconst hX dL_law_322 ?_
  refine R_iadd hX dL_law_323 ?_
  refine R_sld hX hs hb hbA (by omega) (by omega) dL_law_324 ?_
  refine R_aload_0_any hX dL_law_325 ?_
  refine R_iload_3 hX dL_law_326 ?_
  refine R_iconst hX dL_law_327 ?_
  refine R_iadd hX dL_law_328 ?_
  refine R_sld hX hs hb hbA (by omega) (by omega) dL_law_329 ?_
  refine R_v5i hX dL_law_330 li_L_13 mk_X11_feed mi_X11_feed rfl o_0 (c_feed h.2.1.2.2.2.2.1) ⟨⟨by decide, by decide⟩, by decide, by decide, rfl, Nat.le_of_ble_eq_true rfl, rfl⟩ (fun x1 F1 h1 => ?_)
  have hF1 : ∀ a : Int, 136 ≤ a → F1 a = F a := fun a z => by
    rcases h1 with ⟨-, -, e⟩ | ⟨-, -, e⟩
    · rw [e]
    · rw [e, apS_r (by omega), apS_r (by omega), apS_r (by omega), apS_r (by omega), apS_r (by omega)]
  have hR : RI K F1 := h.ri.lo hF1
  refine R_aload_2 hX dL_law_333 ?_
  refine R_aload_0_any hX dL_law_334 ?_
  refine R_iload_3 hX dL_law_335 ?_
  refine R_iconst hX dL_law_336 ?_
  refine R_iadd hX dL_law_337 ?_
  refine R_sld hX hs hb hbA (by omega) (by omega) dL_law_338 ?_
  refine R_aload_0_any hX dL_law_339 ?_
  refine R_iload_3 hX dL_law_340 ?_
  refine R_iconst hX dL_law_341 ?_
  refine R_iadd hX dL_law_342 ?_
  refine R_sld hX hs hb hbA (by omega) (by omega) dL_law_343 ?_
  refine R_aload_0_any hX dL_law_344 ?_
  refine R_iload_3 hX dL_law_345 ?_
  refine R_iconst hX dL_law_346 ?_
  refine R_iadd hX dL_law_347 ?_
  refine R_sld hX hs hb hbA (by omega) (by omega) dL_law_348 ?_
  refine R_aload_0_any hX dL_law_349 ?_
  refine R_iload_3 hX dL_law_350 ?_
  refine R_iconst hX dL_law_351 ?_
  refine R_iadd hX dL_law_352 ?_
  refine R_sld hX hs hb hbA (by omega) (by omega) dL_law_353 ?_
  refine R_aload_0_any hX dL_law_354 ?_
  refine R_iload_3 hX dL_law_355 ?_
  refine R_iconst hX dL_law_356 ?_
  refine R_iadd hX dL_law_357 ?_
  refine R_sld hX hs hb hbA (by omega) (by omega) dL_law_358 ?_
  refine R_v5i hX dL_law_359 li_L_17 mk_X12_feed mi_X12_feed rfl o_136 (r_feed (by rw [hF1 136 (by decide)]; exact h.2.2.2.2.2.2.1.2.1)) ⟨⟨by decide, by decide⟩, by decide, by decide, rfl, Nat.le_of_ble_eq_true rfl, rfl⟩ (fun x2 F2 h2 => ?_)
  have e := g_feed h h1 h2
  exact R_icmpeqS hX dL_law_362 (by decide) e.1 (hk u v _ (e.2.mono ⟨by omega, by omega⟩))
theorem lwc_1 {X : KX} {Z : State → Prop} {b Ln : Nat} {f : Nat → Int32} {i u v K : Int} {F : Hp} (hW : LwX X b Ln f) (hi : 0 ≤ i ∧ i + 6 ≤ Ln ∧ (Ln : Int) ≤ 3072) (h : Gl u v K F) (hK : 0 ≤ K ∧ K + 99 ≤ 100000) (hk : ∀ (u1 v1 : Int) (G : Hp), Gl u1 v1 (K + 99) G → R X SH 159 11283 1876 (LWl X b i) [] G Z) : R X SH 159 11283 367 (LWl X b i) [] F Z := by
  obtain ⟨hX, hs, hb, hbA⟩ := hW
  refine R_aload_1 hX dL_law_367 ?_
  refine R_aload_0_any hX dL_law_368 ?_
  refine R_iload_3 hX dL_law_369 ?_
  refine R_iconst hX dL_law_370 ?_
  refine R_iadd hX dL_law_371 ?_
  refine R_sld hX hs hb hbA (by omega) (by omega) dL_law_372 ?_
  refine R_v1i hX dL_law_373 li_L_18 mk_X11_truncate mi_X11_truncate rfl o_0 (c_truncate h.2.1.2.2.2.2.1 (i32_rng _)) ⟨⟨by decide, by decide⟩, by decide, by decide, rfl, Nat.le_of_ble_eq_true rfl, rfl⟩ (fun x1 F1 h1 => ?_)
  have hF1 : ∀ a : Int, 136 ≤ a → F1 a = F a := fun a z => by
    rcases h1 with ⟨-, -, e⟩ | ⟨-, -, e⟩
    · rw [e]
    · rw [e, up_r (by omega)]
  have hR : RI K F1 := h.ri.lo hF1
  refine R_aload_2 hX dL_law_376 ?_
  refine R_aload_0_any hX dL_law_377 ?_
  refine R_iload_3 hX dL_law_378 ?_
  refine R_iconst hX dL_law_379 ?_
  refine R_iadd hX dL_law_380 ?_
  refine R_sld hX hs hb hbA (by omega) (by omega) dL_law_381 ?_
  refine R_v1i hX dL_law_382 li_L_22 mk_X12_truncate mi_X12_truncate rfl o_136 (r_truncate (by rw [hF1 136 (by decide)]; exact h.2.2.2.2.2.2.1.2.1) (i32_rng _)) ⟨⟨by decide, by decide⟩, by decide, by decide, rfl, Nat.le_of_ble_eq_true rfl, rfl⟩ (fun x2 F2 h2 => ?_)
  have e := g_truncate h h1 h2
  exact R_icmpeqS hX dL_law_385 (by decide) e.1 (hk u v _ (e.2.mono ⟨by omega, by omega⟩))
theorem lwc_2 {X : KX} {Z : State → Prop} {b Ln : Nat} {f : Nat → Int32} {i u v K : Int} {F : Hp} (hW : LwX X b Ln f) (hi : 0 ≤ i ∧ i + 6 ≤ Ln ∧ (Ln : Int) ≤ 3072) (h : Gl u v K F) (hK : 0 ≤ K ∧ K + 99 ≤ 100000) (hk : ∀ (u1 v1 : Int) (G : Hp), Gl u1 v1 (K + 99) G → R X SH 159 11283 1876 (LWl X b i) [] G Z) : R X SH 159 11283 390 (LWl X b i) [] F Z := by
  obtain ⟨hX, hs, hb, hbA⟩ := hW
  refine R_aload_1 hX dL_law_390 ?_
  refine R_v0i hX dL_law_391 li_L_23 mk_X11_load mi_X11_load rfl o_0 (c_load h.1.1.1 h.1.1.2 h.2.1.1 h.2.1.2.1 h.2.1.2.2.2.2.1 h.2.1.2.2.2.2.2.1) ⟨⟨by decide, by decide⟩, by decide, by decide, rfl, Nat.le_of_ble_eq_true rfl, rfl⟩ (fun x1 F1 h1 => ?_)
  have hF1 : ∀ a : Int, 136 ≤ a → F1 a = F a := fun a z => by
    exact ldc_hi h.1.1.2 h1 a z
  have hR : RI K F1 := h.ri.lo hF1
  refine R_aload_2 hX dL_law_394 ?_
  refine R_v0i hX dL_law_395 li_L_27 mk_X12_load mi_X12_load rfl o_136 (r_load (pz_lo h.2.2.2.2.2.2.2.2 hF1) (ldc_6 h h1)) ⟨⟨by decide, by decide⟩, by decide, by decide, rfl, Nat.le_of_ble_eq_true rfl, rfl⟩ (fun x2 F2 h2 => ?_)
  obtain ⟨e1, u1, v1, e2⟩ := g_load h hK.1 h1 h2
  exact R_icmpeqS hX dL_law_398 (by decide) e1 (hk u1 v1 _ (e2.mono ⟨by omega, by omega⟩))
theorem lwc_3 {X : KX} {Z : State → Prop} {b Ln : Nat} {f : Nat → Int32} {i u v K : Int} {F : Hp} (hW : LwX X b Ln f) (hi : 0 ≤ i ∧ i + 6 ≤ Ln ∧ (Ln : Int) ≤ 3072) (h : Gl u v K F) (hK : 0 ≤ K ∧ K + 99 ≤ 100000) (hk : ∀ (u1 v1 : Int) (G : Hp), Gl u1 v1 (K + 99) G → R X SH 159 11283 1876 (LWl X b i) [] G Z) : R X SH 159 11283 403 (LWl X b i) [] F Z := by
  obtain ⟨hX, hs, hb, hbA⟩ := hW
  refine R_aload_1 hX dL_law_403 ?_
  refine R_v0i hX dL_law_404 li_L_28 mk_X11_faultCode mi_X11_faultCode rfl o_0 (c_faultCode rfl h.1.1.1 h.2.1) ⟨⟨by decide, by decide⟩, by decide, by decide, rfl, Nat.le_of_ble_eq_true rfl, rfl⟩ (fun x1 F1 h1 => ?_)
  have hF1 : ∀ a : Int, 136 ≤ a → F1 a = F a := fun a _ => by rw [h1.2]
  have hR : RI K F1 := h.ri.lo hF1
  refine R_aload_2 hX dL_law_407 ?_
  refine R_v0i hX dL_law_408 li_L_31 mk_X12_faultCode mi_X12_faultCode rfl o_136 (r_faultCode hR) ⟨⟨by decide, by decide⟩, by decide, by decide, rfl, Nat.le_of_ble_eq_true rfl, rfl⟩ (fun x2 F2 h2 => ?_)
  have e := g_faultCode h h1 h2
  exact R_icmpeqS hX dL_law_411 (by decide) e.1 (hk u v _ (e.2.mono ⟨by omega, by omega⟩))
theorem lwc_4 {X : KX} {Z : State → Prop} {b Ln : Nat} {f : Nat → Int32} {i u v K : Int} {F : Hp} (hW : LwX X b Ln f) (hi : 0 ≤ i ∧ i + 6 ≤ Ln ∧ (Ln : Int) ≤ 3072) (h : Gl u v K F) (hK : 0 ≤ K ∧ K + 99 ≤ 100000) (hk : ∀ (u1 v1 : Int) (G : Hp), Gl u1 v1 (K + 99) G → R X SH 159 11283 1876 (LWl X b i) [] G Z) : R X SH 159 11283 416 (LWl X b i) [] F Z := by
  obtain ⟨hX, hs, hb, hbA⟩ := hW
  refine R_aload_1 hX dL_law_416 ?_
  refine R_v0i hX dL_law_417 li_L_32 mk_X11_faultPosition mi_X11_faultPosition rfl o_0 (c_faultPosition rfl h.1.1.1 h.2.1) ⟨⟨by decide, by decide⟩, by decide, by decide, rfl, Nat.le_of_ble_eq_true rfl, rfl⟩ (fun x1 F1 h1 => ?_)
  have hF1 : ∀ a : Int, 136 ≤ a → F1 a = F a := fun a _ => by rw [h1.2]
  have hR : RI K F1 := h.ri.lo hF1
  refine R_aload_2 hX dL_law_420 ?_
  refine R_v0i hX dL_law_421 li_L_35 mk_X12_faultPosition mi_X12_faultPosition rfl o_136 (r_faultPosition hR) ⟨⟨by decide, by decide⟩, by decide, by decide, rfl, Nat.le_of_ble_eq_true rfl, rfl⟩ (fun x2 F2 h2 => ?_)
  have e := g_faultPosition h h1 h2
  exact R_icmpeqS hX dL_law_424 (by decide) e.1 (hk u v _ (e.2.mono ⟨by omega, by omega⟩))
theorem lwc_5 {X : KX} {Z : State → Prop} {b Ln : Nat} {f : Nat → Int32} {i u v K : Int} {F : Hp} (hW : LwX X b Ln f) (hi : 0 ≤ i ∧ i + 6 ≤ Ln ∧ (Ln : Int) ≤ 3072) (h : Gl u v K F) (hK : 0 ≤ K ∧ K + 99 ≤ 100000) (hk : ∀ (u1 v1 : Int) (G : Hp), Gl u1 v1 (K + 99) G → R X SH 159 11283 1876 (LWl X b i) [] G Z) : R X SH 159 11283 429 (LWl X b i) [] F Z := by
  obtain ⟨hX, hs, hb, hbA⟩ := hW
  refine R_aload_1 hX dL_law_429 ?_
  refine R_v0i hX dL_law_430 li_L_36 mk_X11_nodeCount mi_X11_nodeCount rfl o_0 (c_nodeCount rfl h.1.1.1 h.2.1) ⟨⟨by decide, by decide⟩, by decide, by decide, rfl, Nat.le_of_ble_eq_true rfl, rfl⟩ (fun x1 F1 h1 => ?_)
  have hF1 : ∀ a : Int, 136 ≤ a → F1 a = F a := fun a _ => by rw [h1.2]
  have hR : RI K F1 := h.ri.lo hF1
  refine R_aload_2 hX dL_law_433 ?_
  refine R_v0i hX dL_law_434 li_L_39 mk_X12_nodeCount mi_X12_nodeCount rfl o_136 (r_nodeCount hR) ⟨⟨by decide, by decide⟩, by decide, by decide, rfl, Nat.le_of_ble_eq_true rfl, rfl⟩ (fun x2 F2 h2 => ?_)
  have e := g_nodeCount h h1 h2
  exact R_icmpeqS hX dL_law_437 (by decide) e.1 (hk u v _ (e.2.mono ⟨by omega, by omega⟩))
theorem lwc_6 {X : KX} {Z : State → Prop} {b Ln : Nat} {f : Nat → Int32} {i u v K : Int} {F : Hp} (hW : LwX X b Ln f) (hi : 0 ≤ i ∧ i + 6 ≤ Ln ∧ (Ln : Int) ≤ 3072) (h : Gl u v K F) (hK : 0 ≤ K ∧ K + 99 ≤ 100000) (hk : ∀ (u1 v1 : Int) (G : Hp), Gl u1 v1 (K + 99) G → R X SH 159 11283 1876 (LWl X b i) [] G Z) : R X SH 159 11283 442 (LWl X b i) [] F Z := by
  obtain ⟨hX, hs, hb, hbA⟩ := hW
  refine R_aload_1 hX dL_law_442 ?_
  refine R_aload_0_any hX dL_law_443 ?_
  refine R_iload_3 hX dL_law_444 ?_
  refine R_iconst hX dL_law_445 ?_
  refine R_iadd hX dL_law_446 ?_
  refine R_sld hX hs hb hbA (by omega) (by omega) dL_law_447 ?_
  refine R_aload_0_any hX dL_law_448 ?_
  refine R_iload_3 hX dL_law_449 ?_
  refine R_iconst hX dL_law_450 ?_
  refine R_iadd hX dL_law_451 ?_
  refine R_sld hX hs hb hbA (by omega) (by omega) dL_law_452 ?_
  refine R_v2i hX dL_law_453 li_L_40 mk_X11_nameLetter mi_X11_nameLetter rfl o_0 (c_nameLetter rfl h.1.1.1 h.2.1 (i32_rng _) (i32_rng _)) ⟨⟨by decide, by decide⟩, by decide, by decide, rfl, Nat.le_of_ble_eq_true rfl, rfl⟩ (fun x1 F1 h1 => ?_)
  have hF1 : ∀ a : Int, 136 ≤ a → F1 a = F a := fun a _ => by rw [h1.2]
  have hR : RI K F1 := h.ri.lo hF1
  refine R_aload_2 hX dL_law_456 ?_
  refine R_aload_0_any hX dL_law_457 ?_
  refine R_iload_3 hX dL_law_458 ?_
  refine R_iconst hX dL_law_459 ?_
  refine R_iadd hX dL_law_460 ?_
  refine R_sld hX hs hb hbA (by omega) (by omega) dL_law_461 ?_
  refine R_aload_0_any hX dL_law_462 ?_
  refine R_iload_3 hX dL_law_463 ?_
  refine R_iconst hX dL_law_464 ?_
  refine R_iadd hX dL_law_465 ?_
  refine R_sld hX hs hb hbA (by omega) (by omega) dL_law_466 ?_
  refine R_v2i hX dL_law_467 li_L_44 mk_X12_nameLetter mi_X12_nameLetter rfl o_136 (r_nameLetter hR (by rw [hF1 136 (by decide), hF1 139 (by decide)]; exact h.nms) (i32_rng _) (i32_rng _)) ⟨⟨by decide, by decide⟩, by decide, by decide, rfl, Nat.le_of_ble_eq_true rfl, rfl⟩ (fun x2 F2 h2 => ?_)
  have e := g_nameLetter h h1 h2
  exact R_icmpeqS hX dL_law_470 (by decide) e.1 (hk u v _ (e.2.mono ⟨by omega, by omega⟩))
theorem lwc_7 {X : KX} {Z : State → Prop} {b Ln : Nat} {f : Nat → Int32} {i u v K : Int} {F : Hp} (hW : LwX X b Ln f) (hi : 0 ≤ i ∧ i + 6 ≤ Ln ∧ (Ln : Int) ≤ 3072) (h : Gl u v K F) (hK : 0 ≤ K ∧ K + 99 ≤ 100000) (hk : ∀ (u1 v1 : Int) (G : Hp), Gl u1 v1 (K + 99) G → R X SH 159 11283 1876 (LWl X b i) [] G Z) : R X SH 159 11283 475 (LWl X b i) [] F Z := by
  obtain ⟨hX, hs, hb, hbA⟩ := hW
  refine R_aload_1 hX dL_law_475 ?_
  refine R_aload_0_any hX dL_law_476 ?_
  refine R_iload_3 hX dL_law_477 ?_
  refine R_iconst hX dL_law_478 ?_
  refine R_iadd hX dL_law_479 ?_
  refine R_sld hX hs hb hbA (by omega) (by omega) dL_law_480 ?_
  refine R_v1i hX dL_law_481 li_L_45 mk_X11_parent mi_X11_parent rfl o_0 (c_parent rfl h.1.1.1 h.2.1 (i32_rng _)) ⟨⟨by decide, by decide⟩, by decide, by decide, rfl, Nat.le_of_ble_eq_true rfl, rfl⟩ (fun x1 F1 h1 => ?_)
  have hF1 : ∀ a : Int, 136 ≤ a → F1 a = F a := fun a _ => by rw [h1.2]
  have hR : RI K F1 := h.ri.lo hF1
  refine R_aload_2 hX dL_law_484 ?_
  refine R_aload_0_any hX dL_law_485 ?_
  refine R_iload_3 hX dL_law_486 ?_
  refine R_iconst hX dL_law_487 ?_
  refine R_iadd hX dL_law_488 ?_
  refine R_sld hX hs hb hbA (by omega) (by omega) dL_law_489 ?_
  refine R_v1i hX dL_law_490 li_L_48 mk_X12_parent mi_X12_parent rfl o_136 (r_parent hR (i32_rng _)) ⟨⟨by decide, by decide⟩, by decide, by decide, rfl, Nat.le_of_ble_eq_true rfl, rfl⟩ (fun x2 F2 h2 => ?_)
  have e := g_parent h h1 h2
  exact R_icmpeqS hX dL_law_493 (by decide) e.1 (hk u v _ (e.2.mono ⟨by omega, by omega⟩))
theorem lwc_8 {X : KX} {Z : State → Prop} {b Ln : Nat} {f : Nat → Int32} {i u v K : Int} {F : Hp} (hW : LwX X b Ln f) (hi : 0 ≤ i ∧ i + 6 ≤ Ln ∧ (Ln : Int) ≤ 3072) (h : Gl u v K F) (hK : 0 ≤ K ∧ K + 99 ≤ 100000) (hk : ∀ (u1 v1 : Int) (G : Hp), Gl u1 v1 (K + 99) G → R X SH 159 11283 1876 (LWl X b i) [] G Z) : R X SH 159 11283 498 (LWl X b i) [] F Z := by
  obtain ⟨hX, hs, hb, hbA⟩ := hW
  refine R_aload_1 hX dL_law_498 ?_
  refine R_aload_0_any hX dL_law_499 ?_
  refine R_iload_3 hX dL_law_500 ?_
  refine R_iconst hX dL_law_501 ?_
  refine R_iadd hX dL_law_502 ?_
  refine R_sld hX hs hb hbA (by omega) (by omega) dL_law_503 ?_
  refine R_aload_0_any hX dL_law_504 ?_
  refine R_iload_3 hX dL_law_505 ?_
  refine R_iconst hX dL_law_506 ?_
  refine R_iadd hX dL_law_507 ?_
  refine R_sld hX hs hb hbA (by omega) (by omega) dL_law_508 ?_
  refine R_v2i hX dL_law_509 li_L_49 mk_X11_child mi_X11_child rfl o_0 (c_child rfl h.1.1.1 h.2.1 (i32_rng _) (i32_rng _)) ⟨⟨by decide, by decide⟩, by decide, by decide, rfl, Nat.le_of_ble_eq_true rfl, rfl⟩ (fun x1 F1 h1 => ?_)
  have hF1 : ∀ a : Int, 136 ≤ a → F1 a = F a := fun a _ => by rw [h1.2]
  have hR : RI K F1 := h.ri.lo hF1
  refine R_aload_2 hX dL_law_512 ?_
  refine R_aload_0_any hX dL_law_513 ?_
  refine R_iload_3 hX dL_law_514 ?_
  refine R_iconst hX dL_law_515 ?_
  refine R_iadd hX dL_law_516 ?_
  refine R_sld hX hs hb hbA (by omega) (by omega) dL_law_517 ?_
  refine R_aload_0_any hX dL_law_518 ?_
  refine R_iload_3 hX dL_law_519 ?_
  refine R_iconst hX dL_law_520 ?_
  refine R_iadd hX dL_law_521 ?_
  refine R_sld hX hs hb hbA (by omega) (by omega) dL_law_522 ?_
  refine R_v2i hX dL_law_523 li_L_52 mk_X12_child mi_X12_child rfl o_136 (r_child hR (i32_rng _) (i32_rng _)) ⟨⟨by decide, by decide⟩, by decide, by decide, rfl, Nat.le_of_ble_eq_true rfl, rfl⟩ (fun x2 F2 h2 => ?_)
  have e := g_child h h1 h2
  exact R_icmpeqS hX dL_law_526 (by decide) e.1 (hk u v _ (e.2.mono ⟨by omega, by omega⟩))
theorem lwc_9 {X : KX} {Z : State → Prop} {b Ln : Nat} {f : Nat → Int32} {i u v K : Int} {F : Hp} (hW : LwX X b Ln f) (hi : 0 ≤ i ∧ i + 6 ≤ Ln ∧ (Ln : Int) ≤ 3072) (h : Gl u v K F) (hK : 0 ≤ K ∧ K + 99 ≤ 100000) (hk : ∀ (u1 v1 : Int) (G : Hp), Gl u1 v1 (K + 99) G → R X SH 159 11283 1876 (LWl X b i) [] G Z) : R X SH 159 11283 531 (LWl X b i) [] F Z := by
  obtain ⟨hX, hs, hb, hbA⟩ := hW
  refine R_aload_1 hX dL_law_531 ?_
  refine R_aload_0_any hX dL_law_532 ?_
  refine R_iload_3 hX dL_law_533 ?_
  refine R_iconst hX dL_law_534 ?_
  refine R_iadd hX dL_law_535 ?_
  refine R_sld hX hs hb hbA (by omega) (by omega) dL_law_536 ?_
  refine R_v1i hX dL_law_537 li_L_53 mk_X11_isLeaf mi_X11_isLeaf rfl o_0 (c_isLeaf rfl h.1.1.1 h.2.1 (i32_rng _)) ⟨⟨by decide, by decide⟩, by decide, by decide, rfl, Nat.le_of_ble_eq_true rfl, rfl⟩ (fun x1 F1 h1 => ?_)
  have hF1 : ∀ a : Int, 136 ≤ a → F1 a = F a := fun a _ => by rw [h1.2]
  have hR : RI K F1 := h.ri.lo hF1
  refine R_aload_2 hX dL_law_540 ?_
  refine R_aload_0_any hX dL_law_541 ?_
  refine R_iload_3 hX dL_law_542 ?_
  refine R_iconst hX dL_law_543 ?_
  refine R_iadd hX dL_law_544 ?_
  refine R_sld hX hs hb hbA (by omega) (by omega) dL_law_545 ?_
  refine R_v1i hX dL_law_546 li_L_57 mk_X12_isLeaf mi_X12_isLeaf rfl o_136 (r_isLeaf hR (i32_rng _)) ⟨⟨by decide, by decide⟩, by decide, by decide, rfl, Nat.le_of_ble_eq_true rfl, rfl⟩ (fun x2 F2 h2 => ?_)
  have e := g_isLeaf h h1 h2
  exact R_icmpeqS hX dL_law_549 (by decide) e.1 (hk u v _ (e.2.mono ⟨by omega, by omega⟩))
theorem lwc_10 {X : KX} {Z : State → Prop} {b Ln : Nat} {f : Nat → Int32} {i u v K : Int} {F : Hp} (hW : LwX X b Ln f) (hi : 0 ≤ i ∧ i + 6 ≤ Ln ∧ (Ln : Int) ≤ 3072) (h : Gl u v K F) (hK : 0 ≤ K ∧ K + 99 ≤ 100000) (hk : ∀ (u1 v1 : Int) (G : Hp), Gl u1 v1 (K + 99) G → R X SH 159 11283 1876 (LWl X b i) [] G Z) : R X SH 159 11283 554 (LWl X b i) [] F Z := by
  obtain ⟨hX, hs, hb, hbA⟩ := hW
  refine R_aload_1 hX dL_law_554 ?_
  refine R_aload_0_any hX dL_law_555 ?_
  refine R_iload_3 hX dL_law_556 ?_
  refine R_iconst hX dL_law_557 ?_
  refine R_iadd hX dL_law_558 ?_
  refine R_sld hX hs hb hbA (by omega) (by omega) dL_law_559 ?_
  refine R_v1i hX dL_law_560 li_L_58 mk_X11_depth mi_X11_depth rfl o_0 (c_depth rfl h.1.1.1 h.2.1 (i32_rng _)) ⟨⟨by decide, by decide⟩, by decide, by decide, rfl, Nat.le_of_ble_eq_true rfl, rfl⟩ (fun x1 F1 h1 => ?_)
  have hF1 : ∀ a : Int, 136 ≤ a → F1 a = F a := fun a _ => by rw [h1.2]
  have hR : RI K F1 := h.ri.lo hF1
  refine R_aload_2 hX dL_law_563 ?_
  refine R_aload_0_any hX dL_law_564 ?_
  refine R_iload_3 hX dL_law_565 ?_
  refine R_iconst hX dL_law_566 ?_
  refine R_iadd hX dL_law_567 ?_
  refine R_sld hX hs hb hbA (by omega) (by omega) dL_law_568 ?_
  refine R_v1i hX dL_law_569 li_L_61 mk_X12_depth mi_X12_depth rfl o_136 (r_depth hR (i32_rng _)) ⟨⟨by decide, by decide⟩, by decide, by decide, rfl, Nat.le_of_ble_eq_true rfl, rfl⟩ (fun x2 F2 h2 => ?_)
  have e := g_depth h h1 h2
  exact R_icmpeqS hX dL_law_572 (by decide) e.1 (hk u v _ (e.2.mono ⟨by omega, by omega⟩))
theorem lwc_11 {X : KX} {Z : State → Prop} {b Ln : Nat} {f : Nat → Int32} {i u v K : Int} {F : Hp} (hW : LwX X b Ln f) (hi : 0 ≤ i ∧ i + 6 ≤ Ln ∧ (Ln : Int) ≤ 3072) (h : Gl u v K F) (hK : 0 ≤ K ∧ K + 99 ≤ 100000) (hk : ∀ (u1 v1 : Int) (G : Hp), Gl u1 v1 (K + 99) G → R X SH 159 11283 1876 (LWl X b i) [] G Z) : R X SH 159 11283 577 (LWl X b i) [] F Z := by
  obtain ⟨hX, hs, hb, hbA⟩ := hW
  refine R_aload_1 hX dL_law_577 ?_
  refine R_aload_0_any hX dL_law_578 ?_
  refine R_iload_3 hX dL_law_579 ?_
  refine R_iconst hX dL_law_580 ?_
  refine R_iadd hX dL_law_581 ?_
  refine R_sld hX hs hb hbA (by omega) (by omega) dL_law_582 ?_
  refine R_v1i hX dL_law_583 li_L_62 mk_X11_rate mi_X11_rate rfl o_0 (c_rate rfl h.1.1.1 h.2.1 (i32_rng _)) ⟨⟨by decide, by decide⟩, by decide, by decide, rfl, Nat.le_of_ble_eq_true rfl, rfl⟩ (fun x1 F1 h1 => ?_)
  have hF1 : ∀ a : Int, 136 ≤ a → F1 a = F a := fun a _ => by rw [h1.2]
  have hR : RI K F1 := h.ri.lo hF1
  refine R_aload_2 hX dL_law_586 ?_
  refine R_aload_0_any hX dL_law_587 ?_
  refine R_iload_3 hX dL_law_588 ?_
  refine R_iconst hX dL_law_589 ?_
  refine R_iadd hX dL_law_590 ?_
  refine R_sld hX hs hb hbA (by omega) (by omega) dL_law_591 ?_
  refine R_v1i hX dL_law_592 li_L_65 mk_X12_rate mi_X12_rate rfl o_136 (r_rate hR (i32_rng _)) ⟨⟨by decide, by decide⟩, by decide, by decide, rfl, Nat.le_of_ble_eq_true rfl, rfl⟩ (fun x2 F2 h2 => ?_)
  have e := g_rate h h1 h2
  exact R_icmpeqS hX dL_law_595 (by decide) e.1 (hk u v _ (e.2.mono ⟨by omega, by omega⟩))
theorem lwc_12 {X : KX} {Z : State → Prop} {b Ln : Nat} {f : Nat → Int32} {i u v K : Int} {F : Hp} (hW : LwX X b Ln f) (hi : 0 ≤ i ∧ i + 6 ≤ Ln ∧ (Ln : Int) ≤ 3072) (h : Gl u v K F) (hK : 0 ≤ K ∧ K + 99 ≤ 100000) (hk : ∀ (u1 v1 : Int) (G : Hp), Gl u1 v1 (K + 99) G → R X SH 159 11283 1876 (LWl X b i) [] G Z) : R X SH 159 11283 600 (LWl X b i) [] F Z := by
  obtain ⟨hX, hs, hb, hbA⟩ := hW
  refine R_aload_1 hX dL_law_600 ?_
  refine R_aload_0_any hX dL_law_601 ?_
  refine R_iload_3 hX dL_law_602 ?_
  refine R_iconst hX dL_law_603 ?_
  refine R_iadd hX dL_law_604 ?_
  refine R_sld hX hs hb hbA (by omega) (by omega) dL_law_605 ?_
  refine R_v1i hX dL_law_606 li_L_66 mk_X11_ceiling mi_X11_ceiling rfl o_0 (c_ceiling rfl h.1.1.1 h.2.1 (i32_rng _)) ⟨⟨by decide, by decide⟩, by decide, by decide, rfl, Nat.le_of_ble_eq_true rfl, rfl⟩ (fun x1 F1 h1 => ?_)
  have hF1 : ∀ a : Int, 136 ≤ a → F1 a = F a := fun a _ => by rw [h1.2]
  have hR : RI K F1 := h.ri.lo hF1
  refine R_aload_2 hX dL_law_609 ?_
  refine R_aload_0_any hX dL_law_610 ?_
  refine R_iload_3 hX dL_law_611 ?_
  refine R_iconst hX dL_law_612 ?_
  refine R_iadd hX dL_law_613 ?_
  refine R_sld hX hs hb hbA (by omega) (by omega) dL_law_614 ?_
  refine R_v1i hX dL_law_615 li_L_69 mk_X12_ceiling mi_X12_ceiling rfl o_136 (r_ceiling hR (i32_rng _)) ⟨⟨by decide, by decide⟩, by decide, by decide, rfl, Nat.le_of_ble_eq_true rfl, rfl⟩ (fun x2 F2 h2 => ?_)
  have e := g_ceiling h h1 h2
  exact R_icmpeqS hX dL_law_618 (by decide) e.1 (hk u v _ (e.2.mono ⟨by omega, by omega⟩))
theorem lwc_13 {X : KX} {Z : State → Prop} {b Ln : Nat} {f : Nat → Int32} {i u v K : Int} {F : Hp} (hW : LwX X b Ln f) (hi : 0 ≤ i ∧ i + 6 ≤ Ln ∧ (Ln : Int) ≤ 3072) (h : Gl u v K F) (hK : 0 ≤ K ∧ K + 99 ≤ 100000) (hk : ∀ (u1 v1 : Int) (G : Hp), Gl u1 v1 (K + 99) G → R X SH 159 11283 1876 (LWl X b i) [] G Z) : R X SH 159 11283 623 (LWl X b i) [] F Z := by
  obtain ⟨hX, hs, hb, hbA⟩ := hW
  refine R_aload_1 hX dL_law_623 ?_
  refine R_aload_0_any hX dL_law_624 ?_
  refine R_iload_3 hX dL_law_625 ?_
  refine R_iconst hX dL_law_626 ?_
  refine R_iadd hX dL_law_627 ?_
  refine R_sld hX hs hb hbA (by omega) (by omega) dL_law_628 ?_
  refine R_v1i hX dL_law_629 li_L_70 mk_X11_burst mi_X11_burst rfl o_0 (c_burst rfl h.1.1.1 h.2.1 (i32_rng _)) ⟨⟨by decide, by decide⟩, by decide, by decide, rfl, Nat.le_of_ble_eq_true rfl, rfl⟩ (fun x1 F1 h1 => ?_)
  have hF1 : ∀ a : Int, 136 ≤ a → F1 a = F a := fun a _ => by rw [h1.2]
  have hR : RI K F1 := h.ri.lo hF1
  refine R_aload_2 hX dL_law_632 ?_
  refine R_aload_0_any hX dL_law_633 ?_
  refine R_iload_3 hX dL_law_634 ?_
  refine R_iconst hX dL_law_635 ?_
  refine R_iadd hX dL_law_636 ?_
  refine R_sld hX hs hb hbA (by omega) (by omega) dL_law_637 ?_
  refine R_v1i hX dL_law_638 li_L_73 mk_X12_burst mi_X12_burst rfl o_136 (r_burst hR (i32_rng _)) ⟨⟨by decide, by decide⟩, by decide, by decide, rfl, Nat.le_of_ble_eq_true rfl, rfl⟩ (fun x2 F2 h2 => ?_)
  have e := g_burst h h1 h2
  exact R_icmpeqS hX dL_law_641 (by decide) e.1 (hk u v _ (e.2.mono ⟨by omega, by omega⟩))
theorem lwc_14 {X : KX} {Z : State → Prop} {b Ln : Nat} {f : Nat → Int32} {i u v K : Int} {F : Hp} (hW : LwX X b Ln f) (hi : 0 ≤ i ∧ i + 6 ≤ Ln ∧ (Ln : Int) ≤ 3072) (h : Gl u v K F) (hK : 0 ≤ K ∧ K + 99 ≤ 100000) (hk : ∀ (u1 v1 : Int) (G : Hp), Gl u1 v1 (K + 99) G → R X SH 159 11283 1876 (LWl X b i) [] G Z) : R X SH 159 11283 646 (LWl X b i) [] F Z := by
  obtain ⟨hX, hs, hb, hbA⟩ := hW
  refine R_aload_1 hX dL_law_646 ?_
  refine R_aload_0_any hX dL_law_647 ?_
  refine R_iload_3 hX dL_law_648 ?_
  refine R_iconst hX dL_law_649 ?_
  refine R_iadd hX dL_law_650 ?_
  refine R_sld hX hs hb hbA (by omega) (by omega) dL_law_651 ?_
  refine R_v1i hX dL_law_652 li_L_74 mk_X11_creditLimit mi_X11_creditLimit rfl o_0 (c_creditLimit rfl h.1.1.1 h.2.1 (i32_rng _)) ⟨⟨by decide, by decide⟩, by decide, by decide, rfl, Nat.le_of_ble_eq_true rfl, rfl⟩ (fun x1 F1 h1 => ?_)
  have hF1 : ∀ a : Int, 136 ≤ a → F1 a = F a := fun a _ => by rw [h1.2]
  have hR : RI K F1 := h.ri.lo hF1
  refine R_aload_2 hX dL_law_655 ?_
  refine R_aload_0_any hX dL_law_656 ?_
  refine R_iload_3 hX dL_law_657 ?_
  refine R_iconst hX dL_law_658 ?_
  refine R_iadd hX dL_law_659 ?_
  refine R_sld hX hs hb hbA (by omega) (by omega) dL_law_660 ?_
  refine R_v1i hX dL_law_661 li_L_77 mk_X12_creditLimit mi_X12_creditLimit rfl o_136 (r_creditLimit hR (i32_rng _)) ⟨⟨by decide, by decide⟩, by decide, by decide, rfl, Nat.le_of_ble_eq_true rfl, rfl⟩ (fun x2 F2 h2 => ?_)
  have e := g_creditLimit h h1 h2
  exact R_icmpeqS hX dL_law_664 (by decide) e.1 (hk u v _ (e.2.mono ⟨by omega, by omega⟩))
theorem lwc_15 {X : KX} {Z : State → Prop} {b Ln : Nat} {f : Nat → Int32} {i u v K : Int} {F : Hp} (hW : LwX X b Ln f) (hi : 0 ≤ i ∧ i + 6 ≤ Ln ∧ (Ln : Int) ≤ 3072) (h : Gl u v K F) (hK : 0 ≤ K ∧ K + 99 ≤ 100000) (hk : ∀ (u1 v1 : Int) (G : Hp), Gl u1 v1 (K + 99) G → R X SH 159 11283 1876 (LWl X b i) [] G Z) : R X SH 159 11283 669 (LWl X b i) [] F Z := by
  obtain ⟨hX, hs, hb, hbA⟩ := hW
  refine R_aload_1 hX dL_law_669 ?_
  refine R_aload_0_any hX dL_law_670 ?_
  refine R_iload_3 hX dL_law_671 ?_
  refine R_iconst hX dL_law_672 ?_
  refine R_iadd hX dL_law_673 ?_
  refine R_sld hX hs hb hbA (by omega) (by omega) dL_law_674 ?_
  refine R_v1i hX dL_law_675 li_L_78 mk_X11_weight mi_X11_weight rfl o_0 (c_weight rfl h.1.1.1 h.2.1 (i32_rng _)) ⟨⟨by decide, by decide⟩, by decide, by decide, rfl, Nat.le_of_ble_eq_true rfl, rfl⟩ (fun x1 F1 h1 => ?_)
  have hF1 : ∀ a : Int, 136 ≤ a → F1 a = F a := fun a _ => by rw [h1.2]
  have hR : RI K F1 := h.ri.lo hF1
  refine R_aload_2 hX dL_law_678 ?_
  refine R_aload_0_any hX dL_law_679 ?_
  refine R_iload_3 hX dL_law_680 ?_
  refine R_iconst hX dL_law_681 ?_
  refine R_iadd hX dL_law_682 ?_
  refine R_sld hX hs hb hbA (by omega) (by omega) dL_law_683 ?_
  refine R_v1i hX dL_law_684 li_L_81 mk_X12_weight mi_X12_weight rfl o_136 (r_weight hR (i32_rng _)) ⟨⟨by decide, by decide⟩, by decide, by decide, rfl, Nat.le_of_ble_eq_true rfl, rfl⟩ (fun x2 F2 h2 => ?_)
  have e := g_weight h h1 h2
  exact R_icmpeqS hX dL_law_687 (by decide) e.1 (hk u v _ (e.2.mono ⟨by omega, by omega⟩))
theorem lwc_16 {X : KX} {Z : State → Prop} {b Ln : Nat} {f : Nat → Int32} {i u v K : Int} {F : Hp} (hW : LwX X b Ln f) (hi : 0 ≤ i ∧ i + 6 ≤ Ln ∧ (Ln : Int) ≤ 3072) (h : Gl u v K F) (hK : 0 ≤ K ∧ K + 99 ≤ 100000) (hk : ∀ (u1 v1 : Int) (G : Hp), Gl u1 v1 (K + 99) G → R X SH 159 11283 1876 (LWl X b i) [] G Z) : R X SH 159 11283 692 (LWl X b i) [] F Z := by
  obtain ⟨hX, hs, hb, hbA⟩ := hW
  refine R_aload_1 hX dL_law_692 ?_
  refine R_aload_0_any hX dL_law_693 ?_
  refine R_iload_3 hX dL_law_694 ?_
  refine R_iconst hX dL_law_695 ?_
  refine R_iadd hX dL_law_696 ?_
  refine R_sld hX hs hb hbA (by omega) (by omega) dL_law_697 ?_
  refine R_v1i hX dL_law_698 li_L_82 mk_X11_priority mi_X11_priority rfl o_0 (c_priority rfl h.1.1.1 h.2.1 (i32_rng _)) ⟨⟨by decide, by decide⟩, by decide, by decide, rfl, Nat.le_of_ble_eq_true rfl, rfl⟩ (fun x1 F1 h1 => ?_)
  have hF1 : ∀ a : Int, 136 ≤ a → F1 a = F a := fun a _ => by rw [h1.2]
  have hR : RI K F1 := h.ri.lo hF1
  refine R_aload_2 hX dL_law_701 ?_
  refine R_aload_0_any hX dL_law_702 ?_
  refine R_iload_3 hX dL_law_703 ?_
  refine R_iconst hX dL_law_704 ?_
  refine R_iadd hX dL_law_705 ?_
  refine R_sld hX hs hb hbA (by omega) (by omega) dL_law_706 ?_
  refine R_v1i hX dL_law_707 li_L_85 mk_X12_priority mi_X12_priority rfl o_136 (r_priority hR (i32_rng _)) ⟨⟨by decide, by decide⟩, by decide, by decide, rfl, Nat.le_of_ble_eq_true rfl, rfl⟩ (fun x2 F2 h2 => ?_)
  have e := g_priority h h1 h2
  exact R_icmpeqS hX dL_law_710 (by decide) e.1 (hk u v _ (e.2.mono ⟨by omega, by omega⟩))
theorem lwc_17 {X : KX} {Z : State → Prop} {b Ln : Nat} {f : Nat → Int32} {i u v K : Int} {F : Hp} (hW : LwX X b Ln f) (hi : 0 ≤ i ∧ i + 6 ≤ Ln ∧ (Ln : Int) ≤ 3072) (h : Gl u v K F) (hK : 0 ≤ K ∧ K + 99 ≤ 100000) (hk : ∀ (u1 v1 : Int) (G : Hp), Gl u1 v1 (K + 99) G → R X SH 159 11283 1876 (LWl X b i) [] G Z) : R X SH 159 11283 715 (LWl X b i) [] F Z := by
  obtain ⟨hX, hs, hb, hbA⟩ := hW
  refine R_aload_1 hX dL_law_715 ?_
  refine R_aload_0_any hX dL_law_716 ?_
  refine R_iload_3 hX dL_law_717 ?_
  refine R_iconst hX dL_law_718 ?_
  refine R_iadd hX dL_law_719 ?_
  refine R_sld hX hs hb hbA (by omega) (by omega) dL_law_720 ?_
  refine R_v1i hX dL_law_721 li_L_86 mk_X11_mayBorrow mi_X11_mayBorrow rfl o_0 (c_mayBorrow rfl h.1.1.1 h.2.1 (i32_rng _)) ⟨⟨by decide, by decide⟩, by decide, by decide, rfl, Nat.le_of_ble_eq_true rfl, rfl⟩ (fun x1 F1 h1 => ?_)
  have hF1 : ∀ a : Int, 136 ≤ a → F1 a = F a := fun a _ => by rw [h1.2]
  have hR : RI K F1 := h.ri.lo hF1
  refine R_aload_2 hX dL_law_724 ?_
  refine R_aload_0_any hX dL_law_725 ?_
  refine R_iload_3 hX dL_law_726 ?_
  refine R_iconst hX dL_law_727 ?_
  refine R_iadd hX dL_law_728 ?_
  refine R_sld hX hs hb hbA (by omega) (by omega) dL_law_729 ?_
  refine R_v1i hX dL_law_730 li_L_89 mk_X12_mayBorrow mi_X12_mayBorrow rfl o_136 (r_mayBorrow hR (i32_rng _)) ⟨⟨by decide, by decide⟩, by decide, by decide, rfl, Nat.le_of_ble_eq_true rfl, rfl⟩ (fun x2 F2 h2 => ?_)
  have e := g_mayBorrow h h1 h2
  exact R_icmpeqS hX dL_law_733 (by decide) e.1 (hk u v _ (e.2.mono ⟨by omega, by omega⟩))
theorem lwc_18 {X : KX} {Z : State → Prop} {b Ln : Nat} {f : Nat → Int32} {i u v K : Int} {F : Hp} (hW : LwX X b Ln f) (hi : 0 ≤ i ∧ i + 6 ≤ Ln ∧ (Ln : Int) ≤ 3072) (h : Gl u v K F) (hK : 0 ≤ K ∧ K + 99 ≤ 100000) (hk : ∀ (u1 v1 : Int) (G : Hp), Gl u1 v1 (K + 99) G → R X SH 159 11283 1876 (LWl X b i) [] G Z) : R X SH 159 11283 738 (LWl X b i) [] F Z := by
  obtain ⟨hX, hs, hb, hbA⟩ := hW
  refine R_aload_1 hX dL_law_738 ?_
  refine R_aload_0_any hX dL_law_739 ?_
  refine R_iload_3 hX dL_law_740 ?_
  refine R_iconst hX dL_law_741 ?_
  refine R_iadd hX dL_law_742 ?_
  refine R_sld hX hs hb hbA (by omega) (by omega) dL_law_743 ?_
  refine R_v1i hX dL_law_744 li_L_90 mk_X11_isOversubscribed mi_X11_isOversubscribed rfl o_0 (c_isOversubscribed rfl h.1.1.1 h.2.1 (i32_rng _)) ⟨⟨by decide, by decide⟩, by decide, by decide, rfl, Nat.le_of_ble_eq_true rfl, rfl⟩ (fun x1 F1 h1 => ?_)
  have hF1 : ∀ a : Int, 136 ≤ a → F1 a = F a := fun a _ => by rw [h1.2]
  have hR : RI K F1 := h.ri.lo hF1
  refine R_aload_2 hX dL_law_747 ?_
  refine R_aload_0_any hX dL_law_748 ?_
  refine R_iload_3 hX dL_law_749 ?_
  refine R_iconst hX dL_law_750 ?_
  refine R_iadd hX dL_law_751 ?_
  refine R_sld hX hs hb hbA (by omega) (by omega) dL_law_752 ?_
  refine R_v1i hX dL_law_753 li_L_93 mk_X12_isOversubscribed mi_X12_isOversubscribed rfl o_136 (r_isOversubscribed hR (i32_rng _)) ⟨⟨by decide, by decide⟩, by decide, by decide, rfl, Nat.le_of_ble_eq_true rfl, rfl⟩ (fun x2 F2 h2 => ?_)
  have e := g_isOversubscribed h h1 h2
  exact R_icmpeqS hX dL_law_756 (by decide) e.1 (hk u v _ (e.2.mono ⟨by omega, by omega⟩))
theorem lwc_19 {X : KX} {Z : State → Prop} {b Ln : Nat} {f : Nat → Int32} {i u v K : Int} {F : Hp} (hW : LwX X b Ln f) (hi : 0 ≤ i ∧ i + 6 ≤ Ln ∧ (Ln : Int) ≤ 3072) (h : Gl u v K F) (hK : 0 ≤ K ∧ K + 99 ≤ 100000) (hk : ∀ (u1 v1 : Int) (G : Hp), Gl u1 v1 (K + 99) G → R X SH 159 11283 1876 (LWl X b i) [] G Z) : R X SH 159 11283 761 (LWl X b i) [] F Z := by
  obtain ⟨hX, hs, hb, hbA⟩ := hW
  refine R_aload_1 hX dL_law_761 ?_
  refine R_aload_0_any hX dL_law_762 ?_
  refine R_iload_3 hX dL_law_763 ?_
  refine R_iconst hX dL_law_764 ?_
  refine R_iadd hX dL_law_765 ?_
  refine R_sld hX hs hb hbA (by omega) (by omega) dL_law_766 ?_
  refine R_v1i hX dL_law_767 li_L_94 mk_X11_pathCeiling mi_X11_pathCeiling rfl o_0 (c_pathCeiling rfl h.1.1.1 h.2.1 (i32_rng _)) ⟨⟨by decide, by decide⟩, by decide, by decide, rfl, Nat.le_of_ble_eq_true rfl, rfl⟩ (fun x1 F1 h1 => ?_)
  have hF1 : ∀ a : Int, 136 ≤ a → F1 a = F a := fun a _ => by rw [h1.2]
  have hR : RI K F1 := h.ri.lo hF1
  refine R_aload_2 hX dL_law_770 ?_
  refine R_aload_0_any hX dL_law_771 ?_
  refine R_iload_3 hX dL_law_772 ?_
  refine R_iconst hX dL_law_773 ?_
  refine R_iadd hX dL_law_774 ?_
  refine R_sld hX hs hb hbA (by omega) (by omega) dL_law_775 ?_
  refine R_v1i hX dL_law_776 li_L_97 mk_X12_pathCeiling mi_X12_pathCeiling rfl o_136 (r_pathCeiling hR (i32_rng _)) ⟨⟨by decide, by decide⟩, by decide, by decide, rfl, Nat.le_of_ble_eq_true rfl, rfl⟩ (fun x2 F2 h2 => ?_)
  have e := g_pathCeiling h h1 h2
  exact R_icmpeqS hX dL_law_779 (by decide) e.1 (hk u v _ (e.2.mono ⟨by omega, by omega⟩))
theorem lwc_20 {X : KX} {Z : State → Prop} {b Ln : Nat} {f : Nat → Int32} {i u v K : Int} {F : Hp} (hW : LwX X b Ln f) (hi : 0 ≤ i ∧ i + 6 ≤ Ln ∧ (Ln : Int) ≤ 3072) (h : Gl u v K F) (hK : 0 ≤ K ∧ K + 99 ≤ 100000) (hk : ∀ (u1 v1 : Int) (G : Hp), Gl u1 v1 (K + 99) G → R X SH 159 11283 1876 (LWl X b i) [] G Z) : R X SH 159 11283 784 (LWl X b i) [] F Z := by
  obtain ⟨hX, hs, hb, hbA⟩ := hW
  refine R_aload_1 hX dL_law_784 ?_
  refine R_v0i hX dL_law_785 li_L_98 mk_X11_time mi_X11_time rfl o_0 (c_time rfl h.1.1.1 h.2.1) ⟨⟨by decide, by decide⟩, by decide, by decide, rfl, Nat.le_of_ble_eq_true rfl, rfl⟩ (fun x1 F1 h1 => ?_)
  have hF1 : ∀ a : Int, 136 ≤ a → F1 a = F a := fun a _ => by rw [h1.2]
  have hR : RI K F1 := h.ri.lo hF1
  refine R_aload_2 hX dL_law_788 ?_
  refine R_v0i hX dL_law_789 li_L_101 mk_X12_time mi_X12_time rfl o_136 (r_time hR) ⟨⟨by decide, by decide⟩, by decide, by decide, rfl, Nat.le_of_ble_eq_true rfl, rfl⟩ (fun x2 F2 h2 => ?_)
  have e := g_time h h1 h2
  exact R_icmpeqS hX dL_law_792 (by decide) e.1 (hk u v _ (e.2.mono ⟨by omega, by omega⟩))
theorem lwc_21 {X : KX} {Z : State → Prop} {b Ln : Nat} {f : Nat → Int32} {i u v K : Int} {F : Hp} (hW : LwX X b Ln f) (hi : 0 ≤ i ∧ i + 6 ≤ Ln ∧ (Ln : Int) ≤ 3072) (h : Gl u v K F) (hK : 0 ≤ K ∧ K + 99 ≤ 100000) (hk : ∀ (u1 v1 : Int) (G : Hp), Gl u1 v1 (K + 99) G → R X SH 159 11283 1876 (LWl X b i) [] G Z) : R X SH 159 11283 797 (LWl X b i) [] F Z := by
  obtain ⟨hX, hs, hb, hbA⟩ := hW
  refine R_aload_1 hX dL_law_797 ?_
  refine R_aload_0_any hX dL_law_798 ?_
  refine R_iload_3 hX dL_law_799 ?_
  refine R_iconst hX dL_law_800 ?_
  refine R_iadd hX dL_law_801 ?_
  refine R_sld hX hs hb hbA (by omega) (by omega) dL_law_802 ?_
  refine R_v1i hX dL_law_803 li_L_102 mk_X11_tokens mi_X11_tokens rfl o_0 (c_tokens rfl h.1.1.1 h.2.1 (i32_rng _)) ⟨⟨by decide, by decide⟩, by decide, by decide, rfl, Nat.le_of_ble_eq_true rfl, rfl⟩ (fun x1 F1 h1 => ?_)
  have hF1 : ∀ a : Int, 136 ≤ a → F1 a = F a := fun a _ => by rw [h1.2]
  have hR : RI K F1 := h.ri.lo hF1
  refine R_aload_2 hX dL_law_806 ?_
  refine R_aload_0_any hX dL_law_807 ?_
  refine R_iload_3 hX dL_law_808 ?_
  refine R_iconst hX dL_law_809 ?_
  refine R_iadd hX dL_law_810 ?_
  refine R_sld hX hs hb hbA (by omega) (by omega) dL_law_811 ?_
  refine R_v1i hX dL_law_812 li_L_105 mk_X12_tokens mi_X12_tokens rfl o_136 (r_tokens hR (i32_rng _)) ⟨⟨by decide, by decide⟩, by decide, by decide, rfl, Nat.le_of_ble_eq_true rfl, rfl⟩ (fun x2 F2 h2 => ?_)
  have e := g_tokens h h1 h2
  exact R_icmpeqS hX dL_law_815 (by decide) e.1 (hk u v _ (e.2.mono ⟨by omega, by omega⟩))
theorem lwc_22 {X : KX} {Z : State → Prop} {b Ln : Nat} {f : Nat → Int32} {i u v K : Int} {F : Hp} (hW : LwX X b Ln f) (hi : 0 ≤ i ∧ i + 6 ≤ Ln ∧ (Ln : Int) ≤ 3072) (h : Gl u v K F) (hK : 0 ≤ K ∧ K + 99 ≤ 100000) (hk : ∀ (u1 v1 : Int) (G : Hp), Gl u1 v1 (K + 99) G → R X SH 159 11283 1876 (LWl X b i) [] G Z) : R X SH 159 11283 820 (LWl X b i) [] F Z := by
  obtain ⟨hX, hs, hb, hbA⟩ := hW
  refine R_aload_1 hX dL_law_820 ?_
  refine R_aload_0_any hX dL_law_821 ?_
  refine R_iload_3 hX dL_law_822 ?_
  refine R_iconst hX dL_law_823 ?_
  refine R_iadd hX dL_law_824 ?_
  refine R_sld hX hs hb hbA (by omega) (by omega) dL_law_825 ?_
  refine R_v1i hX dL_law_826 li_L_106 mk_X11_credit mi_X11_credit rfl o_0 (c_credit rfl h.1.1.1 h.2.1 (i32_rng _)) ⟨⟨by decide, by decide⟩, by decide, by decide, rfl, Nat.le_of_ble_eq_true rfl, rfl⟩ (fun x1 F1 h1 => ?_)
  have hF1 : ∀ a : Int, 136 ≤ a → F1 a = F a := fun a _ => by rw [h1.2]
  have hR : RI K F1 := h.ri.lo hF1
  refine R_aload_2 hX dL_law_829 ?_
  refine R_aload_0_any hX dL_law_830 ?_
  refine R_iload_3 hX dL_law_831 ?_
  refine R_iconst hX dL_law_832 ?_
  refine R_iadd hX dL_law_833 ?_
  refine R_sld hX hs hb hbA (by omega) (by omega) dL_law_834 ?_
  refine R_v1i hX dL_law_835 li_L_109 mk_X12_credit mi_X12_credit rfl o_136 (r_credit hR (i32_rng _)) ⟨⟨by decide, by decide⟩, by decide, by decide, rfl, Nat.le_of_ble_eq_true rfl, rfl⟩ (fun x2 F2 h2 => ?_)
  have e := g_credit h h1 h2
  exact R_icmpeqS hX dL_law_838 (by decide) e.1 (hk u v _ (e.2.mono ⟨by omega, by omega⟩))
theorem lwc_23 {X : KX} {Z : State → Prop} {b Ln : Nat} {f : Nat → Int32} {i u v K : Int} {F : Hp} (hW : LwX X b Ln f) (hi : 0 ≤ i ∧ i + 6 ≤ Ln ∧ (Ln : Int) ≤ 3072) (h : Gl u v K F) (hK : 0 ≤ K ∧ K + 99 ≤ 100000) (hk : ∀ (u1 v1 : Int) (G : Hp), Gl u1 v1 (K + 99) G → R X SH 159 11283 1876 (LWl X b i) [] G Z) : R X SH 159 11283 843 (LWl X b i) [] F Z := by
  obtain ⟨hX, hs, hb, hbA⟩ := hW
  refine R_aload_1 hX dL_law_843 ?_
  refine R_aload_0_any hX dL_law_844 ?_
  refine R_iload_3 hX dL_law_845 ?_
  refine R_iconst hX dL_law_846 ?_
  refine R_iadd hX dL_law_847 ?_
  refine R_sld hX hs hb hbA (by omega) (by omega) dL_law_848 ?_
  refine R_v1i hX dL_law_849 li_L_110 mk_X11_headroom mi_X11_headroom rfl o_0 (c_headroom rfl h.1.1.1 h.2.1 (i32_rng _)) ⟨⟨by decide, by decide⟩, by decide, by decide, rfl, Nat.le_of_ble_eq_true rfl, rfl⟩ (fun x1 F1 h1 => ?_)
  have hF1 : ∀ a : Int, 136 ≤ a → F1 a = F a := fun a _ => by rw [h1.2]
  have hR : RI K F1 := h.ri.lo hF1
  refine R_aload_2 hX dL_law_852 ?_
  refine R_aload_0_any hX dL_law_853 ?_
  refine R_iload_3 hX dL_law_854 ?_
  refine R_iconst hX dL_law_855 ?_
  refine R_iadd hX dL_law_856 ?_
  refine R_sld hX hs hb hbA (by omega) (by omega) dL_law_857 ?_
  refine R_v1i hX dL_law_858 li_L_113 mk_X12_headroom mi_X12_headroom rfl o_136 (r_headroom hR (i32_rng _)) ⟨⟨by decide, by decide⟩, by decide, by decide, rfl, Nat.le_of_ble_eq_true rfl, rfl⟩ (fun x2 F2 h2 => ?_)
  have e := g_headroom h h1 h2
  exact R_icmpeqS hX dL_law_861 (by decide) e.1 (hk u v _ (e.2.mono ⟨by omega, by omega⟩))
theorem lwc_24 {X : KX} {Z : State → Prop} {b Ln : Nat} {f : Nat → Int32} {i u v K : Int} {F : Hp} (hW : LwX X b Ln f) (hi : 0 ≤ i ∧ i + 6 ≤ Ln ∧ (Ln : Int) ≤ 3072) (h : Gl u v K F) (hK : 0 ≤ K ∧ K + 99 ≤ 100000) (hk : ∀ (u1 v1 : Int) (G : Hp), Gl u1 v1 (K + 99) G → R X SH 159 11283 1876 (LWl X b i) [] G Z) : R X SH 159 11283 866 (LWl X b i) [] F Z := by
  obtain ⟨hX, hs, hb, hbA⟩ := hW
  refine R_aload_1 hX dL_law_866 ?_
  refine R_aload_0_any hX dL_law_867 ?_
  refine R_iload_3 hX dL_law_868 ?_
  refine R_iconst hX dL_law_869 ?_
  refine R_iadd hX dL_law_870 ?_
  refine R_sld hX hs hb hbA (by omega) (by omega) dL_law_871 ?_
  refine R_aload_0_any hX dL_law_872 ?_
  refine R_iload_3 hX dL_law_873 ?_
  refine R_iconst hX dL_law_874 ?_
  refine R_iadd hX dL_law_875 ?_
  refine R_sld hX hs hb hbA (by omega) (by omega) dL_law_876 ?_
  refine R_v2i hX dL_law_877 li_L_114 mk_X11_lender mi_X11_lender rfl o_0 (c_lender rfl h.1.1.1 h.2.1 (i32_rng _) (i32_rng _)) ⟨⟨by decide, by decide⟩, by decide, by decide, rfl, Nat.le_of_ble_eq_true rfl, rfl⟩ (fun x1 F1 h1 => ?_)
  have hF1 : ∀ a : Int, 136 ≤ a → F1 a = F a := fun a _ => by rw [h1.2]
  have hR : RI K F1 := h.ri.lo hF1
  refine R_aload_2 hX dL_law_880 ?_
  refine R_aload_0_any hX dL_law_881 ?_
  refine R_iload_3 hX dL_law_882 ?_
  refine R_iconst hX dL_law_883 ?_
  refine R_iadd hX dL_law_884 ?_
  refine R_sld hX hs hb hbA (by omega) (by omega) dL_law_885 ?_
  refine R_aload_0_any hX dL_law_886 ?_
  refine R_iload_3 hX dL_law_887 ?_
  refine R_iconst hX dL_law_888 ?_
  refine R_iadd hX dL_law_889 ?_
  refine R_sld hX hs hb hbA (by omega) (by omega) dL_law_890 ?_
  refine R_v2i hX dL_law_891 li_L_117 mk_X12_lender mi_X12_lender rfl o_136 (r_lender hR (i32_rng _) (i32_rng _)) ⟨⟨by decide, by decide⟩, by decide, by decide, rfl, Nat.le_of_ble_eq_true rfl, rfl⟩ (fun x2 F2 h2 => ?_)
  have e := g_lender h h1 h2
  exact R_icmpeqS hX dL_law_894 (by decide) e.1 (hk u v _ (e.2.mono ⟨by omega, by omega⟩))
theorem lwc_25 {X : KX} {Z : State → Prop} {b Ln : Nat} {f : Nat → Int32} {i u v K : Int} {F : Hp} (hW : LwX X b Ln f) (hi : 0 ≤ i ∧ i + 6 ≤ Ln ∧ (Ln : Int) ≤ 3072) (h : Gl u v K F) (hK : 0 ≤ K ∧ K + 99 ≤ 100000) (hk : ∀ (u1 v1 : Int) (G : Hp), Gl u1 v1 (K + 99) G → R X SH 159 11283 1876 (LWl X b i) [] G Z) : R X SH 159 11283 899 (LWl X b i) [] F Z := by
  obtain ⟨hX, hs, hb, hbA⟩ := hW
  refine R_aload_1 hX dL_law_899 ?_
  refine R_aload_0_any hX dL_law_900 ?_
  refine R_iload_3 hX dL_law_901 ?_
  refine R_iconst hX dL_law_902 ?_
  refine R_iadd hX dL_law_903 ?_
  refine R_sld hX hs hb hbA (by omega) (by omega) dL_law_904 ?_
  refine R_v1i hX dL_law_905 li_L_118 mk_X11_greatestCost mi_X11_greatestCost rfl o_0 (c_greatestCost rfl h.1.1.1 h.2.1 (i32_rng _)) ⟨⟨by decide, by decide⟩, by decide, by decide, rfl, Nat.le_of_ble_eq_true rfl, rfl⟩ (fun x1 F1 h1 => ?_)
  have hF1 : ∀ a : Int, 136 ≤ a → F1 a = F a := fun a _ => by rw [h1.2]
  have hR : RI K F1 := h.ri.lo hF1
  refine R_aload_2 hX dL_law_908 ?_
  refine R_aload_0_any hX dL_law_909 ?_
  refine R_iload_3 hX dL_law_910 ?_
  refine R_iconst hX dL_law_911 ?_
  refine R_iadd hX dL_law_912 ?_
  refine R_sld hX hs hb hbA (by omega) (by omega) dL_law_913 ?_
  refine R_v1i hX dL_law_914 li_L_121 mk_X12_greatestCost mi_X12_greatestCost rfl o_136 (r_greatestCost hR (i32_rng _)) ⟨⟨by decide, by decide⟩, by decide, by decide, rfl, Nat.le_of_ble_eq_true rfl, rfl⟩ (fun x2 F2 h2 => ?_)
  have e := g_greatestCost h h1 h2
  exact R_icmpeqS hX dL_law_917 (by decide) e.1 (hk u v _ (e.2.mono ⟨by omega, by omega⟩))
theorem lwc_26 {X : KX} {Z : State → Prop} {b Ln : Nat} {f : Nat → Int32} {i u v K : Int} {F : Hp} (hW : LwX X b Ln f) (hi : 0 ≤ i ∧ i + 6 ≤ Ln ∧ (Ln : Int) ≤ 3072) (h : Gl u v K F) (hK : 0 ≤ K ∧ K + 99 ≤ 100000) (hk : ∀ (u1 v1 : Int) (G : Hp), Gl u1 v1 (K + 99) G → R X SH 159 11283 1876 (LWl X b i) [] G Z) : R X SH 159 11283 922 (LWl X b i) [] F Z := by
  obtain ⟨hX, hs, hb, hbA⟩ := hW
  refine R_aload_1 hX dL_law_922 ?_
  refine R_aload_0_any hX dL_law_923 ?_
  refine R_iload_3 hX dL_law_924 ?_
  refine R_iconst hX dL_law_925 ?_
  refine R_iadd hX dL_law_926 ?_
  refine R_sld hX hs hb hbA (by omega) (by omega) dL_law_927 ?_
  refine R_aload_0_any hX dL_law_928 ?_
  refine R_iload_3 hX dL_law_929 ?_
  refine R_iconst hX dL_law_930 ?_
  refine R_iadd hX dL_law_931 ?_
  refine R_sld hX hs hb hbA (by omega) (by omega) dL_law_932 ?_
  refine R_v2i hX dL_law_933 li_L_122 mk_X11_acquire mi_X11_acquire rfl o_0 (c_acquire rfl h.1.1.1 h.2.1 (i32_rng _) (i32_rng _)) ⟨⟨by decide, by decide⟩, by decide, by decide, rfl, Nat.le_of_ble_eq_true rfl, rfl⟩ (fun x1 F1 h1 => ?_)
  have hF1 : ∀ a : Int, 136 ≤ a → F1 a = F a := fun a z => by
    rcases h1 with ⟨-, -, e⟩ | ⟨-, -, e⟩ | ⟨-, -, e⟩
    · rw [e]
    · rw [e]
    · rw [e, sndS_r (by omega)]
  have hR : RI K F1 := h.ri.lo hF1
  refine R_aload_2 hX dL_law_936 ?_
  refine R_aload_0_any hX dL_law_937 ?_
  refine R_iload_3 hX dL_law_938 ?_
  refine R_iconst hX dL_law_939 ?_
  refine R_iadd hX dL_law_940 ?_
  refine R_sld hX hs hb hbA (by omega) (by omega) dL_law_941 ?_
  refine R_aload_0_any hX dL_law_942 ?_
  refine R_iload_3 hX dL_law_943 ?_
  refine R_iconst hX dL_law_944 ?_
  refine R_iadd hX dL_law_945 ?_
  refine R_sld hX hs hb hbA (by omega) (by omega) dL_law_946 ?_
  refine R_v2i hX dL_law_947 li_L_125 mk_X12_acquire mi_X12_acquire rfl o_136 (r_acquire hR (i32_rng _) (i32_rng _)) ⟨⟨by decide, by decide⟩, by decide, by decide, rfl, Nat.le_of_ble_eq_true rfl, rfl⟩ (fun x2 F2 h2 => ?_)
  have e := g_acquire h (by omega) h1 h2
  exact R_icmpeqS hX dL_law_950 (by decide) e.1 (hk u v _ e.2)
theorem lwc_27 {X : KX} {Z : State → Prop} {b Ln : Nat} {f : Nat → Int32} {i u v K : Int} {F : Hp} (hW : LwX X b Ln f) (hi : 0 ≤ i ∧ i + 6 ≤ Ln ∧ (Ln : Int) ≤ 3072) (h : Gl u v K F) (hK : 0 ≤ K ∧ K + 99 ≤ 100000) (hk : ∀ (u1 v1 : Int) (G : Hp), Gl u1 v1 (K + 99) G → R X SH 159 11283 1876 (LWl X b i) [] G Z) : R X SH 159 11283 955 (LWl X b i) [] F Z := by
  obtain ⟨hX, hs, hb, hbA⟩ := hW
  refine R_aload_1 hX dL_law_955 ?_
  refine R_aload_0_any hX dL_law_956 ?_
  refine R_iload_3 hX dL_law_957 ?_
  refine R_iconst hX dL_law_958 ?_
  refine R_iadd hX dL_law_959 ?_
  refine R_sld hX hs hb hbA (by omega) (by omega) dL_law_960 ?_
  refine R_aload_0_any hX dL_law_961 ?_
  refine R_iload_3 hX dL_law_962 ?_
  refine R_iconst hX dL_law_963 ?_
  refine R_iadd hX dL_law_964 ?_
  refine R_sld hX hs hb hbA (by omega) (by omega) dL_law_965 ?_
  refine R_v2i hX dL_law_966 li_L_126 mk_X11_enqueue mi_X11_enqueue rfl o_0 (c_enqueue rfl h.1.1.1 h.2.1 (i32_rng _) (i32_rng _)) ⟨⟨by decide, by decide⟩, by decide, by decide, rfl, Nat.le_of_ble_eq_true rfl, rfl⟩ (fun x1 F1 h1 => ?_)
  have hF1 : ∀ a : Int, 136 ≤ a → F1 a = F a := fun a z => by
    rcases h1 with ⟨-, -, e⟩ | ⟨-, -, e⟩ | ⟨-, -, e⟩
    · rw [e]
    · rw [e, up_r (by omega)]
    · rw [e, putS_r (by omega)]
  have hR : RI K F1 := h.ri.lo hF1
  refine R_aload_2 hX dL_law_969 ?_
  refine R_aload_0_any hX dL_law_970 ?_
  refine R_iload_3 hX dL_law_971 ?_
  refine R_iconst hX dL_law_972 ?_
  refine R_iadd hX dL_law_973 ?_
  refine R_sld hX hs hb hbA (by omega) (by omega) dL_law_974 ?_
  refine R_aload_0_any hX dL_law_975 ?_
  refine R_iload_3 hX dL_law_976 ?_
  refine R_iconst hX dL_law_977 ?_
  refine R_iadd hX dL_law_978 ?_
  refine R_sld hX hs hb hbA (by omega) (by omega) dL_law_979 ?_
  refine R_v2i hX dL_law_980 li_L_129 mk_X12_enqueue mi_X12_enqueue rfl o_136 (r_enqueue hR (i32_rng _) (i32_rng _)) ⟨⟨by decide, by decide⟩, by decide, by decide, rfl, Nat.le_of_ble_eq_true rfl, rfl⟩ (fun x2 F2 h2 => ?_)
  have e := g_enqueue h (by omega) h1 h2
  exact R_icmpeqS hX dL_law_983 (by decide) e.1 (hk u v _ e.2)
theorem lwc_28 {X : KX} {Z : State → Prop} {b Ln : Nat} {f : Nat → Int32} {i u v K : Int} {F : Hp} (hW : LwX X b Ln f) (hi : 0 ≤ i ∧ i + 6 ≤ Ln ∧ (Ln : Int) ≤ 3072) (h : Gl u v K F) (hK : 0 ≤ K ∧ K + 99 ≤ 100000) (hk : ∀ (u1 v1 : Int) (G : Hp), Gl u1 v1 (K + 99) G → R X SH 159 11283 1876 (LWl X b i) [] G Z) : R X SH 159 11283 988 (LWl X b i) [] F Z := by
  obtain ⟨hX, hs, hb, hbA⟩ := hW
  refine R_aload_1 hX dL_law_988 ?_
  refine R_aload_0_any hX dL_law_989 ?_
  refine R_iload_3 hX dL_law_990 ?_
  refine R_iconst hX dL_law_991 ?_
  refine R_iadd hX dL_law_992 ?_
  refine R_sld hX hs hb hbA (by omega) (by omega) dL_law_993 ?_
  refine R_aload_0_any hX dL_law_994 ?_
  refine R_iload_3 hX dL_law_995 ?_
  refine R_iconst hX dL_law_996 ?_
  refine R_iadd hX dL_law_997 ?_
  refine R_sld hX hs hb hbA (by omega) (by omega) dL_law_998 ?_
  refine R_v2i hX dL_law_999 li_L_130 mk_X11_waitTime mi_X11_waitTime rfl o_0 (c_waitTime rfl h.1.1.1 h.2.1 (i32_rng _) (i32_rng _)) ⟨⟨by decide, by decide⟩, by decide, by decide, rfl, Nat.le_of_ble_eq_true rfl, rfl⟩ (fun x1 F1 h1 => ?_)
  have hF1 : ∀ a : Int, 136 ≤ a → F1 a = F a := fun a _ => by rw [h1.2]
  have hR : RI K F1 := h.ri.lo hF1
  refine R_aload_2 hX dL_law_1002 ?_
  refine R_aload_0_any hX dL_law_1003 ?_
  refine R_iload_3 hX dL_law_1004 ?_
  refine R_iconst hX dL_law_1005 ?_
  refine R_iadd hX dL_law_1006 ?_
  refine R_sld hX hs hb hbA (by omega) (by omega) dL_law_1007 ?_
  refine R_aload_0_any hX dL_law_1008 ?_
  refine R_iload_3 hX dL_law_1009 ?_
  refine R_iconst hX dL_law_1010 ?_
  refine R_iadd hX dL_law_1011 ?_
  refine R_sld hX hs hb hbA (by omega) (by omega) dL_law_1012 ?_
  refine R_v2i hX dL_law_1013 li_L_133 mk_X12_waitTime mi_X12_waitTime rfl o_136 (r_waitTime hR (i32_rng _) (i32_rng _)) ⟨⟨by decide, by decide⟩, by decide, by decide, rfl, Nat.le_of_ble_eq_true rfl, rfl⟩ (fun x2 F2 h2 => ?_)
  have e := g_waitTime h h1 h2
  exact R_icmpeqS hX dL_law_1016 (by decide) e.1 (hk u v _ (e.2.mono ⟨by omega, by omega⟩))
theorem lwc_29 {X : KX} {Z : State → Prop} {b Ln : Nat} {f : Nat → Int32} {i u v K : Int} {F : Hp} (hW : LwX X b Ln f) (hi : 0 ≤ i ∧ i + 6 ≤ Ln ∧ (Ln : Int) ≤ 3072) (h : Gl u v K F) (hK : 0 ≤ K ∧ K + 99 ≤ 100000) (hk : ∀ (u1 v1 : Int) (G : Hp), Gl u1 v1 (K + 99) G → R X SH 159 11283 1876 (LWl X b i) [] G Z) : R X SH 159 11283 1021 (LWl X b i) [] F Z := by
  obtain ⟨hX, hs, hb, hbA⟩ := hW
  refine R_aload_1 hX dL_law_1021 ?_
  refine R_aload_0_any hX dL_law_1022 ?_
  refine R_iload_3 hX dL_law_1023 ?_
  refine R_iconst hX dL_law_1024 ?_
  refine R_iadd hX dL_law_1025 ?_
  refine R_sld hX hs hb hbA (by omega) (by omega) dL_law_1026 ?_
  refine R_aload_0_any hX dL_law_1027 ?_
  refine R_iload_3 hX dL_law_1028 ?_
  refine R_iconst hX dL_law_1029 ?_
  refine R_iadd hX dL_law_1030 ?_
  refine R_sld hX hs hb hbA (by omega) (by omega) dL_law_1031 ?_
  refine R_v2i hX dL_law_1032 li_L_134 mk_X11_repeats mi_X11_repeats rfl o_0 (c_repeats rfl h.1.1.1 h.2.1 rfl (i32_rng _) (i32_rng _)) ⟨⟨by decide, by decide⟩, by decide, by decide, rfl, Nat.le_of_ble_eq_true rfl, rfl⟩ (fun x1 F1 h1 => ?_)
  have hF1 : ∀ a : Int, 136 ≤ a → F1 a = F a := fun a z => by
    rcases h1 with ⟨-, -, e⟩ | ⟨-, -, e⟩
    · rw [e]
    · rw [e, pofS_r (by omega)]
      unfold acT
      simp (disch := omega) only [cpy_r]
  have hR : RI K F1 := h.ri.lo hF1
  refine R_aload_2 hX dL_law_1035 ?_
  refine R_aload_0_any hX dL_law_1036 ?_
  refine R_iload_3 hX dL_law_1037 ?_
  refine R_iconst hX dL_law_1038 ?_
  refine R_iadd hX dL_law_1039 ?_
  refine R_sld hX hs hb hbA (by omega) (by omega) dL_law_1040 ?_
  refine R_aload_0_any hX dL_law_1041 ?_
  refine R_iload_3 hX dL_law_1042 ?_
  refine R_iconst hX dL_law_1043 ?_
  refine R_iadd hX dL_law_1044 ?_
  refine R_sld hX hs hb hbA (by omega) (by omega) dL_law_1045 ?_
  refine R_v2i hX dL_law_1046 li_L_137 mk_X12_repeats mi_X12_repeats rfl o_136 (r_repeats hR (i32_rng _) (i32_rng _)) ⟨⟨by decide, by decide⟩, by decide, by decide, rfl, Nat.le_of_ble_eq_true rfl, rfl⟩ (fun x2 F2 h2 => ?_)
  have e := g_repeats h h1 h2
  exact R_icmpeqS hX dL_law_1049 (by decide) e.1 (hk u v _ (e.2.mono ⟨by omega, by omega⟩))
theorem lwc_30 {X : KX} {Z : State → Prop} {b Ln : Nat} {f : Nat → Int32} {i u v K : Int} {F : Hp} (hW : LwX X b Ln f) (hi : 0 ≤ i ∧ i + 6 ≤ Ln ∧ (Ln : Int) ≤ 3072) (h : Gl u v K F) (hK : 0 ≤ K ∧ K + 99 ≤ 100000) (hk : ∀ (u1 v1 : Int) (G : Hp), Gl u1 v1 (K + 99) G → R X SH 159 11283 1876 (LWl X b i) [] G Z) : R X SH 159 11283 1054 (LWl X b i) [] F Z := by
  obtain ⟨hX, hs, hb, hbA⟩ := hW
  refine R_aload_1 hX dL_law_1054 ?_
  refine R_aload_0_any hX dL_law_1055 ?_
  refine R_iload_3 hX dL_law_1056 ?_
  refine R_iconst hX dL_law_1057 ?_
  refine R_iadd hX dL_law_1058 ?_
  refine R_sld hX hs hb hbA (by omega) (by omega) dL_law_1059 ?_
  refine R_aload_0_any hX dL_law_1060 ?_
  refine R_iload_3 hX dL_law_1061 ?_
  refine R_iconst hX dL_law_1062 ?_
  refine R_iadd hX dL_law_1063 ?_
  refine R_sld hX hs hb hbA (by omega) (by omega) dL_law_1064 ?_
  refine R_v2i hX dL_law_1065 li_L_138 mk_X11_refusal mi_X11_refusal rfl o_0 (c_refusal rfl h.1.1.1 h.2.1 (i32_rng _) (i32_rng _)) ⟨⟨by decide, by decide⟩, by decide, by decide, rfl, Nat.le_of_ble_eq_true rfl, rfl⟩ (fun x1 F1 h1 => ?_)
  have hF1 : ∀ a : Int, 136 ≤ a → F1 a = F a := fun a _ => by rw [h1.2]
  have hR : RI K F1 := h.ri.lo hF1
  refine R_aload_2 hX dL_law_1068 ?_
  refine R_aload_0_any hX dL_law_1069 ?_
  refine R_iload_3 hX dL_law_1070 ?_
  refine R_iconst hX dL_law_1071 ?_
  refine R_iadd hX dL_law_1072 ?_
  refine R_sld hX hs hb hbA (by omega) (by omega) dL_law_1073 ?_
  refine R_aload_0_any hX dL_law_1074 ?_
  refine R_iload_3 hX dL_law_1075 ?_
  refine R_iconst hX dL_law_1076 ?_
  refine R_iadd hX dL_law_1077 ?_
  refine R_sld hX hs hb hbA (by omega) (by omega) dL_law_1078 ?_
  refine R_v2i hX dL_law_1079 li_L_141 mk_X12_refusal mi_X12_refusal rfl o_136 (r_refusal hR (i32_rng _) (i32_rng _)) ⟨⟨by decide, by decide⟩, by decide, by decide, rfl, Nat.le_of_ble_eq_true rfl, rfl⟩ (fun x2 F2 h2 => ?_)
  have e := g_refusal h h1 h2
  exact R_icmpeqS hX dL_law_1082 (by decide) e.1 (hk u v _ (e.2.mono ⟨by omega, by omega⟩))
theorem lwc_31 {X : KX} {Z : State → Prop} {b Ln : Nat} {f : Nat → Int32} {i u v K : Int} {F : Hp} (hW : LwX X b Ln f) (hi : 0 ≤ i ∧ i + 6 ≤ Ln ∧ (Ln : Int) ≤ 3072) (h : Gl u v K F) (hK : 0 ≤ K ∧ K + 99 ≤ 100000) (hk : ∀ (u1 v1 : Int) (G : Hp), Gl u1 v1 (K + 99) G → R X SH 159 11283 1876 (LWl X b i) [] G Z) : R X SH 159 11283 1087 (LWl X b i) [] F Z := by
  obtain ⟨hX, hs, hb, hbA⟩ := hW
  refine R_aload_1 hX dL_law_1087 ?_
  refine R_aload_0_any hX dL_law_1088 ?_
  refine R_iload_3 hX dL_law_1089 ?_
  refine R_iconst hX dL_law_1090 ?_
  refine R_iadd hX dL_law_1091 ?_
  refine R_sld hX hs hb hbA (by omega) (by omega) dL_law_1092 ?_
  refine R_aload_0_any hX dL_law_1093 ?_
  refine R_iload_3 hX dL_law_1094 ?_
  refine R_iconst hX dL_law_1095 ?_
  refine R_iadd hX dL_law_1096 ?_
  refine R_sld hX hs hb hbA (by omega) (by omega) dL_law_1097 ?_
  refine R_v2i hX dL_law_1098 li_L_142 mk_X11_blockingNode mi_X11_blockingNode rfl o_0 (c_blockingNode rfl h.1.1.1 h.2.1 (i32_rng _) (i32_rng _)) ⟨⟨by decide, by decide⟩, by decide, by decide, rfl, Nat.le_of_ble_eq_true rfl, rfl⟩ (fun x1 F1 h1 => ?_)
  have hF1 : ∀ a : Int, 136 ≤ a → F1 a = F a := fun a _ => by rw [h1.2]
  have hR : RI K F1 := h.ri.lo hF1
  refine R_aload_2 hX dL_law_1101 ?_
  refine R_aload_0_any hX dL_law_1102 ?_
  refine R_iload_3 hX dL_law_1103 ?_
  refine R_iconst hX dL_law_1104 ?_
  refine R_iadd hX dL_law_1105 ?_
  refine R_sld hX hs hb hbA (by omega) (by omega) dL_law_1106 ?_
  refine R_aload_0_any hX dL_law_1107 ?_
  refine R_iload_3 hX dL_law_1108 ?_
  refine R_iconst hX dL_law_1109 ?_
  refine R_iadd hX dL_law_1110 ?_
  refine R_sld hX hs hb hbA (by omega) (by omega) dL_law_1111 ?_
  refine R_v2i hX dL_law_1112 li_L_145 mk_X12_blockingNode mi_X12_blockingNode rfl o_136 (r_blockingNode hR (i32_rng _) (i32_rng _)) ⟨⟨by decide, by decide⟩, by decide, by decide, rfl, Nat.le_of_ble_eq_true rfl, rfl⟩ (fun x2 F2 h2 => ?_)
  have e := g_blockingNode h h1 h2
  exact R_icmpeqS hX dL_law_1115 (by decide) e.1 (hk u v _ (e.2.mono ⟨by omega, by omega⟩))
theorem lwc_32 {X : KX} {Z : State → Prop} {b Ln : Nat} {f : Nat → Int32} {i u v K : Int} {F : Hp} (hW : LwX X b Ln f) (hi : 0 ≤ i ∧ i + 6 ≤ Ln ∧ (Ln : Int) ≤ 3072) (h : Gl u v K F) (hK : 0 ≤ K ∧ K + 99 ≤ 100000) (hk : ∀ (u1 v1 : Int) (G : Hp), Gl u1 v1 (K + 99) G → R X SH 159 11283 1876 (LWl X b i) [] G Z) : R X SH 159 11283 1120 (LWl X b i) [] F Z := by
  obtain ⟨hX, hs, hb, hbA⟩ := hW
  refine R_aload_1 hX dL_law_1120 ?_
  refine R_aload_0_any hX dL_law_1121 ?_
  refine R_iload_3 hX dL_law_1122 ?_
  refine R_iconst hX dL_law_1123 ?_
  refine R_iadd hX dL_law_1124 ?_
  refine R_sld hX hs hb hbA (by omega) (by omega) dL_law_1125 ?_
  refine R_v1i hX dL_law_1126 li_L_146 mk_X11_queueLength mi_X11_queueLength rfl o_0 (c_queueLength rfl h.1.1.1 h.2.1 (i32_rng _)) ⟨⟨by decide, by decide⟩, by decide, by decide, rfl, Nat.le_of_ble_eq_true rfl, rfl⟩ (fun x1 F1 h1 => ?_)
  have hF1 : ∀ a : Int, 136 ≤ a → F1 a = F a := fun a _ => by rw [h1.2]
  have hR : RI K F1 := h.ri.lo hF1
  refine R_aload_2 hX dL_law_1129 ?_
  refine R_aload_0_any hX dL_law_1130 ?_
  refine R_iload_3 hX dL_law_1131 ?_
  refine R_iconst hX dL_law_1132 ?_
  refine R_iadd hX dL_law_1133 ?_
  refine R_sld hX hs hb hbA (by omega) (by omega) dL_law_1134 ?_
  refine R_v1i hX dL_law_1135 li_L_149 mk_X12_queueLength mi_X12_queueLength rfl o_136 (r_queueLength hR (i32_rng _)) ⟨⟨by decide, by decide⟩, by decide, by decide, rfl, Nat.le_of_ble_eq_true rfl, rfl⟩ (fun x2 F2 h2 => ?_)
  have e := g_queueLength h h1 h2
  exact R_icmpeqS hX dL_law_1138 (by decide) e.1 (hk u v _ (e.2.mono ⟨by omega, by omega⟩))
theorem lwc_33 {X : KX} {Z : State → Prop} {b Ln : Nat} {f : Nat → Int32} {i u v K : Int} {F : Hp} (hW : LwX X b Ln f) (hi : 0 ≤ i ∧ i + 6 ≤ Ln ∧ (Ln : Int) ≤ 3072) (h : Gl u v K F) (hK : 0 ≤ K ∧ K + 99 ≤ 100000) (hk : ∀ (u1 v1 : Int) (G : Hp), Gl u1 v1 (K + 99) G → R X SH 159 11283 1876 (LWl X b i) [] G Z) : R X SH 159 11283 1143 (LWl X b i) [] F Z := by
  obtain ⟨hX, hs, hb, hbA⟩ := hW
  refine R_aload_1 hX dL_law_1143 ?_
  refine R_v0i hX dL_law_1144 li_L_150 mk_X11_nextLeaf mi_X11_nextLeaf rfl o_0 (c_nextLeaf rfl h.1.1.1 h.2.1) ⟨⟨by decide, by decide⟩, by decide, by decide, rfl, Nat.le_of_ble_eq_true rfl, rfl⟩ (fun x1 F1 h1 => ?_)
  have hF1 : ∀ a : Int, 136 ≤ a → F1 a = F a := fun a _ => by rw [h1.2]
  have hR : RI K F1 := h.ri.lo hF1
  refine R_aload_2 hX dL_law_1147 ?_
  refine R_v0i hX dL_law_1148 li_L_153 mk_X12_nextLeaf mi_X12_nextLeaf rfl o_136 (r_nextLeaf hR (by omega)) ⟨⟨by decide, by decide⟩, by decide, by decide, rfl, Nat.le_of_ble_eq_true rfl, rfl⟩ (fun x2 F2 h2 => ?_)
  have e := g_nextLeaf h h1 h2
  exact R_icmpeqS hX dL_law_1151 (by decide) e.1 (hk u v _ (e.2.mono ⟨by omega, by omega⟩))
theorem lwc_34 {X : KX} {Z : State → Prop} {b Ln : Nat} {f : Nat → Int32} {i u v K : Int} {F : Hp} (hW : LwX X b Ln f) (hi : 0 ≤ i ∧ i + 6 ≤ Ln ∧ (Ln : Int) ≤ 3072) (h : Gl u v K F) (hK : 0 ≤ K ∧ K + 99 ≤ 100000) (hk : ∀ (u1 v1 : Int) (G : Hp), Gl u1 v1 (K + 99) G → R X SH 159 11283 1876 (LWl X b i) [] G Z) : R X SH 159 11283 1156 (LWl X b i) [] F Z := by
  obtain ⟨hX, hs, hb, hbA⟩ := hW
  refine R_aload_1 hX dL_law_1156 ?_
  refine R_aload_0_any hX dL_law_1157 ?_
  refine R_iload_3 hX dL_law_1158 ?_
  refine R_iconst hX dL_law_1159 ?_
  refine R_iadd hX dL_law_1160 ?_
  refine R_sld hX hs hb hbA (by omega) (by omega) dL_law_1161 ?_
  refine R_v1i hX dL_law_1162 li_L_154 mk_X11_queuedCost mi_X11_queuedCost rfl o_0 (c_queuedCost rfl h.1.1.1 h.2.1 (i32_rng _)) ⟨⟨by decide, by decide⟩, by decide, by decide, rfl, Nat.le_of_ble_eq_true rfl, rfl⟩ (fun x1 F1 h1 => ?_)
  have hF1 : ∀ a : Int, 136 ≤ a → F1 a = F a := fun a _ => by rw [h1.2]
  have hR : RI K F1 := h.ri.lo hF1
  refine R_aload_2 hX dL_law_1165 ?_
  refine R_aload_0_any hX dL_law_1166 ?_
  refine R_iload_3 hX dL_law_1167 ?_
  refine R_iconst hX dL_law_1168 ?_
  refine R_iadd hX dL_law_1169 ?_
  refine R_sld hX hs hb hbA (by omega) (by omega) dL_law_1170 ?_
  refine R_v1i hX dL_law_1171 li_L_157 mk_X12_queuedCost mi_X12_queuedCost rfl o_136 (r_queuedCost hR (i32_rng _)) ⟨⟨by decide, by decide⟩, by decide, by decide, rfl, Nat.le_of_ble_eq_true rfl, rfl⟩ (fun x2 F2 h2 => ?_)
  have e := g_queuedCost h h1 h2
  exact R_icmpeqS hX dL_law_1174 (by decide) e.1 (hk u v _ (e.2.mono ⟨by omega, by omega⟩))
theorem lwc_35 {X : KX} {Z : State → Prop} {b Ln : Nat} {f : Nat → Int32} {i u v K : Int} {F : Hp} (hW : LwX X b Ln f) (hi : 0 ≤ i ∧ i + 6 ≤ Ln ∧ (Ln : Int) ≤ 3072) (h : Gl u v K F) (hK : 0 ≤ K ∧ K + 99 ≤ 100000) (hk : ∀ (u1 v1 : Int) (G : Hp), Gl u1 v1 (K + 99) G → R X SH 159 11283 1876 (LWl X b i) [] G Z) : R X SH 159 11283 1179 (LWl X b i) [] F Z := by
  obtain ⟨hX, hs, hb, hbA⟩ := hW
  refine R_aload_1 hX dL_law_1179 ?_
  refine R_aload_0_any hX dL_law_1180 ?_
  refine R_iload_3 hX dL_law_1181 ?_
  refine R_iconst hX dL_law_1182 ?_
  refine R_iadd hX dL_law_1183 ?_
  refine R_sld hX hs hb hbA (by omega) (by omega) dL_law_1184 ?_
  refine R_aload_0_any hX dL_law_1185 ?_
  refine R_iload_3 hX dL_law_1186 ?_
  refine R_iconst hX dL_law_1187 ?_
  refine R_iadd hX dL_law_1188 ?_
  refine R_sld hX hs hb hbA (by omega) (by omega) dL_law_1189 ?_
  refine R_v2i hX dL_law_1190 li_L_158 mk_X11_requestAt mi_X11_requestAt rfl o_0 (c_requestAt rfl h.1.1.1 h.2.1 (i32_rng _) (i32_rng _)) ⟨⟨by decide, by decide⟩, by decide, by decide, rfl, Nat.le_of_ble_eq_true rfl, rfl⟩ (fun x1 F1 h1 => ?_)
  have hF1 : ∀ a : Int, 136 ≤ a → F1 a = F a := fun a _ => by rw [h1.2]
  have hR : RI K F1 := h.ri.lo hF1
  refine R_aload_2 hX dL_law_1193 ?_
  refine R_aload_0_any hX dL_law_1194 ?_
  refine R_iload_3 hX dL_law_1195 ?_
  refine R_iconst hX dL_law_1196 ?_
  refine R_iadd hX dL_law_1197 ?_
  refine R_sld hX hs hb hbA (by omega) (by omega) dL_law_1198 ?_
  refine R_aload_0_any hX dL_law_1199 ?_
  refine R_iload_3 hX dL_law_1200 ?_
  refine R_iconst hX dL_law_1201 ?_
  refine R_iadd hX dL_law_1202 ?_
  refine R_sld hX hs hb hbA (by omega) (by omega) dL_law_1203 ?_
  refine R_v2i hX dL_law_1204 li_L_161 mk_X12_requestAt mi_X12_requestAt rfl o_136 (r_requestAt hR (i32_rng _) (i32_rng _)) ⟨⟨by decide, by decide⟩, by decide, by decide, rfl, Nat.le_of_ble_eq_true rfl, rfl⟩ (fun x2 F2 h2 => ?_)
  have e := g_requestAt h h1 h2
  exact R_icmpeqS hX dL_law_1207 (by decide) e.1 (hk u v _ (e.2.mono ⟨by omega, by omega⟩))
theorem lwc_36 {X : KX} {Z : State → Prop} {b Ln : Nat} {f : Nat → Int32} {i u v K : Int} {F : Hp} (hW : LwX X b Ln f) (hi : 0 ≤ i ∧ i + 6 ≤ Ln ∧ (Ln : Int) ≤ 3072) (h : Gl u v K F) (hK : 0 ≤ K ∧ K + 99 ≤ 100000) (hk : ∀ (u1 v1 : Int) (G : Hp), Gl u1 v1 (K + 99) G → R X SH 159 11283 1876 (LWl X b i) [] G Z) : R X SH 159 11283 1212 (LWl X b i) [] F Z := by
  obtain ⟨hX, hs, hb, hbA⟩ := hW
  refine R_aload_1 hX dL_law_1212 ?_
  refine R_aload_0_any hX dL_law_1213 ?_
  refine R_iload_3 hX dL_law_1214 ?_
  refine R_iconst hX dL_law_1215 ?_
  refine R_iadd hX dL_law_1216 ?_
  refine R_sld hX hs hb hbA (by omega) (by omega) dL_law_1217 ?_
  refine R_aload_0_any hX dL_law_1218 ?_
  refine R_iload_3 hX dL_law_1219 ?_
  refine R_iconst hX dL_law_1220 ?_
  refine R_iadd hX dL_law_1221 ?_
  refine R_sld hX hs hb hbA (by omega) (by omega) dL_law_1222 ?_
  refine R_v2i hX dL_law_1223 li_L_162 mk_X11_costAt mi_X11_costAt rfl o_0 (c_costAt rfl h.1.1.1 h.2.1 (i32_rng _) (i32_rng _)) ⟨⟨by decide, by decide⟩, by decide, by decide, rfl, Nat.le_of_ble_eq_true rfl, rfl⟩ (fun x1 F1 h1 => ?_)
  have hF1 : ∀ a : Int, 136 ≤ a → F1 a = F a := fun a _ => by rw [h1.2]
  have hR : RI K F1 := h.ri.lo hF1
  refine R_aload_2 hX dL_law_1226 ?_
  refine R_aload_0_any hX dL_law_1227 ?_
  refine R_iload_3 hX dL_law_1228 ?_
  refine R_iconst hX dL_law_1229 ?_
  refine R_iadd hX dL_law_1230 ?_
  refine R_sld hX hs hb hbA (by omega) (by omega) dL_law_1231 ?_
  refine R_aload_0_any hX dL_law_1232 ?_
  refine R_iload_3 hX dL_law_1233 ?_
  refine R_iconst hX dL_law_1234 ?_
  refine R_iadd hX dL_law_1235 ?_
  refine R_sld hX hs hb hbA (by omega) (by omega) dL_law_1236 ?_
  refine R_v2i hX dL_law_1237 li_L_165 mk_X12_costAt mi_X12_costAt rfl o_136 (r_costAt hR (i32_rng _) (i32_rng _)) ⟨⟨by decide, by decide⟩, by decide, by decide, rfl, Nat.le_of_ble_eq_true rfl, rfl⟩ (fun x2 F2 h2 => ?_)
  have e := g_costAt h h1 h2
  exact R_icmpeqS hX dL_law_1240 (by decide) e.1 (hk u v _ (e.2.mono ⟨by omega, by omega⟩))
theorem lwc_37 {X : KX} {Z : State → Prop} {b Ln : Nat} {f : Nat → Int32} {i u v K : Int} {F : Hp} (hW : LwX X b Ln f) (hi : 0 ≤ i ∧ i + 6 ≤ Ln ∧ (Ln : Int) ≤ 3072) (h : Gl u v K F) (hK : 0 ≤ K ∧ K + 99 ≤ 100000) (hk : ∀ (u1 v1 : Int) (G : Hp), Gl u1 v1 (K + 99) G → R X SH 159 11283 1876 (LWl X b i) [] G Z) : R X SH 159 11283 1245 (LWl X b i) [] F Z := by
  obtain ⟨hX, hs, hb, hbA⟩ := hW
  refine R_aload_1 hX dL_law_1245 ?_
  refine R_aload_0_any hX dL_law_1246 ?_
  refine R_iload_3 hX dL_law_1247 ?_
  refine R_iconst hX dL_law_1248 ?_
  refine R_iadd hX dL_law_1249 ?_
  refine R_sld hX hs hb hbA (by omega) (by omega) dL_law_1250 ?_
  refine R_aload_0_any hX dL_law_1251 ?_
  refine R_iload_3 hX dL_law_1252 ?_
  refine R_iconst hX dL_law_1253 ?_
  refine R_iadd hX dL_law_1254 ?_
  refine R_sld hX hs hb hbA (by omega) (by omega) dL_law_1255 ?_
  refine R_v2i hX dL_law_1256 li_L_166 mk_X11_ageAt mi_X11_ageAt rfl o_0 (c_ageAt rfl h.1.1.1 h.2.1 (i32_rng _) (i32_rng _)) ⟨⟨by decide, by decide⟩, by decide, by decide, rfl, Nat.le_of_ble_eq_true rfl, rfl⟩ (fun x1 F1 h1 => ?_)
  have hF1 : ∀ a : Int, 136 ≤ a → F1 a = F a := fun a _ => by rw [h1.2]
  have hR : RI K F1 := h.ri.lo hF1
  refine R_aload_2 hX dL_law_1259 ?_
  refine R_aload_0_any hX dL_law_1260 ?_
  refine R_iload_3 hX dL_law_1261 ?_
  refine R_iconst hX dL_law_1262 ?_
  refine R_iadd hX dL_law_1263 ?_
  refine R_sld hX hs hb hbA (by omega) (by omega) dL_law_1264 ?_
  refine R_aload_0_any hX dL_law_1265 ?_
  refine R_iload_3 hX dL_law_1266 ?_
  refine R_iconst hX dL_law_1267 ?_
  refine R_iadd hX dL_law_1268 ?_
  refine R_sld hX hs hb hbA (by omega) (by omega) dL_law_1269 ?_
  refine R_v2i hX dL_law_1270 li_L_169 mk_X12_ageAt mi_X12_ageAt rfl o_136 (r_ageAt hR (i32_rng _) (i32_rng _)) ⟨⟨by decide, by decide⟩, by decide, by decide, rfl, Nat.le_of_ble_eq_true rfl, rfl⟩ (fun x2 F2 h2 => ?_)
  have e := g_ageAt h h1 h2
  exact R_icmpeqS hX dL_law_1273 (by decide) e.1 (hk u v _ (e.2.mono ⟨by omega, by omega⟩))
theorem lwc_38 {X : KX} {Z : State → Prop} {b Ln : Nat} {f : Nat → Int32} {i u v K : Int} {F : Hp} (hW : LwX X b Ln f) (hi : 0 ≤ i ∧ i + 6 ≤ Ln ∧ (Ln : Int) ≤ 3072) (h : Gl u v K F) (hK : 0 ≤ K ∧ K + 99 ≤ 100000) (hk : ∀ (u1 v1 : Int) (G : Hp), Gl u1 v1 (K + 99) G → R X SH 159 11283 1876 (LWl X b i) [] G Z) : R X SH 159 11283 1278 (LWl X b i) [] F Z := by
  obtain ⟨hX, hs, hb, hbA⟩ := hW
  refine R_aload_1 hX dL_law_1278 ?_
  refine R_aload_0_any hX dL_law_1279 ?_
  refine R_iload_3 hX dL_law_1280 ?_
  refine R_iconst hX dL_law_1281 ?_
  refine R_iadd hX dL_law_1282 ?_
  refine R_sld hX hs hb hbA (by omega) (by omega) dL_law_1283 ?_
  refine R_v1i hX dL_law_1284 li_L_170 mk_X11_advance mi_X11_advance rfl o_0 (c_advance rfl h.1.1.1 h.2.1 (i32_rng _)) ⟨⟨by decide, by decide⟩, by decide, by decide, rfl, Nat.le_of_ble_eq_true rfl, rfl⟩ (fun x1 F1 h1 => ?_)
  have hF1 : ∀ a : Int, 136 ≤ a → F1 a = F a := fun a z => by
    rcases h1 with ⟨-, -, e⟩ | ⟨-, -, e⟩
    · rw [e]
    · rw [e, tksS_r (by omega)]
  have hR : RI K F1 := h.ri.lo hF1
  refine R_aload_2 hX dL_law_1287 ?_
  refine R_aload_0_any hX dL_law_1288 ?_
  refine R_iload_3 hX dL_law_1289 ?_
  refine R_iconst hX dL_law_1290 ?_
  refine R_iadd hX dL_law_1291 ?_
  refine R_sld hX hs hb hbA (by omega) (by omega) dL_law_1292 ?_
  refine R_v1i hX dL_law_1293 li_L_173 mk_X12_advance mi_X12_advance rfl o_136 (r_advance hR (by omega) (i32_rng _)) ⟨⟨by decide, by decide⟩, by decide, by decide, rfl, Nat.le_of_ble_eq_true rfl, rfl⟩ (fun x2 F2 h2 => ?_)
  have e := g_advance h h1 h2
  exact R_icmpeqS hX dL_law_1296 (by decide) e.1 (hk u v _ (e.2.mono ⟨by omega, by omega⟩))
theorem lwc_39 {X : KX} {Z : State → Prop} {b Ln : Nat} {f : Nat → Int32} {i u v K : Int} {F : Hp} (hW : LwX X b Ln f) (hi : 0 ≤ i ∧ i + 6 ≤ Ln ∧ (Ln : Int) ≤ 3072) (h : Gl u v K F) (hK : 0 ≤ K ∧ K + 99 ≤ 100000) (hk : ∀ (u1 v1 : Int) (G : Hp), Gl u1 v1 (K + 99) G → R X SH 159 11283 1876 (LWl X b i) [] G Z) : R X SH 159 11283 1301 (LWl X b i) [] F Z := by
  obtain ⟨hX, hs, hb, hbA⟩ := hW
  refine R_aload_1 hX dL_law_1301 ?_
  refine R_aload_0_any hX dL_law_1302 ?_
  refine R_iload_3 hX dL_law_1303 ?_
  refine R_iconst hX dL_law_1304 ?_
  refine R_iadd hX dL_law_1305 ?_
  refine R_sld hX hs hb hbA (by omega) (by omega) dL_law_1306 ?_
  refine R_aload_0_any hX dL_law_1307 ?_
  refine R_iload_3 hX dL_law_1308 ?_
  refine R_iconst hX dL_law_1309 ?_
  refine R_iadd hX dL_law_1310 ?_
  refine R_sld hX hs hb hbA (by omega) (by omega) dL_law_1311 ?_
  refine R_v2i hX dL_law_1312 li_L_174 mk_X11_forecast mi_X11_forecast rfl o_0 (c_forecast rfl h.1.1.1 h.2.1 rfl (i32_rng _) (i32_rng _)) ⟨⟨by decide, by decide⟩, by decide, by decide, rfl, Nat.le_of_ble_eq_true rfl, rfl⟩ (fun x1 F1 h1 => ?_)
  have hF1 : ∀ a : Int, 136 ≤ a → F1 a = F a := fun a z => by
    rcases h1 with ⟨-, -, e⟩ | ⟨-, -, e⟩
    · rw [e]
    · rw [e, tksS_r (by omega), cpT_r (by omega)]
  have hR : RI K F1 := h.ri.lo hF1
  refine R_aload_2 hX dL_law_1315 ?_
  refine R_aload_0_any hX dL_law_1316 ?_
  refine R_iload_3 hX dL_law_1317 ?_
  refine R_iconst hX dL_law_1318 ?_
  refine R_iadd hX dL_law_1319 ?_
  refine R_sld hX hs hb hbA (by omega) (by omega) dL_law_1320 ?_
  refine R_aload_0_any hX dL_law_1321 ?_
  refine R_iload_3 hX dL_law_1322 ?_
  refine R_iconst hX dL_law_1323 ?_
  refine R_iadd hX dL_law_1324 ?_
  refine R_sld hX hs hb hbA (by omega) (by omega) dL_law_1325 ?_
  refine R_v2i hX dL_law_1326 li_L_177 mk_X12_forecast mi_X12_forecast rfl o_136 (r_forecast hR (by omega) (i32_rng _) (i32_rng _)) ⟨⟨by decide, by decide⟩, by decide, by decide, rfl, Nat.le_of_ble_eq_true rfl, rfl⟩ (fun x2 F2 h2 => ?_)
  have e := g_forecast h h1 h2
  exact R_icmpeqS hX dL_law_1329 (by decide) e.1 (hk u v _ (e.2.mono ⟨by omega, by omega⟩))
theorem lwc_40 {X : KX} {Z : State → Prop} {b Ln : Nat} {f : Nat → Int32} {i u v K : Int} {F : Hp} (hW : LwX X b Ln f) (hi : 0 ≤ i ∧ i + 6 ≤ Ln ∧ (Ln : Int) ≤ 3072) (h : Gl u v K F) (hK : 0 ≤ K ∧ K + 99 ≤ 100000) (hk : ∀ (u1 v1 : Int) (G : Hp), Gl u1 v1 (K + 99) G → R X SH 159 11283 1876 (LWl X b i) [] G Z) : R X SH 159 11283 1334 (LWl X b i) [] F Z := by
  obtain ⟨hX, hs, hb, hbA⟩ := hW
  refine R_aload_1 hX dL_law_1334 ?_
  refine R_aload_0_any hX dL_law_1335 ?_
  refine R_iload_3 hX dL_law_1336 ?_
  refine R_iconst hX dL_law_1337 ?_
  refine R_iadd hX dL_law_1338 ?_
  refine R_sld hX hs hb hbA (by omega) (by omega) dL_law_1339 ?_
  refine R_v1i hX dL_law_1340 li_L_178 mk_X11_drainTime mi_X11_drainTime rfl o_0 (c_drainTime rfl h.1.1.1 h.2.1 rfl (i32_rng _)) ⟨⟨by decide, by decide⟩, by decide, by decide, rfl, Nat.le_of_ble_eq_true rfl, rfl⟩ (fun x1 F1 h1 => ?_)
  have hF1 : ∀ a : Int, 136 ≤ a → F1 a = F a := fun a z => by
    rcases h1 with ⟨-, -, e⟩ | ⟨-, -, e⟩
    · rw [e]
    · exact e a (by omega)
  have hR : RI K F1 := h.ri.lo hF1
  refine R_aload_2 hX dL_law_1343 ?_
  refine R_aload_0_any hX dL_law_1344 ?_
  refine R_iload_3 hX dL_law_1345 ?_
  refine R_iconst hX dL_law_1346 ?_
  refine R_iadd hX dL_law_1347 ?_
  refine R_sld hX hs hb hbA (by omega) (by omega) dL_law_1348 ?_
  refine R_v1i hX dL_law_1349 li_L_181 mk_X12_drainTime mi_X12_drainTime rfl o_136 (r_drainTime hR (by omega) (i32_rng _)) ⟨⟨by decide, by decide⟩, by decide, by decide, rfl, Nat.le_of_ble_eq_true rfl, rfl⟩ (fun x2 F2 h2 => ?_)
  have e := g_drainTime h h1 h2
  exact R_icmpeqS hX dL_law_1352 (by decide) e.1 (hk u v _ (e.2.mono ⟨by omega, by omega⟩))
theorem lwc_41 {X : KX} {Z : State → Prop} {b Ln : Nat} {f : Nat → Int32} {i u v K : Int} {F : Hp} (hW : LwX X b Ln f) (hi : 0 ≤ i ∧ i + 6 ≤ Ln ∧ (Ln : Int) ≤ 3072) (h : Gl u v K F) (hK : 0 ≤ K ∧ K + 99 ≤ 100000) (hk : ∀ (u1 v1 : Int) (G : Hp), Gl u1 v1 (K + 99) G → R X SH 159 11283 1876 (LWl X b i) [] G Z) : R X SH 159 11283 1357 (LWl X b i) [] F Z := by
  obtain ⟨hX, hs, hb, hbA⟩ := hW
  refine R_aload_1 hX dL_law_1357 ?_
  refine R_aload_0_any hX dL_law_1358 ?_
  refine R_iload_3 hX dL_law_1359 ?_
  refine R_iconst hX dL_law_1360 ?_
  refine R_iadd hX dL_law_1361 ?_
  refine R_sld hX hs hb hbA (by omega) (by omega) dL_law_1362 ?_
  refine R_v1i hX dL_law_1363 li_L_182 mk_X11_sentCost mi_X11_sentCost rfl o_0 (c_sentCost rfl h.1.1.1 h.2.1 (i32_rng _)) ⟨⟨by decide, by decide⟩, by decide, by decide, rfl, Nat.le_of_ble_eq_true rfl, rfl⟩ (fun x1 F1 h1 => ?_)
  have hF1 : ∀ a : Int, 136 ≤ a → F1 a = F a := fun a _ => by rw [h1.2]
  have hR : RI K F1 := h.ri.lo hF1
  refine R_aload_2 hX dL_law_1366 ?_
  refine R_aload_0_any hX dL_law_1367 ?_
  refine R_iload_3 hX dL_law_1368 ?_
  refine R_iconst hX dL_law_1369 ?_
  refine R_iadd hX dL_law_1370 ?_
  refine R_sld hX hs hb hbA (by omega) (by omega) dL_law_1371 ?_
  refine R_v1i hX dL_law_1372 li_L_185 mk_X12_sentCost mi_X12_sentCost rfl o_136 (r_sentCost hR (i32_rng _)) ⟨⟨by decide, by decide⟩, by decide, by decide, rfl, Nat.le_of_ble_eq_true rfl, rfl⟩ (fun x2 F2 h2 => ?_)
  have e := g_sentCost h h1 h2
  exact R_icmpeqS hX dL_law_1375 (by decide) e.1 (hk u v _ (e.2.mono ⟨by omega, by omega⟩))
theorem lwc_42 {X : KX} {Z : State → Prop} {b Ln : Nat} {f : Nat → Int32} {i u v K : Int} {F : Hp} (hW : LwX X b Ln f) (hi : 0 ≤ i ∧ i + 6 ≤ Ln ∧ (Ln : Int) ≤ 3072) (h : Gl u v K F) (hK : 0 ≤ K ∧ K + 99 ≤ 100000) (hk : ∀ (u1 v1 : Int) (G : Hp), Gl u1 v1 (K + 99) G → R X SH 159 11283 1876 (LWl X b i) [] G Z) : R X SH 159 11283 1380 (LWl X b i) [] F Z := by
  obtain ⟨hX, hs, hb, hbA⟩ := hW
  refine R_aload_1 hX dL_law_1380 ?_
  refine R_aload_0_any hX dL_law_1381 ?_
  refine R_iload_3 hX dL_law_1382 ?_
  refine R_iconst hX dL_law_1383 ?_
  refine R_iadd hX dL_law_1384 ?_
  refine R_sld hX hs hb hbA (by omega) (by omega) dL_law_1385 ?_
  refine R_v1i hX dL_law_1386 li_L_186 mk_X11_sentCount mi_X11_sentCount rfl o_0 (c_sentCount rfl h.1.1.1 h.2.1 (i32_rng _)) ⟨⟨by decide, by decide⟩, by decide, by decide, rfl, Nat.le_of_ble_eq_true rfl, rfl⟩ (fun x1 F1 h1 => ?_)
  have hF1 : ∀ a : Int, 136 ≤ a → F1 a = F a := fun a _ => by rw [h1.2]
  have hR : RI K F1 := h.ri.lo hF1
  refine R_aload_2 hX dL_law_1389 ?_
  refine R_aload_0_any hX dL_law_1390 ?_
  refine R_iload_3 hX dL_law_1391 ?_
  refine R_iconst hX dL_law_1392 ?_
  refine R_iadd hX dL_law_1393 ?_
  refine R_sld hX hs hb hbA (by omega) (by omega) dL_law_1394 ?_
  refine R_v1i hX dL_law_1395 li_L_189 mk_X12_sentCount mi_X12_sentCount rfl o_136 (r_sentCount hR (i32_rng _)) ⟨⟨by decide, by decide⟩, by decide, by decide, rfl, Nat.le_of_ble_eq_true rfl, rfl⟩ (fun x2 F2 h2 => ?_)
  have e := g_sentCount h h1 h2
  exact R_icmpeqS hX dL_law_1398 (by decide) e.1 (hk u v _ (e.2.mono ⟨by omega, by omega⟩))
theorem lwc_43 {X : KX} {Z : State → Prop} {b Ln : Nat} {f : Nat → Int32} {i u v K : Int} {F : Hp} (hW : LwX X b Ln f) (hi : 0 ≤ i ∧ i + 6 ≤ Ln ∧ (Ln : Int) ≤ 3072) (h : Gl u v K F) (hK : 0 ≤ K ∧ K + 99 ≤ 100000) (hk : ∀ (u1 v1 : Int) (G : Hp), Gl u1 v1 (K + 99) G → R X SH 159 11283 1876 (LWl X b i) [] G Z) : R X SH 159 11283 1403 (LWl X b i) [] F Z := by
  obtain ⟨hX, hs, hb, hbA⟩ := hW
  refine R_aload_1 hX dL_law_1403 ?_
  refine R_aload_0_any hX dL_law_1404 ?_
  refine R_iload_3 hX dL_law_1405 ?_
  refine R_iconst hX dL_law_1406 ?_
  refine R_iadd hX dL_law_1407 ?_
  refine R_sld hX hs hb hbA (by omega) (by omega) dL_law_1408 ?_
  refine R_v1i hX dL_law_1409 li_L_190 mk_X11_borrowedCost mi_X11_borrowedCost rfl o_0 (c_borrowedCost rfl h.1.1.1 h.2.1 (i32_rng _)) ⟨⟨by decide, by decide⟩, by decide, by decide, rfl, Nat.le_of_ble_eq_true rfl, rfl⟩ (fun x1 F1 h1 => ?_)
  have hF1 : ∀ a : Int, 136 ≤ a → F1 a = F a := fun a _ => by rw [h1.2]
  have hR : RI K F1 := h.ri.lo hF1
  refine R_aload_2 hX dL_law_1412 ?_
  refine R_aload_0_any hX dL_law_1413 ?_
  refine R_iload_3 hX dL_law_1414 ?_
  refine R_iconst hX dL_law_1415 ?_
  refine R_iadd hX dL_law_1416 ?_
  refine R_sld hX hs hb hbA (by omega) (by omega) dL_law_1417 ?_
  refine R_v1i hX dL_law_1418 li_L_193 mk_X12_borrowedCost mi_X12_borrowedCost rfl o_136 (r_borrowedCost hR (i32_rng _)) ⟨⟨by decide, by decide⟩, by decide, by decide, rfl, Nat.le_of_ble_eq_true rfl, rfl⟩ (fun x2 F2 h2 => ?_)
  have e := g_borrowedCost h h1 h2
  exact R_icmpeqS hX dL_law_1421 (by decide) e.1 (hk u v _ (e.2.mono ⟨by omega, by omega⟩))
theorem lwc_44 {X : KX} {Z : State → Prop} {b Ln : Nat} {f : Nat → Int32} {i u v K : Int} {F : Hp} (hW : LwX X b Ln f) (hi : 0 ≤ i ∧ i + 6 ≤ Ln ∧ (Ln : Int) ≤ 3072) (h : Gl u v K F) (hK : 0 ≤ K ∧ K + 99 ≤ 100000) (hk : ∀ (u1 v1 : Int) (G : Hp), Gl u1 v1 (K + 99) G → R X SH 159 11283 1876 (LWl X b i) [] G Z) : R X SH 159 11283 1426 (LWl X b i) [] F Z := by
  obtain ⟨hX, hs, hb, hbA⟩ := hW
  refine R_aload_1 hX dL_law_1426 ?_
  refine R_aload_0_any hX dL_law_1427 ?_
  refine R_iload_3 hX dL_law_1428 ?_
  refine R_iconst hX dL_law_1429 ?_
  refine R_iadd hX dL_law_1430 ?_
  refine R_sld hX hs hb hbA (by omega) (by omega) dL_law_1431 ?_
  refine R_v1i hX dL_law_1432 li_L_194 mk_X11_lentCost mi_X11_lentCost rfl o_0 (c_lentCost rfl h.1.1.1 h.2.1 (i32_rng _)) ⟨⟨by decide, by decide⟩, by decide, by decide, rfl, Nat.le_of_ble_eq_true rfl, rfl⟩ (fun x1 F1 h1 => ?_)
  have hF1 : ∀ a : Int, 136 ≤ a → F1 a = F a := fun a _ => by rw [h1.2]
  have hR : RI K F1 := h.ri.lo hF1
  refine R_aload_2 hX dL_law_1435 ?_
  refine R_aload_0_any hX dL_law_1436 ?_
  refine R_iload_3 hX dL_law_1437 ?_
  refine R_iconst hX dL_law_1438 ?_
  refine R_iadd hX dL_law_1439 ?_
  refine R_sld hX hs hb hbA (by omega) (by omega) dL_law_1440 ?_
  refine R_v1i hX dL_law_1441 li_L_197 mk_X12_lentCost mi_X12_lentCost rfl o_136 (r_lentCost hR (i32_rng _)) ⟨⟨by decide, by decide⟩, by decide, by decide, rfl, Nat.le_of_ble_eq_true rfl, rfl⟩ (fun x2 F2 h2 => ?_)
  have e := g_lentCost h h1 h2
  exact R_icmpeqS hX dL_law_1444 (by decide) e.1 (hk u v _ (e.2.mono ⟨by omega, by omega⟩))
theorem lwc_45 {X : KX} {Z : State → Prop} {b Ln : Nat} {f : Nat → Int32} {i u v K : Int} {F : Hp} (hW : LwX X b Ln f) (hi : 0 ≤ i ∧ i + 6 ≤ Ln ∧ (Ln : Int) ≤ 3072) (h : Gl u v K F) (hK : 0 ≤ K ∧ K + 99 ≤ 100000) (hk : ∀ (u1 v1 : Int) (G : Hp), Gl u1 v1 (K + 99) G → R X SH 159 11283 1876 (LWl X b i) [] G Z) : R X SH 159 11283 1449 (LWl X b i) [] F Z := by
  obtain ⟨hX, hs, hb, hbA⟩ := hW
  refine R_aload_1 hX dL_law_1449 ?_
  refine R_aload_0_any hX dL_law_1450 ?_
  refine R_iload_3 hX dL_law_1451 ?_
  refine R_iconst hX dL_law_1452 ?_
  refine R_iadd hX dL_law_1453 ?_
  refine R_sld hX hs hb hbA (by omega) (by omega) dL_law_1454 ?_
  refine R_v1i hX dL_law_1455 li_L_198 mk_X11_droppedCount mi_X11_droppedCount rfl o_0 (c_droppedCount rfl h.1.1.1 h.2.1 (i32_rng _)) ⟨⟨by decide, by decide⟩, by decide, by decide, rfl, Nat.le_of_ble_eq_true rfl, rfl⟩ (fun x1 F1 h1 => ?_)
  have hF1 : ∀ a : Int, 136 ≤ a → F1 a = F a := fun a _ => by rw [h1.2]
  have hR : RI K F1 := h.ri.lo hF1
  refine R_aload_2 hX dL_law_1458 ?_
  refine R_aload_0_any hX dL_law_1459 ?_
  refine R_iload_3 hX dL_law_1460 ?_
  refine R_iconst hX dL_law_1461 ?_
  refine R_iadd hX dL_law_1462 ?_
  refine R_sld hX hs hb hbA (by omega) (by omega) dL_law_1463 ?_
  refine R_v1i hX dL_law_1464 li_L_201 mk_X12_droppedCount mi_X12_droppedCount rfl o_136 (r_droppedCount hR (i32_rng _)) ⟨⟨by decide, by decide⟩, by decide, by decide, rfl, Nat.le_of_ble_eq_true rfl, rfl⟩ (fun x2 F2 h2 => ?_)
  have e := g_droppedCount h h1 h2
  exact R_icmpeqS hX dL_law_1467 (by decide) e.1 (hk u v _ (e.2.mono ⟨by omega, by omega⟩))
theorem lwc_46 {X : KX} {Z : State → Prop} {b Ln : Nat} {f : Nat → Int32} {i u v K : Int} {F : Hp} (hW : LwX X b Ln f) (hi : 0 ≤ i ∧ i + 6 ≤ Ln ∧ (Ln : Int) ≤ 3072) (h : Gl u v K F) (hK : 0 ≤ K ∧ K + 99 ≤ 100000) (hk : ∀ (u1 v1 : Int) (G : Hp), Gl u1 v1 (K + 99) G → R X SH 159 11283 1876 (LWl X b i) [] G Z) : R X SH 159 11283 1472 (LWl X b i) [] F Z := by
  obtain ⟨hX, hs, hb, hbA⟩ := hW
  refine R_aload_1 hX dL_law_1472 ?_
  refine R_v0i hX dL_law_1473 li_L_202 mk_X11_fairness mi_X11_fairness rfl o_0 (c_fairness rfl h.1.1.1 h.2.1  (by omega)) ⟨⟨by decide, by decide⟩, by decide, by decide, rfl, Nat.le_of_ble_eq_true rfl, rfl⟩ (fun x1 F1 h1 => ?_)
  have hF1 : ∀ a : Int, 136 ≤ a → F1 a = F a := fun a _ => by rw [h1.2]
  have hR : RI K F1 := h.ri.lo hF1
  refine R_aload_2 hX dL_law_1476 ?_
  refine R_v0i hX dL_law_1477 li_L_205 mk_X12_fairness mi_X12_fairness rfl o_136 (r_fairness hR  (by omega)) ⟨⟨by decide, by decide⟩, by decide, by decide, rfl, Nat.le_of_ble_eq_true rfl, rfl⟩ (fun x2 F2 h2 => ?_)
  have e := g_fairness h h1 h2
  exact R_icmpeqS hX dL_law_1480 (by decide) e.1 (hk u v _ (e.2.mono ⟨by omega, by omega⟩))
theorem lwc_47 {X : KX} {Z : State → Prop} {b Ln : Nat} {f : Nat → Int32} {i u v K : Int} {F : Hp} (hW : LwX X b Ln f) (hi : 0 ≤ i ∧ i + 6 ≤ Ln ∧ (Ln : Int) ≤ 3072) (h : Gl u v K F) (hK : 0 ≤ K ∧ K + 99 ≤ 100000) (hk : ∀ (u1 v1 : Int) (G : Hp), Gl u1 v1 (K + 99) G → R X SH 159 11283 1876 (LWl X b i) [] G Z) : R X SH 159 11283 1485 (LWl X b i) [] F Z := by
  obtain ⟨hX, hs, hb, hbA⟩ := hW
  refine R_aload_1 hX dL_law_1485 ?_
  refine R_aload_0_any hX dL_law_1486 ?_
  refine R_iload_3 hX dL_law_1487 ?_
  refine R_iconst hX dL_law_1488 ?_
  refine R_iadd hX dL_law_1489 ?_
  refine R_sld hX hs hb hbA (by omega) (by omega) dL_law_1490 ?_
  refine R_v1i hX dL_law_1491 li_L_206 mk_X11_fairShare mi_X11_fairShare rfl o_0 (c_fairShare rfl h.1.1.1 h.2.1 (i32_rng _) (by omega)) ⟨⟨by decide, by decide⟩, by decide, by decide, rfl, Nat.le_of_ble_eq_true rfl, rfl⟩ (fun x1 F1 h1 => ?_)
  have hF1 : ∀ a : Int, 136 ≤ a → F1 a = F a := fun a _ => by rw [h1.2]
  have hR : RI K F1 := h.ri.lo hF1
  refine R_aload_2 hX dL_law_1494 ?_
  refine R_aload_0_any hX dL_law_1495 ?_
  refine R_iload_3 hX dL_law_1496 ?_
  refine R_iconst hX dL_law_1497 ?_
  refine R_iadd hX dL_law_1498 ?_
  refine R_sld hX hs hb hbA (by omega) (by omega) dL_law_1499 ?_
  refine R_v1i hX dL_law_1500 li_L_209 mk_X12_fairShare mi_X12_fairShare rfl o_136 (r_fairShare hR (i32_rng _) (by omega)) ⟨⟨by decide, by decide⟩, by decide, by decide, rfl, Nat.le_of_ble_eq_true rfl, rfl⟩ (fun x2 F2 h2 => ?_)
  have e := g_fairShare h h1 h2
  exact R_icmpeqS hX dL_law_1503 (by decide) e.1 (hk u v _ (e.2.mono ⟨by omega, by omega⟩))
theorem lwc_48 {X : KX} {Z : State → Prop} {b Ln : Nat} {f : Nat → Int32} {i u v K : Int} {F : Hp} (hW : LwX X b Ln f) (hi : 0 ≤ i ∧ i + 6 ≤ Ln ∧ (Ln : Int) ≤ 3072) (h : Gl u v K F) (hK : 0 ≤ K ∧ K + 99 ≤ 100000) (hk : ∀ (u1 v1 : Int) (G : Hp), Gl u1 v1 (K + 99) G → R X SH 159 11283 1876 (LWl X b i) [] G Z) : R X SH 159 11283 1508 (LWl X b i) [] F Z := by
  obtain ⟨hX, hs, hb, hbA⟩ := hW
  refine R_aload_1 hX dL_law_1508 ?_
  refine R_v0i hX dL_law_1509 li_L_210 mk_X11_mostServed mi_X11_mostServed rfl o_0 (c_mostServed rfl h.1.1.1 h.2.1) ⟨⟨by decide, by decide⟩, by decide, by decide, rfl, Nat.le_of_ble_eq_true rfl, rfl⟩ (fun x1 F1 h1 => ?_)
  have hF1 : ∀ a : Int, 136 ≤ a → F1 a = F a := fun a _ => by rw [h1.2]
  have hR : RI K F1 := h.ri.lo hF1
  refine R_aload_2 hX dL_law_1512 ?_
  refine R_v0i hX dL_law_1513 li_L_213 mk_X12_mostServed mi_X12_mostServed rfl o_136 (r_mostServed hR (by omega)) ⟨⟨by decide, by decide⟩, by decide, by decide, rfl, Nat.le_of_ble_eq_true rfl, rfl⟩ (fun x2 F2 h2 => ?_)
  have e := g_mostServed h h1 h2
  exact R_icmpeqS hX dL_law_1516 (by decide) e.1 (hk u v _ (e.2.mono ⟨by omega, by omega⟩))
theorem lwc_49 {X : KX} {Z : State → Prop} {b Ln : Nat} {f : Nat → Int32} {i u v K : Int} {F : Hp} (hW : LwX X b Ln f) (hi : 0 ≤ i ∧ i + 6 ≤ Ln ∧ (Ln : Int) ≤ 3072) (h : Gl u v K F) (hK : 0 ≤ K ∧ K + 99 ≤ 100000) (hk : ∀ (u1 v1 : Int) (G : Hp), Gl u1 v1 (K + 99) G → R X SH 159 11283 1876 (LWl X b i) [] G Z) : R X SH 159 11283 1521 (LWl X b i) [] F Z := by
  obtain ⟨hX, hs, hb, hbA⟩ := hW
  refine R_aload_1 hX dL_law_1521 ?_
  refine R_aload_0_any hX dL_law_1522 ?_
  refine R_iload_3 hX dL_law_1523 ?_
  refine R_iconst hX dL_law_1524 ?_
  refine R_iadd hX dL_law_1525 ?_
  refine R_sld hX hs hb hbA (by omega) (by omega) dL_law_1526 ?_
  refine R_v1i hX dL_law_1527 li_L_214 mk_X11_busiestCost mi_X11_busiestCost rfl o_0 (c_busiestCost rfl h.1.1.1 h.2.1 (i32_rng _)) ⟨⟨by decide, by decide⟩, by decide, by decide, rfl, Nat.le_of_ble_eq_true rfl, rfl⟩ (fun x1 F1 h1 => ?_)
  have hF1 : ∀ a : Int, 136 ≤ a → F1 a = F a := fun a _ => by rw [h1.2]
  have hR : RI K F1 := h.ri.lo hF1
  refine R_aload_2 hX dL_law_1530 ?_
  refine R_aload_0_any hX dL_law_1531 ?_
  refine R_iload_3 hX dL_law_1532 ?_
  refine R_iconst hX dL_law_1533 ?_
  refine R_iadd hX dL_law_1534 ?_
  refine R_sld hX hs hb hbA (by omega) (by omega) dL_law_1535 ?_
  refine R_v1i hX dL_law_1536 li_L_217 mk_X12_busiestCost mi_X12_busiestCost rfl o_136 (r_busiestCost hR (i32_rng _)) ⟨⟨by decide, by decide⟩, by decide, by decide, rfl, Nat.le_of_ble_eq_true rfl, rfl⟩ (fun x2 F2 h2 => ?_)
  have e := g_busiestCost h h1 h2
  exact R_icmpeqS hX dL_law_1539 (by decide) e.1 (hk u v _ (e.2.mono ⟨by omega, by omega⟩))
theorem lwc_50 {X : KX} {Z : State → Prop} {b Ln : Nat} {f : Nat → Int32} {i u v K : Int} {F : Hp} (hW : LwX X b Ln f) (hi : 0 ≤ i ∧ i + 6 ≤ Ln ∧ (Ln : Int) ≤ 3072) (h : Gl u v K F) (hK : 0 ≤ K ∧ K + 99 ≤ 100000) (hk : ∀ (u1 v1 : Int) (G : Hp), Gl u1 v1 (K + 99) G → R X SH 159 11283 1876 (LWl X b i) [] G Z) : R X SH 159 11283 1544 (LWl X b i) [] F Z := by
  obtain ⟨hX, hs, hb, hbA⟩ := hW
  refine R_aload_1 hX dL_law_1544 ?_
  refine R_v0i hX dL_law_1545 li_L_218 mk_X11_logCount mi_X11_logCount rfl o_0 (c_logCount rfl h.1.1.1 h.2.1) ⟨⟨by decide, by decide⟩, by decide, by decide, rfl, Nat.le_of_ble_eq_true rfl, rfl⟩ (fun x1 F1 h1 => ?_)
  have hF1 : ∀ a : Int, 136 ≤ a → F1 a = F a := fun a _ => by rw [h1.2]
  have hR : RI K F1 := h.ri.lo hF1
  refine R_aload_2 hX dL_law_1548 ?_
  refine R_v0i hX dL_law_1549 li_L_221 mk_X12_logCount mi_X12_logCount rfl o_136 (r_logCount hR) ⟨⟨by decide, by decide⟩, by decide, by decide, rfl, Nat.le_of_ble_eq_true rfl, rfl⟩ (fun x2 F2 h2 => ?_)
  have e := g_logCount h h1 h2
  exact R_icmpeqS hX dL_law_1552 (by decide) e.1 (hk u v _ (e.2.mono ⟨by omega, by omega⟩))
theorem lwc_51 {X : KX} {Z : State → Prop} {b Ln : Nat} {f : Nat → Int32} {i u v K : Int} {F : Hp} (hW : LwX X b Ln f) (hi : 0 ≤ i ∧ i + 6 ≤ Ln ∧ (Ln : Int) ≤ 3072) (h : Gl u v K F) (hK : 0 ≤ K ∧ K + 99 ≤ 100000) (hk : ∀ (u1 v1 : Int) (G : Hp), Gl u1 v1 (K + 99) G → R X SH 159 11283 1876 (LWl X b i) [] G Z) : R X SH 159 11283 1557 (LWl X b i) [] F Z := by
  obtain ⟨hX, hs, hb, hbA⟩ := hW
  refine R_aload_1 hX dL_law_1557 ?_
  refine R_aload_0_any hX dL_law_1558 ?_
  refine R_iload_3 hX dL_law_1559 ?_
  refine R_iconst hX dL_law_1560 ?_
  refine R_iadd hX dL_law_1561 ?_
  refine R_sld hX hs hb hbA (by omega) (by omega) dL_law_1562 ?_
  refine R_v1i hX dL_law_1563 li_L_222 mk_X11_loggedLeaf mi_X11_loggedLeaf rfl o_0 (c_loggedLeaf rfl h.1.1.1 h.2.1 (i32_rng _)) ⟨⟨by decide, by decide⟩, by decide, by decide, rfl, Nat.le_of_ble_eq_true rfl, rfl⟩ (fun x1 F1 h1 => ?_)
  have hF1 : ∀ a : Int, 136 ≤ a → F1 a = F a := fun a _ => by rw [h1.2]
  have hR : RI K F1 := h.ri.lo hF1
  refine R_aload_2 hX dL_law_1566 ?_
  refine R_aload_0_any hX dL_law_1567 ?_
  refine R_iload_3 hX dL_law_1568 ?_
  refine R_iconst hX dL_law_1569 ?_
  refine R_iadd hX dL_law_1570 ?_
  refine R_sld hX hs hb hbA (by omega) (by omega) dL_law_1571 ?_
  refine R_v1i hX dL_law_1572 li_L_225 mk_X12_loggedLeaf mi_X12_loggedLeaf rfl o_136 (r_loggedLeaf hR (i32_rng _)) ⟨⟨by decide, by decide⟩, by decide, by decide, rfl, Nat.le_of_ble_eq_true rfl, rfl⟩ (fun x2 F2 h2 => ?_)
  have e := g_loggedLeaf h h1 h2
  exact R_icmpeqS hX dL_law_1575 (by decide) e.1 (hk u v _ (e.2.mono ⟨by omega, by omega⟩))
theorem lwc_52 {X : KX} {Z : State → Prop} {b Ln : Nat} {f : Nat → Int32} {i u v K : Int} {F : Hp} (hW : LwX X b Ln f) (hi : 0 ≤ i ∧ i + 6 ≤ Ln ∧ (Ln : Int) ≤ 3072) (h : Gl u v K F) (hK : 0 ≤ K ∧ K + 99 ≤ 100000) (hk : ∀ (u1 v1 : Int) (G : Hp), Gl u1 v1 (K + 99) G → R X SH 159 11283 1876 (LWl X b i) [] G Z) : R X SH 159 11283 1580 (LWl X b i) [] F Z := by
  obtain ⟨hX, hs, hb, hbA⟩ := hW
  refine R_aload_1 hX dL_law_1580 ?_
  refine R_aload_0_any hX dL_law_1581 ?_
  refine R_iload_3 hX dL_law_1582 ?_
  refine R_iconst hX dL_law_1583 ?_
  refine R_iadd hX dL_law_1584 ?_
  refine R_sld hX hs hb hbA (by omega) (by omega) dL_law_1585 ?_
  refine R_v1i hX dL_law_1586 li_L_226 mk_X11_loggedCost mi_X11_loggedCost rfl o_0 (c_loggedCost rfl h.1.1.1 h.2.1 (i32_rng _)) ⟨⟨by decide, by decide⟩, by decide, by decide, rfl, Nat.le_of_ble_eq_true rfl, rfl⟩ (fun x1 F1 h1 => ?_)
  have hF1 : ∀ a : Int, 136 ≤ a → F1 a = F a := fun a _ => by rw [h1.2]
  have hR : RI K F1 := h.ri.lo hF1
  refine R_aload_2 hX dL_law_1589 ?_
  refine R_aload_0_any hX dL_law_1590 ?_
  refine R_iload_3 hX dL_law_1591 ?_
  refine R_iconst hX dL_law_1592 ?_
  refine R_iadd hX dL_law_1593 ?_
  refine R_sld hX hs hb hbA (by omega) (by omega) dL_law_1594 ?_
  refine R_v1i hX dL_law_1595 li_L_229 mk_X12_loggedCost mi_X12_loggedCost rfl o_136 (r_loggedCost hR (i32_rng _)) ⟨⟨by decide, by decide⟩, by decide, by decide, rfl, Nat.le_of_ble_eq_true rfl, rfl⟩ (fun x2 F2 h2 => ?_)
  have e := g_loggedCost h h1 h2
  exact R_icmpeqS hX dL_law_1598 (by decide) e.1 (hk u v _ (e.2.mono ⟨by omega, by omega⟩))
theorem lwc_53 {X : KX} {Z : State → Prop} {b Ln : Nat} {f : Nat → Int32} {i u v K : Int} {F : Hp} (hW : LwX X b Ln f) (hi : 0 ≤ i ∧ i + 6 ≤ Ln ∧ (Ln : Int) ≤ 3072) (h : Gl u v K F) (hK : 0 ≤ K ∧ K + 99 ≤ 100000) (hk : ∀ (u1 v1 : Int) (G : Hp), Gl u1 v1 (K + 99) G → R X SH 159 11283 1876 (LWl X b i) [] G Z) : R X SH 159 11283 1603 (LWl X b i) [] F Z := by
  obtain ⟨hX, hs, hb, hbA⟩ := hW
  refine R_aload_1 hX dL_law_1603 ?_
  refine R_aload_0_any hX dL_law_1604 ?_
  refine R_iload_3 hX dL_law_1605 ?_
  refine R_iconst hX dL_law_1606 ?_
  refine R_iadd hX dL_law_1607 ?_
  refine R_sld hX hs hb hbA (by omega) (by omega) dL_law_1608 ?_
  refine R_v1i hX dL_law_1609 li_L_230 mk_X11_loggedLender mi_X11_loggedLender rfl o_0 (c_loggedLender rfl h.1.1.1 h.2.1 (i32_rng _)) ⟨⟨by decide, by decide⟩, by decide, by decide, rfl, Nat.le_of_ble_eq_true rfl, rfl⟩ (fun x1 F1 h1 => ?_)
  have hF1 : ∀ a : Int, 136 ≤ a → F1 a = F a := fun a _ => by rw [h1.2]
  have hR : RI K F1 := h.ri.lo hF1
  refine R_aload_2 hX dL_law_1612 ?_
  refine R_aload_0_any hX dL_law_1613 ?_
  refine R_iload_3 hX dL_law_1614 ?_
  refine R_iconst hX dL_law_1615 ?_
  refine R_iadd hX dL_law_1616 ?_
  refine R_sld hX hs hb hbA (by omega) (by omega) dL_law_1617 ?_
  refine R_v1i hX dL_law_1618 li_L_233 mk_X12_loggedLender mi_X12_loggedLender rfl o_136 (r_loggedLender hR (i32_rng _)) ⟨⟨by decide, by decide⟩, by decide, by decide, rfl, Nat.le_of_ble_eq_true rfl, rfl⟩ (fun x2 F2 h2 => ?_)
  have e := g_loggedLender h h1 h2
  exact R_icmpeqS hX dL_law_1621 (by decide) e.1 (hk u v _ (e.2.mono ⟨by omega, by omega⟩))
theorem lwc_54 {X : KX} {Z : State → Prop} {b Ln : Nat} {f : Nat → Int32} {i u v K : Int} {F : Hp} (hW : LwX X b Ln f) (hi : 0 ≤ i ∧ i + 6 ≤ Ln ∧ (Ln : Int) ≤ 3072) (h : Gl u v K F) (hK : 0 ≤ K ∧ K + 99 ≤ 100000) (hk : ∀ (u1 v1 : Int) (G : Hp), Gl u1 v1 (K + 99) G → R X SH 159 11283 1876 (LWl X b i) [] G Z) : R X SH 159 11283 1626 (LWl X b i) [] F Z := by
  obtain ⟨hX, hs, hb, hbA⟩ := hW
  refine R_aload_1 hX dL_law_1626 ?_
  refine R_aload_0_any hX dL_law_1627 ?_
  refine R_iload_3 hX dL_law_1628 ?_
  refine R_iconst hX dL_law_1629 ?_
  refine R_iadd hX dL_law_1630 ?_
  refine R_sld hX hs hb hbA (by omega) (by omega) dL_law_1631 ?_
  refine R_v1i hX dL_law_1632 li_L_234 mk_X11_loggedTime mi_X11_loggedTime rfl o_0 (c_loggedTime rfl h.1.1.1 h.2.1 (i32_rng _)) ⟨⟨by decide, by decide⟩, by decide, by decide, rfl, Nat.le_of_ble_eq_true rfl, rfl⟩ (fun x1 F1 h1 => ?_)
  have hF1 : ∀ a : Int, 136 ≤ a → F1 a = F a := fun a _ => by rw [h1.2]
  have hR : RI K F1 := h.ri.lo hF1
  refine R_aload_2 hX dL_law_1635 ?_
  refine R_aload_0_any hX dL_law_1636 ?_
  refine R_iload_3 hX dL_law_1637 ?_
  refine R_iconst hX dL_law_1638 ?_
  refine R_iadd hX dL_law_1639 ?_
  refine R_sld hX hs hb hbA (by omega) (by omega) dL_law_1640 ?_
  refine R_v1i hX dL_law_1641 li_L_237 mk_X12_loggedTime mi_X12_loggedTime rfl o_136 (r_loggedTime hR (i32_rng _)) ⟨⟨by decide, by decide⟩, by decide, by decide, rfl, Nat.le_of_ble_eq_true rfl, rfl⟩ (fun x2 F2 h2 => ?_)
  have e := g_loggedTime h h1 h2
  exact R_icmpeqS hX dL_law_1644 (by decide) e.1 (hk u v _ (e.2.mono ⟨by omega, by omega⟩))
theorem lwc_55 {X : KX} {Z : State → Prop} {b Ln : Nat} {f : Nat → Int32} {i u v K : Int} {F : Hp} (hW : LwX X b Ln f) (hi : 0 ≤ i ∧ i + 6 ≤ Ln ∧ (Ln : Int) ≤ 3072) (h : Gl u v K F) (hK : 0 ≤ K ∧ K + 99 ≤ 100000) (hk : ∀ (u1 v1 : Int) (G : Hp), Gl u1 v1 (K + 99) G → R X SH 159 11283 1876 (LWl X b i) [] G Z) : R X SH 159 11283 1649 (LWl X b i) [] F Z := by
  obtain ⟨hX, hs, hb, hbA⟩ := hW
  refine R_aload_1 hX dL_law_1649 ?_
  refine R_aload_0_any hX dL_law_1650 ?_
  refine R_iload_3 hX dL_law_1651 ?_
  refine R_iconst hX dL_law_1652 ?_
  refine R_iadd hX dL_law_1653 ?_
  refine R_sld hX hs hb hbA (by omega) (by omega) dL_law_1654 ?_
  refine R_v1i hX dL_law_1655 li_L_238 mk_X11_recentCost mi_X11_recentCost rfl o_0 (c_recentCost rfl h.1.1.1 h.2.1 (i32_rng _)) ⟨⟨by decide, by decide⟩, by decide, by decide, rfl, Nat.le_of_ble_eq_true rfl, rfl⟩ (fun x1 F1 h1 => ?_)
  have hF1 : ∀ a : Int, 136 ≤ a → F1 a = F a := fun a _ => by rw [h1.2]
  have hR : RI K F1 := h.ri.lo hF1
  refine R_aload_2 hX dL_law_1658 ?_
  refine R_aload_0_any hX dL_law_1659 ?_
  refine R_iload_3 hX dL_law_1660 ?_
  refine R_iconst hX dL_law_1661 ?_
  refine R_iadd hX dL_law_1662 ?_
  refine R_sld hX hs hb hbA (by omega) (by omega) dL_law_1663 ?_
  refine R_v1i hX dL_law_1664 li_L_241 mk_X12_recentCost mi_X12_recentCost rfl o_136 (r_recentCost hR (i32_rng _)) ⟨⟨by decide, by decide⟩, by decide, by decide, rfl, Nat.le_of_ble_eq_true rfl, rfl⟩ (fun x2 F2 h2 => ?_)
  have e := g_recentCost h h1 h2
  exact R_icmpeqS hX dL_law_1667 (by decide) e.1 (hk u v _ (e.2.mono ⟨by omega, by omega⟩))
theorem lwc_56 {X : KX} {Z : State → Prop} {b Ln : Nat} {f : Nat → Int32} {i u v K : Int} {F : Hp} (hW : LwX X b Ln f) (hi : 0 ≤ i ∧ i + 6 ≤ Ln ∧ (Ln : Int) ≤ 3072) (h : Gl u v K F) (hK : 0 ≤ K ∧ K + 99 ≤ 100000) (hk : ∀ (u1 v1 : Int) (G : Hp), Gl u1 v1 (K + 99) G → R X SH 159 11283 1876 (LWl X b i) [] G Z) : R X SH 159 11283 1672 (LWl X b i) [] F Z := by
  obtain ⟨hX, hs, hb, hbA⟩ := hW
  refine R_aload_1 hX dL_law_1672 ?_
  refine R_v0i hX dL_law_1673 li_L_242 mk_X11_setupLength mi_X11_setupLength rfl o_0 (c_setupLength rfl h.1.1.1 h.2.1) ⟨⟨by decide, by decide⟩, by decide, by decide, rfl, Nat.le_of_ble_eq_true rfl, rfl⟩ (fun x1 F1 h1 => ?_)
  have hF1 : ∀ a : Int, 136 ≤ a → F1 a = F a := fun a z => by
    rw [h1.2, wW_r (by omega)]
  have hR : RI K F1 := h.ri.lo hF1
  refine R_aload_2 hX dL_law_1676 ?_
  refine R_v0i hX dL_law_1677 li_L_245 mk_X12_setupLength mi_X12_setupLength rfl o_136 (r_setupLength hR (by rw [hF1 136 (by decide), hF1 139 (by decide)]; exact h.nms)) ⟨⟨by decide, by decide⟩, by decide, by decide, rfl, Nat.le_of_ble_eq_true rfl, rfl⟩ (fun x2 F2 h2 => ?_)
  have e := g_setupLength h h1 h2
  exact R_icmpeqS hX dL_law_1680 (by decide) e.1 (hk u v _ (e.2.mono ⟨by omega, by omega⟩))
theorem lwc_57 {X : KX} {Z : State → Prop} {b Ln : Nat} {f : Nat → Int32} {i u v K : Int} {F : Hp} (hW : LwX X b Ln f) (hi : 0 ≤ i ∧ i + 6 ≤ Ln ∧ (Ln : Int) ≤ 3072) (h : Gl u v K F) (hK : 0 ≤ K ∧ K + 99 ≤ 100000) (hk : ∀ (u1 v1 : Int) (G : Hp), Gl u1 v1 (K + 99) G → R X SH 159 11283 1876 (LWl X b i) [] G Z) : R X SH 159 11283 1685 (LWl X b i) [] F Z := by
  obtain ⟨hX, hs, hb, hbA⟩ := hW
  refine R_aload_1 hX dL_law_1685 ?_
  refine R_aload_0_any hX dL_law_1686 ?_
  refine R_iload_3 hX dL_law_1687 ?_
  refine R_iconst hX dL_law_1688 ?_
  refine R_iadd hX dL_law_1689 ?_
  refine R_sld hX hs hb hbA (by omega) (by omega) dL_law_1690 ?_
  refine R_v1i hX dL_law_1691 li_L_246 mk_X11_setupByte mi_X11_setupByte rfl o_0 (c_setupByte rfl h.1.1.1 h.2.1 (i32_rng _)) ⟨⟨by decide, by decide⟩, by decide, by decide, rfl, Nat.le_of_ble_eq_true rfl, rfl⟩ (fun x1 F1 h1 => ?_)
  have hF1 : ∀ a : Int, 136 ≤ a → F1 a = F a := fun a z => by
    rcases h1 with ⟨-, -, e⟩ | ⟨-, -, e⟩
    · rw [e]
    · rw [e, wW_r (by omega)]
  have hR : RI K F1 := h.ri.lo hF1
  refine R_aload_2 hX dL_law_1694 ?_
  refine R_aload_0_any hX dL_law_1695 ?_
  refine R_iload_3 hX dL_law_1696 ?_
  refine R_iconst hX dL_law_1697 ?_
  refine R_iadd hX dL_law_1698 ?_
  refine R_sld hX hs hb hbA (by omega) (by omega) dL_law_1699 ?_
  refine R_v1i hX dL_law_1700 li_L_249 mk_X12_setupByte mi_X12_setupByte rfl o_136 (r_setupByte hR (by rw [hF1 136 (by decide), hF1 139 (by decide)]; exact h.nms) (i32_rng _)) ⟨⟨by decide, by decide⟩, by decide, by decide, rfl, Nat.le_of_ble_eq_true rfl, rfl⟩ (fun x2 F2 h2 => ?_)
  have e := g_setupByte h h1 h2
  exact R_icmpeqS hX dL_law_1703 (by decide) e.1 (hk u v _ (e.2.mono ⟨by omega, by omega⟩))
theorem lwc_58 {X : KX} {Z : State → Prop} {b Ln : Nat} {f : Nat → Int32} {i u v K : Int} {F : Hp} (hW : LwX X b Ln f) (hi : 0 ≤ i ∧ i + 6 ≤ Ln ∧ (Ln : Int) ≤ 3072) (h : Gl u v K F) (hK : 0 ≤ K ∧ K + 99 ≤ 100000) (hk : ∀ (u1 v1 : Int) (G : Hp), Gl u1 v1 (K + 99) G → R X SH 159 11283 1876 (LWl X b i) [] G Z) : R X SH 159 11283 1708 (LWl X b i) [] F Z := by
  obtain ⟨hX, hs, hb, hbA⟩ := hW
  refine R_aload_1 hX dL_law_1708 ?_
  refine R_aload_0_any hX dL_law_1709 ?_
  refine R_iload_3 hX dL_law_1710 ?_
  refine R_iconst hX dL_law_1711 ?_
  refine R_iadd hX dL_law_1712 ?_
  refine R_sld hX hs hb hbA (by omega) (by omega) dL_law_1713 ?_
  refine R_aload_0_any hX dL_law_1714 ?_
  refine R_iload_3 hX dL_law_1715 ?_
  refine R_iconst hX dL_law_1716 ?_
  refine R_iadd hX dL_law_1717 ?_
  refine R_sld hX hs hb hbA (by omega) (by omega) dL_law_1718 ?_
  refine R_v2i hX dL_law_1719 li_L_250 mk_X11_setRate mi_X11_setRate rfl o_0 (c_setRate rfl h.1.1.1 h.2.1 (i32_rng _) (i32_rng _)) ⟨⟨by decide, by decide⟩, by decide, by decide, rfl, Nat.le_of_ble_eq_true rfl, rfl⟩ (fun x1 F1 h1 => ?_)
  have hF1 : ∀ a : Int, 136 ≤ a → F1 a = F a := fun a z => by
    rcases h1 with ⟨-, -, e⟩ | ⟨-, -, e⟩
    · rw [e]
    · rw [e, up_r (by omega)]
  have hR : RI K F1 := h.ri.lo hF1
  refine R_aload_2 hX dL_law_1722 ?_
  refine R_aload_0_any hX dL_law_1723 ?_
  refine R_iload_3 hX dL_law_1724 ?_
  refine R_iconst hX dL_law_1725 ?_
  refine R_iadd hX dL_law_1726 ?_
  refine R_sld hX hs hb hbA (by omega) (by omega) dL_law_1727 ?_
  refine R_aload_0_any hX dL_law_1728 ?_
  refine R_iload_3 hX dL_law_1729 ?_
  refine R_iconst hX dL_law_1730 ?_
  refine R_iadd hX dL_law_1731 ?_
  refine R_sld hX hs hb hbA (by omega) (by omega) dL_law_1732 ?_
  refine R_v2i hX dL_law_1733 li_L_253 mk_X12_setRate mi_X12_setRate rfl o_136 (r_setRate hR (i32_rng _) (i32_rng _)) ⟨⟨by decide, by decide⟩, by decide, by decide, rfl, Nat.le_of_ble_eq_true rfl, rfl⟩ (fun x2 F2 h2 => ?_)
  have e := g_setRate h h1 h2
  exact R_icmpeqS hX dL_law_1736 (by decide) e.1 (hk u v _ (e.2.mono ⟨by omega, by omega⟩))
theorem lwc_59 {X : KX} {Z : State → Prop} {b Ln : Nat} {f : Nat → Int32} {i u v K : Int} {F : Hp} (hW : LwX X b Ln f) (hi : 0 ≤ i ∧ i + 6 ≤ Ln ∧ (Ln : Int) ≤ 3072) (h : Gl u v K F) (hK : 0 ≤ K ∧ K + 99 ≤ 100000) (hk : ∀ (u1 v1 : Int) (G : Hp), Gl u1 v1 (K + 99) G → R X SH 159 11283 1876 (LWl X b i) [] G Z) : R X SH 159 11283 1741 (LWl X b i) [] F Z := by
  obtain ⟨hX, hs, hb, hbA⟩ := hW
  refine R_aload_1 hX dL_law_1741 ?_
  refine R_aload_0_any hX dL_law_1742 ?_
  refine R_iload_3 hX dL_law_1743 ?_
  refine R_iconst hX dL_law_1744 ?_
  refine R_iadd hX dL_law_1745 ?_
  refine R_sld hX hs hb hbA (by omega) (by omega) dL_law_1746 ?_
  refine R_aload_0_any hX dL_law_1747 ?_
  refine R_iload_3 hX dL_law_1748 ?_
  refine R_iconst hX dL_law_1749 ?_
  refine R_iadd hX dL_law_1750 ?_
  refine R_sld hX hs hb hbA (by omega) (by omega) dL_law_1751 ?_
  refine R_v2i hX dL_law_1752 li_L_254 mk_X11_setCeiling mi_X11_setCeiling rfl o_0 (c_setCeiling rfl h.1.1.1 h.2.1 (i32_rng _) (i32_rng _)) ⟨⟨by decide, by decide⟩, by decide, by decide, rfl, Nat.le_of_ble_eq_true rfl, rfl⟩ (fun x1 F1 h1 => ?_)
  have hF1 : ∀ a : Int, 136 ≤ a → F1 a = F a := fun a z => by
    rcases h1 with ⟨-, -, e⟩ | ⟨-, -, e⟩
    · rw [e]
    · rw [e, up_r (by omega)]
  have hR : RI K F1 := h.ri.lo hF1
  refine R_aload_2 hX dL_law_1755 ?_
  refine R_aload_0_any hX dL_law_1756 ?_
  refine R_iload_3 hX dL_law_1757 ?_
  refine R_iconst hX dL_law_1758 ?_
  refine R_iadd hX dL_law_1759 ?_
  refine R_sld hX hs hb hbA (by omega) (by omega) dL_law_1760 ?_
  refine R_aload_0_any hX dL_law_1761 ?_
  refine R_iload_3 hX dL_law_1762 ?_
  refine R_iconst hX dL_law_1763 ?_
  refine R_iadd hX dL_law_1764 ?_
  refine R_sld hX hs hb hbA (by omega) (by omega) dL_law_1765 ?_
  refine R_v2i hX dL_law_1766 li_L_257 mk_X12_setCeiling mi_X12_setCeiling rfl o_136 (r_setCeiling hR (i32_rng _) (i32_rng _)) ⟨⟨by decide, by decide⟩, by decide, by decide, rfl, Nat.le_of_ble_eq_true rfl, rfl⟩ (fun x2 F2 h2 => ?_)
  have e := g_setCeiling h h1 h2
  exact R_icmpeqS hX dL_law_1769 (by decide) e.1 (hk u v _ (e.2.mono ⟨by omega, by omega⟩))
theorem lwc_60 {X : KX} {Z : State → Prop} {b Ln : Nat} {f : Nat → Int32} {i u v K : Int} {F : Hp} (hW : LwX X b Ln f) (hi : 0 ≤ i ∧ i + 6 ≤ Ln ∧ (Ln : Int) ≤ 3072) (h : Gl u v K F) (hK : 0 ≤ K ∧ K + 99 ≤ 100000) (hk : ∀ (u1 v1 : Int) (G : Hp), Gl u1 v1 (K + 99) G → R X SH 159 11283 1876 (LWl X b i) [] G Z) : R X SH 159 11283 1774 (LWl X b i) [] F Z := by
  obtain ⟨hX, hs, hb, hbA⟩ := hW
  refine R_aload_1 hX dL_law_1774 ?_
  refine R_aload_0_any hX dL_law_1775 ?_
  refine R_iload_3 hX dL_law_1776 ?_
  refine R_iconst hX dL_law_1777 ?_
  refine R_iadd hX dL_law_1778 ?_
  refine R_sld hX hs hb hbA (by omega) (by omega) dL_law_1779 ?_
  refine R_aload_0_any hX dL_law_1780 ?_
  refine R_iload_3 hX dL_law_1781 ?_
  refine R_iconst hX dL_law_1782 ?_
  refine R_iadd hX dL_law_1783 ?_
  refine R_sld hX hs hb hbA (by omega) (by omega) dL_law_1784 ?_
  refine R_v2i hX dL_law_1785 li_L_258 mk_X11_setWeight mi_X11_setWeight rfl o_0 (c_setWeight rfl h.1.1.1 h.2.1 (i32_rng _) (i32_rng _)) ⟨⟨by decide, by decide⟩, by decide, by decide, rfl, Nat.le_of_ble_eq_true rfl, rfl⟩ (fun x1 F1 h1 => ?_)
  have hF1 : ∀ a : Int, 136 ≤ a → F1 a = F a := fun a z => by
    rcases h1 with ⟨-, -, e⟩ | ⟨-, -, e⟩
    · rw [e]
    · rw [e, up_r (by omega)]
  have hR : RI K F1 := h.ri.lo hF1
  refine R_aload_2 hX dL_law_1788 ?_
  refine R_aload_0_any hX dL_law_1789 ?_
  refine R_iload_3 hX dL_law_1790 ?_
  refine R_iconst hX dL_law_1791 ?_
  refine R_iadd hX dL_law_1792 ?_
  refine R_sld hX hs hb hbA (by omega) (by omega) dL_law_1793 ?_
  refine R_aload_0_any hX dL_law_1794 ?_
  refine R_iload_3 hX dL_law_1795 ?_
  refine R_iconst hX dL_law_1796 ?_
  refine R_iadd hX dL_law_1797 ?_
  refine R_sld hX hs hb hbA (by omega) (by omega) dL_law_1798 ?_
  refine R_v2i hX dL_law_1799 li_L_261 mk_X12_setWeight mi_X12_setWeight rfl o_136 (r_setWeight hR (i32_rng _) (i32_rng _)) ⟨⟨by decide, by decide⟩, by decide, by decide, rfl, Nat.le_of_ble_eq_true rfl, rfl⟩ (fun x2 F2 h2 => ?_)
  have e := g_setWeight h h1 h2
  exact R_icmpeqS hX dL_law_1802 (by decide) e.1 (hk u v _ (e.2.mono ⟨by omega, by omega⟩))
theorem lwc_61 {X : KX} {Z : State → Prop} {b Ln : Nat} {f : Nat → Int32} {i u v K : Int} {F : Hp} (hW : LwX X b Ln f) (hi : 0 ≤ i ∧ i + 6 ≤ Ln ∧ (Ln : Int) ≤ 3072) (h : Gl u v K F) (hK : 0 ≤ K ∧ K + 99 ≤ 100000) (hk : ∀ (u1 v1 : Int) (G : Hp), Gl u1 v1 (K + 99) G → R X SH 159 11283 1876 (LWl X b i) [] G Z) : R X SH 159 11283 1807 (LWl X b i) [] F Z := by
  obtain ⟨hX, hs, hb, hbA⟩ := hW
  refine R_aload_1 hX dL_law_1807 ?_
  refine R_aload_0_any hX dL_law_1808 ?_
  refine R_iload_3 hX dL_law_1809 ?_
  refine R_iconst hX dL_law_1810 ?_
  refine R_iadd hX dL_law_1811 ?_
  refine R_sld hX hs hb hbA (by omega) (by omega) dL_law_1812 ?_
  refine R_v1i hX dL_law_1813 li_L_262 mk_X11_clearQueue mi_X11_clearQueue rfl o_0 (c_clearQueue rfl h.1.1.1 h.2.1 (i32_rng _)) ⟨⟨by decide, by decide⟩, by decide, by decide, rfl, Nat.le_of_ble_eq_true rfl, rfl⟩ (fun x1 F1 h1 => ?_)
  have hF1 : ∀ a : Int, 136 ≤ a → F1 a = F a := fun a z => by
    rcases h1 with ⟨-, -, e⟩ | ⟨-, -, e⟩
    · rw [e]
    · rw [e, up_r (by omega)]
  have hR : RI K F1 := h.ri.lo hF1
  refine R_aload_2 hX dL_law_1816 ?_
  refine R_aload_0_any hX dL_law_1817 ?_
  refine R_iload_3 hX dL_law_1818 ?_
  refine R_iconst hX dL_law_1819 ?_
  refine R_iadd hX dL_law_1820 ?_
  refine R_sld hX hs hb hbA (by omega) (by omega) dL_law_1821 ?_
  refine R_v1i hX dL_law_1822 li_L_265 mk_X12_clearQueue mi_X12_clearQueue rfl o_136 (r_clearQueue hR (i32_rng _)) ⟨⟨by decide, by decide⟩, by decide, by decide, rfl, Nat.le_of_ble_eq_true rfl, rfl⟩ (fun x2 F2 h2 => ?_)
  have e := g_clearQueue h h1 h2
  exact R_icmpeqS hX dL_law_1825 (by decide) e.1 (hk u v _ (e.2.mono ⟨by omega, by omega⟩))
theorem lwc_62 {X : KX} {Z : State → Prop} {b Ln : Nat} {f : Nat → Int32} {i u v K : Int} {F : Hp} (hW : LwX X b Ln f) (hi : 0 ≤ i ∧ i + 6 ≤ Ln ∧ (Ln : Int) ≤ 3072) (h : Gl u v K F) (hK : 0 ≤ K ∧ K + 99 ≤ 100000) (hk : ∀ (u1 v1 : Int) (G : Hp), Gl u1 v1 (K + 99) G → R X SH 159 11283 1876 (LWl X b i) [] G Z) : R X SH 159 11283 1830 (LWl X b i) [] F Z := by
  obtain ⟨hX, hs, hb, hbA⟩ := hW
  refine R_aload_1 hX dL_law_1830 ?_
  refine R_aload_0_any hX dL_law_1831 ?_
  refine R_iload_3 hX dL_law_1832 ?_
  refine R_iconst hX dL_law_1833 ?_
  refine R_iadd hX dL_law_1834 ?_
  refine R_sld hX hs hb hbA (by omega) (by omega) dL_law_1835 ?_
  refine R_v1i hX dL_law_1836 li_L_266 mk_X11_save mi_X11_save rfl o_0 (c_save rfl h.1.1.1 h.2.1 (i32_rng _)) ⟨⟨by decide, by decide⟩, by decide, by decide, rfl, Nat.le_of_ble_eq_true rfl, rfl⟩ (fun x1 F1 h1 => ?_)
  have hF1 : ∀ a : Int, 136 ≤ a → F1 a = F a := fun a z => by
    rcases h1 with ⟨-, -, e⟩ | ⟨-, -, e⟩ | ⟨-, -, e⟩
    · rw [e]
    · rw [e, up_r (by omega), cpT_r (by omega)]
    · rw [e, up_r (by omega), cpT_r (by omega)]
  have hR : RI K F1 := h.ri.lo hF1
  refine R_aload_2 hX dL_law_1839 ?_
  refine R_aload_0_any hX dL_law_1840 ?_
  refine R_iload_3 hX dL_law_1841 ?_
  refine R_iconst hX dL_law_1842 ?_
  refine R_iadd hX dL_law_1843 ?_
  refine R_sld hX hs hb hbA (by omega) (by omega) dL_law_1844 ?_
  refine R_v1i hX dL_law_1845 li_L_269 mk_X12_save mi_X12_save rfl o_136 (r_save hR (i32_rng _)) ⟨⟨by decide, by decide⟩, by decide, by decide, rfl, Nat.le_of_ble_eq_true rfl, rfl⟩ (fun x2 F2 h2 => ?_)
  have e := g_save h h1 h2
  exact R_icmpeqS hX dL_law_1848 (by decide) e.1 (hk u v _ (e.2.mono ⟨by omega, by omega⟩))
theorem lwc_63 {X : KX} {Z : State → Prop} {b Ln : Nat} {f : Nat → Int32} {i u v K : Int} {F : Hp} (hW : LwX X b Ln f) (hi : 0 ≤ i ∧ i + 6 ≤ Ln ∧ (Ln : Int) ≤ 3072) (h : Gl u v K F) (hK : 0 ≤ K ∧ K + 99 ≤ 100000) (hk : ∀ (u1 v1 : Int) (G : Hp), Gl u1 v1 (K + 99) G → R X SH 159 11283 1876 (LWl X b i) [] G Z) : R X SH 159 11283 1853 (LWl X b i) [] F Z := by
  obtain ⟨hX, hs, hb, hbA⟩ := hW
  refine R_aload_1 hX dL_law_1853 ?_
  refine R_aload_0_any hX dL_law_1854 ?_
  refine R_iload_3 hX dL_law_1855 ?_
  refine R_iconst hX dL_law_1856 ?_
  refine R_iadd hX dL_law_1857 ?_
  refine R_sld hX hs hb hbA (by omega) (by omega) dL_law_1858 ?_
  refine R_v1i hX dL_law_1859 li_L_270 mk_X11_restore mi_X11_restore rfl o_0 (c_restore rfl h.1.1.1 h.2.1 (i32_rng _)) ⟨⟨by decide, by decide⟩, by decide, by decide, rfl, Nat.le_of_ble_eq_true rfl, rfl⟩ (fun x1 F1 h1 => ?_)
  have hF1 : ∀ a : Int, 136 ≤ a → F1 a = F a := fun a z => by
    rcases h1 with ⟨-, -, e⟩ | ⟨-, -, e⟩ | ⟨-, -, e⟩
    · rw [e]
    · rw [e, cpT_r (by omega)]
    · rw [e, cpT_r (by omega)]
  have hR : RI K F1 := h.ri.lo hF1
  refine R_aload_2 hX dL_law_1862 ?_
  refine R_aload_0_any hX dL_law_1863 ?_
  refine R_iload_3 hX dL_law_1864 ?_
  refine R_iconst hX dL_law_1865 ?_
  refine R_iadd hX dL_law_1866 ?_
  refine R_sld hX hs hb hbA (by omega) (by omega) dL_law_1867 ?_
  refine R_v1i hX dL_law_1868 li_L_273 mk_X12_restore mi_X12_restore rfl o_136 (r_restore hR (by rw [hF1 138 (by decide)]; exact h.k138) (i32_rng _)) ⟨⟨by decide, by decide⟩, by decide, by decide, rfl, Nat.le_of_ble_eq_true rfl, rfl⟩ (fun x2 F2 h2 => ?_)
  have e := g_restore h h1 h2
  exact R_icmpeqS hX dL_law_1871 (by decide) e.1 (hk u v _ (e.2.mono ⟨by omega, by omega⟩))

