theorem tb {i : Nat} {w : Cond} (h : (tables_1[i]?).filter goodWord = some w) : w ∈ gwt := by
  obtain ⟨h1, h2⟩ := Option.filter_eq_some_iff.mp h
  exact List.mem_filter.mpr ⟨List.mem_append_right _ (List.mem_append_right _ (List.mem_of_getElem? h1)), h2⟩
theorem tbs {ws : List Cond} (is : List Nat) (h : ws = is.filterMap (fun i => (tables_1[i]?).filter goodWord)) : ∀ w ∈ ws, w ∈ gwt := by
  intro w hw
  rw [h] at hw
  obtain ⟨i, -, hi⟩ := List.mem_filterMap.mp hw
  exact tb hi
theorem nb {i : Nat} {w : Cond} (h : (tables_1[i]?).filter isNest = some w) : w ∈ nst := by
  obtain ⟨h1, h2⟩ := Option.filter_eq_some_iff.mp h
  exact List.mem_filter.mpr ⟨List.mem_of_getElem? h1, h2⟩
theorem pb {i : Nat} {w : Cond} (h : ((k2_sels lw_privs)[i]?).filter goodWord = some w) : w ∈ gwt := by
  obtain ⟨h1, h2⟩ := Option.filter_eq_some_iff.mp h
  exact List.mem_filter.mpr ⟨List.mem_append_right _ (List.mem_append_left _ (List.mem_of_getElem? h1)), h2⟩
theorem xsb {i : Nat} {w : Cond} (h : (xsel[i]?).filter goodWord = some w) : w ∈ gwt := by
  obtain ⟨h1, h2⟩ := Option.filter_eq_some_iff.mp h
  exact List.mem_filter.mpr ⟨List.mem_append_left _ (List.mem_of_getElem? h1), h2⟩

set_option maxRecDepth 100000 in
theorem cf_0 : CF 0 RX0 TX0 3 := ⟨rfl, rfl, tbs [281, 283, 285] (by decide +kernel), nmX0, fun k hk => tyX0_ok k hk⟩
set_option maxRecDepth 100000 in
theorem cf_1 : CF 1 RX1 TX1 5 := ⟨rfl, rfl, tbs [85, 87, 89, 91, 93] (by decide +kernel), nmX1, fun k hk => tyX1_ok k hk⟩
set_option maxRecDepth 100000 in
theorem cf_2 : CF 2 RX2 TX2 5 := ⟨rfl, rfl, tbs [332, 334, 336, 338, 340] (by decide +kernel), nmX2, fun k hk => tyX2_ok k hk⟩
set_option maxRecDepth 100000 in
theorem cf_3 : CF 3 RX3 TX3 5 := ⟨rfl, rfl, tbs [360, 362, 364, 366, 368] (by decide +kernel), nmX3, fun k hk => tyX3_ok k hk⟩
set_option maxRecDepth 100000 in
theorem cf_4 : CF 4 RX4 TX4 5 := ⟨rfl, rfl, tbs [303, 305, 307, 309, 311] (by decide +kernel), nmX4, fun k hk => tyX4_ok k hk⟩
set_option maxRecDepth 100000 in
theorem cf_5 : CF 5 RX5 TX5 11 := ⟨rfl, rfl, tbs [220, 222, 224, 226, 228, 230, 232, 234, 236, 238, 240] (by decide +kernel), nmX5, fun k hk => tyX5_ok k hk⟩
set_option maxRecDepth 100000 in
theorem cf_6 : CF 6 RX6 TX6 6 := ⟨rfl, rfl, tbs [193, 195, 197, 199, 201, 203] (by decide +kernel), nmX6, fun k hk => tyX6_ok k hk⟩
set_option maxRecDepth 100000 in
theorem cf_7 : CF 7 RX7 TX7 15 := ⟨rfl, rfl, tbs [145, 147, 149, 151, 153, 155, 157, 159, 161, 163, 165, 167, 169, 171, 173] (by decide +kernel), nmX7, fun k hk => tyX7_ok k hk⟩
set_option maxRecDepth 100000 in
theorem cf_8 : CF 8 RX8 TX8 9 := ⟨rfl, rfl, tbs [388, 390, 392, 394, 396, 398, 400, 402, 404] (by decide +kernel), nmX8, fun k hk => tyX8_ok k hk⟩
set_option maxRecDepth 100000 in
theorem cf_9 : CF 9 RX9 TX9 2 := ⟨rfl, rfl, tbs [49, 51] (by decide +kernel), nmX9, fun k hk => tyX9_ok k hk⟩
set_option maxRecDepth 100000 in
theorem cf_10 : CF 10 RX10 TX10 4 := ⟨rfl, rfl, tbs [249, 251, 253, 255] (by decide +kernel), nmX10, fun k hk => tyX10_ok k hk⟩
set_option maxRecDepth 100000 in
theorem cf_11 : CF 11 RX11 TX11 8 := ⟨rfl, rfl, tbs [415, 417, 419, 421, 423, 425, 427, 429] (by decide +kernel), nmX11, fun k hk => tyX11_ok k hk⟩
set_option maxRecDepth 100000 in
theorem cf_12 : CF 12 RX12 TX12 25 := ⟨rfl, rfl, tbs [773, 775, 777, 779, 781, 783, 785, 787, 789, 791, 793, 795, 797, 799, 801, 803, 805, 807, 809, 811, 813, 815, 817, 819, 821] (by decide +kernel), nmX12, fun k hk => tyX12_ok k hk⟩
set_option maxRecDepth 100000 in
theorem cf_13 : CF 13 RJ0 TJ0 4 := ⟨rfl, rfl, tbs [1150, 1152, 1154, 1156] (by decide +kernel), nmJ0, fun k hk => tyJ0_ok k hk⟩
set_option maxRecDepth 100000 in
theorem cf_14 : CF 14 RJ4 TJ4 4 := ⟨rfl, rfl, tbs [926, 928, 930, 932] (by decide +kernel), nmJ4, fun k hk => tyJ4_ok k hk⟩
set_option maxRecDepth 100000 in
theorem cf_15 : CF 15 RJx4a65c TJx4a65c 3 := ⟨rfl, rfl, tbs [663, 659, 661] (by decide +kernel), nmJx4a65c, fun k hk => tyJx4a65c_ok k hk⟩
theorem fl_X9_9 : FLk RX9 9 9 0 (.array .byte) true := ⟨by decide, rfl, _, _, _, "RateLimiter$Text", cf_9, by decide, tb (i := 45) (by decide +kernel), rfl, Or.inl rfl⟩
theorem fl_X11_53 : FLk RX11 53 9 1 .int false := ⟨by decide, rfl, _, _, _, "RateLimiter$Text", cf_9, by decide, tb (i := 46) (by decide +kernel), rfl, Or.inl rfl⟩
theorem fl_X9_15 : FLk RX9 15 9 1 .int false := ⟨by decide, rfl, _, _, _, "RateLimiter$Text", cf_9, by decide, tb (i := 47) (by decide +kernel), rfl, Or.inl rfl⟩
theorem fl_X6_31 : FLk RX6 31 9 1 .int false := ⟨by decide, rfl, _, _, _, "RateLimiter$Text", cf_9, by decide, tb (i := 48) (by decide +kernel), rfl, Or.inl rfl⟩
theorem fl_X1_24 : FLk RX1 24 1 0 .int false := ⟨by decide, rfl, _, _, _, "RateLimiter$Changes", cf_1, by decide, tb (i := 73) (by decide +kernel), rfl, Or.inl rfl⟩
theorem fl_X7_64 : FLk RX7 64 1 0 .int false := ⟨by decide, rfl, _, _, _, "RateLimiter$Changes", cf_1, by decide, tb (i := 74) (by decide +kernel), rfl, Or.inl rfl⟩
theorem fl_X5_112 : FLk RX5 112 1 0 .int false := ⟨by decide, rfl, _, _, _, "RateLimiter$Changes", cf_1, by decide, tb (i := 75) (by decide +kernel), rfl, Or.inl rfl⟩
theorem fl_X8_169 : FLk RX8 169 1 0 .int false := ⟨by decide, rfl, _, _, _, "RateLimiter$Changes", cf_1, by decide, tb (i := 76) (by decide +kernel), rfl, Or.inl rfl⟩
theorem fl_X1_9 : FLk RX1 9 1 1 (.array .int) true := ⟨by decide, rfl, _, _, _, "RateLimiter$Changes", cf_1, by decide, tb (i := 77) (by decide +kernel), rfl, Or.inl rfl⟩
theorem fl_X8_172 : FLk RX8 172 1 1 (.array .int) true := ⟨by decide, rfl, _, _, _, "RateLimiter$Changes", cf_1, by decide, tb (i := 78) (by decide +kernel), rfl, Or.inl rfl⟩
theorem fl_X1_15 : FLk RX1 15 1 2 (.array .int) true := ⟨by decide, rfl, _, _, _, "RateLimiter$Changes", cf_1, by decide, tb (i := 79) (by decide +kernel), rfl, Or.inl rfl⟩
theorem fl_X8_174 : FLk RX8 174 1 2 (.array .int) true := ⟨by decide, rfl, _, _, _, "RateLimiter$Changes", cf_1, by decide, tb (i := 80) (by decide +kernel), rfl, Or.inl rfl⟩
theorem fl_X1_18 : FLk RX1 18 1 3 (.array .int) true := ⟨by decide, rfl, _, _, _, "RateLimiter$Changes", cf_1, by decide, tb (i := 81) (by decide +kernel), rfl, Or.inl rfl⟩
theorem fl_X8_177 : FLk RX8 177 1 3 (.array .int) true := ⟨by decide, rfl, _, _, _, "RateLimiter$Changes", cf_1, by decide, tb (i := 82) (by decide +kernel), rfl, Or.inl rfl⟩
theorem fl_X1_21 : FLk RX1 21 1 4 (.array .int) true := ⟨by decide, rfl, _, _, _, "RateLimiter$Changes", cf_1, by decide, tb (i := 83) (by decide +kernel), rfl, Or.inl rfl⟩
theorem fl_X8_184 : FLk RX8 184 1 4 (.array .int) true := ⟨by decide, rfl, _, _, _, "RateLimiter$Changes", cf_1, by decide, tb (i := 84) (by decide +kernel), rfl, Or.inl rfl⟩
theorem fl_X7_61 : FLk RX7 61 7 0 .int false := ⟨by decide, rfl, _, _, _, "RateLimiter$Setup", cf_7, by decide, tb (i := 99) (by decide +kernel), rfl, Or.inl rfl⟩
theorem fl_X11_79 : FLk RX11 79 7 0 .int false := ⟨by decide, rfl, _, _, _, "RateLimiter$Setup", cf_7, by decide, tb (i := 100) (by decide +kernel), rfl, Or.inl rfl⟩
theorem fl_X8_85 : FLk RX8 85 7 0 .int false := ⟨by decide, rfl, _, _, _, "RateLimiter$Setup", cf_7, by decide, tb (i := 101) (by decide +kernel), rfl, Or.inl rfl⟩
theorem fl_X5_102 : FLk RX5 102 7 0 .int false := ⟨by decide, rfl, _, _, _, "RateLimiter$Setup", cf_7, by decide, tb (i := 102) (by decide +kernel), rfl, Or.inl rfl⟩
theorem fl_X7_9 : FLk RX7 9 7 1 (.array .long) true := ⟨by decide, rfl, _, _, _, "RateLimiter$Setup", cf_7, by decide, tb (i := 103) (by decide +kernel), rfl, Or.inl rfl⟩
theorem fl_X11_89 : FLk RX11 89 7 1 (.array .long) true := ⟨by decide, rfl, _, _, _, "RateLimiter$Setup", cf_7, by decide, tb (i := 104) (by decide +kernel), rfl, Or.inl rfl⟩
theorem fl_X7_15 : FLk RX7 15 7 2 (.array .int) true := ⟨by decide, rfl, _, _, _, "RateLimiter$Setup", cf_7, by decide, tb (i := 105) (by decide +kernel), rfl, Or.inl rfl⟩
theorem fl_X8_88 : FLk RX8 88 7 2 (.array .int) true := ⟨by decide, rfl, _, _, _, "RateLimiter$Setup", cf_7, by decide, tb (i := 106) (by decide +kernel), rfl, Or.inl rfl⟩
theorem fl_X0_50 : FLk RX0 50 7 2 (.array .int) true := ⟨by decide, rfl, _, _, _, "RateLimiter$Setup", cf_7, by decide, tb (i := 107) (by decide +kernel), rfl, Or.inl rfl⟩
theorem fl_X11_97 : FLk RX11 97 7 2 (.array .int) true := ⟨by decide, rfl, _, _, _, "RateLimiter$Setup", cf_7, by decide, tb (i := 108) (by decide +kernel), rfl, Or.inl rfl⟩
theorem fl_X7_19 : FLk RX7 19 7 3 (.array .int) true := ⟨by decide, rfl, _, _, _, "RateLimiter$Setup", cf_7, by decide, tb (i := 109) (by decide +kernel), rfl, Or.inl rfl⟩
theorem fl_X11_108 : FLk RX11 108 7 3 (.array .int) true := ⟨by decide, rfl, _, _, _, "RateLimiter$Setup", cf_7, by decide, tb (i := 110) (by decide +kernel), rfl, Or.inl rfl⟩
theorem fl_X7_22 : FLk RX7 22 7 4 (.array .int) true := ⟨by decide, rfl, _, _, _, "RateLimiter$Setup", cf_7, by decide, tb (i := 111) (by decide +kernel), rfl, Or.inl rfl⟩
theorem fl_X7_25 : FLk RX7 25 7 5 (.array .int) true := ⟨by decide, rfl, _, _, _, "RateLimiter$Setup", cf_7, by decide, tb (i := 112) (by decide +kernel), rfl, Or.inl rfl⟩
theorem fl_X8_53 : FLk RX8 53 7 5 (.array .int) true := ⟨by decide, rfl, _, _, _, "RateLimiter$Setup", cf_7, by decide, tb (i := 113) (by decide +kernel), rfl, Or.inl rfl⟩
theorem fl_X5_160 : FLk RX5 160 7 5 (.array .int) true := ⟨by decide, rfl, _, _, _, "RateLimiter$Setup", cf_7, by decide, tb (i := 114) (by decide +kernel), rfl, Or.inl rfl⟩
theorem fl_X7_28 : FLk RX7 28 7 6 (.array .int) true := ⟨by decide, rfl, _, _, _, "RateLimiter$Setup", cf_7, by decide, tb (i := 115) (by decide +kernel), rfl, Or.inl rfl⟩
theorem fl_X8_60 : FLk RX8 60 7 6 (.array .int) true := ⟨by decide, rfl, _, _, _, "RateLimiter$Setup", cf_7, by decide, tb (i := 116) (by decide +kernel), rfl, Or.inl rfl⟩
theorem fl_X5_156 : FLk RX5 156 7 6 (.array .int) true := ⟨by decide, rfl, _, _, _, "RateLimiter$Setup", cf_7, by decide, tb (i := 117) (by decide +kernel), rfl, Or.inl rfl⟩
theorem fl_X7_31 : FLk RX7 31 7 7 (.array .int) true := ⟨by decide, rfl, _, _, _, "RateLimiter$Setup", cf_7, by decide, tb (i := 118) (by decide +kernel), rfl, Or.inl rfl⟩
theorem fl_X0_21 : FLk RX0 21 7 7 (.array .int) true := ⟨by decide, rfl, _, _, _, "RateLimiter$Setup", cf_7, by decide, tb (i := 119) (by decide +kernel), rfl, Or.inl rfl⟩
theorem fl_X8_123 : FLk RX8 123 7 7 (.array .int) true := ⟨by decide, rfl, _, _, _, "RateLimiter$Setup", cf_7, by decide, tb (i := 120) (by decide +kernel), rfl, Or.inl rfl⟩
theorem fl_X11_117 : FLk RX11 117 7 7 (.array .int) true := ⟨by decide, rfl, _, _, _, "RateLimiter$Setup", cf_7, by decide, tb (i := 121) (by decide +kernel), rfl, Or.inl rfl⟩
theorem fl_X7_34 : FLk RX7 34 7 8 (.array .int) true := ⟨by decide, rfl, _, _, _, "RateLimiter$Setup", cf_7, by decide, tb (i := 122) (by decide +kernel), rfl, Or.inl rfl⟩
theorem fl_X0_40 : FLk RX0 40 7 8 (.array .int) true := ⟨by decide, rfl, _, _, _, "RateLimiter$Setup", cf_7, by decide, tb (i := 123) (by decide +kernel), rfl, Or.inl rfl⟩
theorem fl_X8_142 : FLk RX8 142 7 8 (.array .int) true := ⟨by decide, rfl, _, _, _, "RateLimiter$Setup", cf_7, by decide, tb (i := 124) (by decide +kernel), rfl, Or.inl rfl⟩
theorem fl_X11_120 : FLk RX11 120 7 8 (.array .int) true := ⟨by decide, rfl, _, _, _, "RateLimiter$Setup", cf_7, by decide, tb (i := 125) (by decide +kernel), rfl, Or.inl rfl⟩
theorem fl_X7_37 : FLk RX7 37 7 9 (.array .int) true := ⟨by decide, rfl, _, _, _, "RateLimiter$Setup", cf_7, by decide, tb (i := 126) (by decide +kernel), rfl, Or.inl rfl⟩
theorem fl_X8_61 : FLk RX8 61 7 9 (.array .int) true := ⟨by decide, rfl, _, _, _, "RateLimiter$Setup", cf_7, by decide, tb (i := 127) (by decide +kernel), rfl, Or.inl rfl⟩
theorem fl_X7_40 : FLk RX7 40 7 10 (.array .int) true := ⟨by decide, rfl, _, _, _, "RateLimiter$Setup", cf_7, by decide, tb (i := 128) (by decide +kernel), rfl, Or.inl rfl⟩
theorem fl_X11_126 : FLk RX11 126 7 10 (.array .int) true := ⟨by decide, rfl, _, _, _, "RateLimiter$Setup", cf_7, by decide, tb (i := 129) (by decide +kernel), rfl, Or.inl rfl⟩
theorem fl_X8_231 : FLk RX8 231 7 10 (.array .int) true := ⟨by decide, rfl, _, _, _, "RateLimiter$Setup", cf_7, by decide, tb (i := 130) (by decide +kernel), rfl, Or.inl rfl⟩
theorem fl_X7_43 : FLk RX7 43 7 11 (.array .boolean) true := ⟨by decide, rfl, _, _, _, "RateLimiter$Setup", cf_7, by decide, tb (i := 131) (by decide +kernel), rfl, Or.inl rfl⟩
theorem fl_X0_53 : FLk RX0 53 7 11 (.array .boolean) true := ⟨by decide, rfl, _, _, _, "RateLimiter$Setup", cf_7, by decide, tb (i := 132) (by decide +kernel), rfl, Or.inl rfl⟩
theorem fl_X8_145 : FLk RX8 145 7 11 (.array .boolean) true := ⟨by decide, rfl, _, _, _, "RateLimiter$Setup", cf_7, by decide, tb (i := 133) (by decide +kernel), rfl, Or.inl rfl⟩
theorem fl_X5_152 : FLk RX5 152 7 11 (.array .boolean) true := ⟨by decide, rfl, _, _, _, "RateLimiter$Setup", cf_7, by decide, tb (i := 134) (by decide +kernel), rfl, Or.inl rfl⟩
theorem fl_X11_129 : FLk RX11 129 7 11 (.array .boolean) true := ⟨by decide, rfl, _, _, _, "RateLimiter$Setup", cf_7, by decide, tb (i := 135) (by decide +kernel), rfl, Or.inl rfl⟩
theorem fl_X7_50 : FLk RX7 50 7 12 (.object "RateLimiter$Changes") true := ⟨by decide, rfl, _, _, _, "RateLimiter$Setup", cf_7, by decide, tb (i := 136) (by decide +kernel), rfl, Or.inl rfl⟩
theorem fl_X5_108 : FLk RX5 108 7 12 (.object "RateLimiter$Changes") true := ⟨by decide, rfl, _, _, _, "RateLimiter$Setup", cf_7, by decide, tb (i := 137) (by decide +kernel), rfl, Or.inl rfl⟩
theorem fl_X8_165 : FLk RX8 165 7 12 (.object "RateLimiter$Changes") true := ⟨by decide, rfl, _, _, _, "RateLimiter$Setup", cf_7, by decide, tb (i := 138) (by decide +kernel), rfl, Or.inl rfl⟩
theorem fl_X7_54 : FLk RX7 54 7 13 .int false := ⟨by decide, rfl, _, _, _, "RateLimiter$Setup", cf_7, by decide, tb (i := 139) (by decide +kernel), rfl, Or.inl rfl⟩
theorem fl_X8_204 : FLk RX8 204 7 13 .int false := ⟨by decide, rfl, _, _, _, "RateLimiter$Setup", cf_7, by decide, tb (i := 140) (by decide +kernel), rfl, Or.inl rfl⟩
theorem fl_X5_178 : FLk RX5 178 7 13 .int false := ⟨by decide, rfl, _, _, _, "RateLimiter$Setup", cf_7, by decide, tb (i := 141) (by decide +kernel), rfl, Or.inl rfl⟩
theorem fl_X7_58 : FLk RX7 58 7 14 .int false := ⟨by decide, rfl, _, _, _, "RateLimiter$Setup", cf_7, by decide, tb (i := 142) (by decide +kernel), rfl, Or.inl rfl⟩
theorem fl_X5_105 : FLk RX5 105 7 14 .int false := ⟨by decide, rfl, _, _, _, "RateLimiter$Setup", cf_7, by decide, tb (i := 143) (by decide +kernel), rfl, Or.inl rfl⟩
theorem fl_X8_187 : FLk RX8 187 7 14 .int false := ⟨by decide, rfl, _, _, _, "RateLimiter$Setup", cf_7, by decide, tb (i := 144) (by decide +kernel), rfl, Or.inl rfl⟩
theorem fl_X6_9 : FLk RX6 9 6 0 .int false := ⟨by decide, rfl, _, _, _, "RateLimiter$Scanner", cf_6, by decide, tb (i := 182) (by decide +kernel), rfl, Or.inl rfl⟩
theorem fl_X5_36 : FLk RX5 36 6 1 .int false := ⟨by decide, rfl, _, _, _, "RateLimiter$Scanner", cf_6, by decide, tb (i := 183) (by decide +kernel), rfl, Or.inl rfl⟩
theorem fl_X6_34 : FLk RX6 34 6 1 .int false := ⟨by decide, rfl, _, _, _, "RateLimiter$Scanner", cf_6, by decide, tb (i := 184) (by decide +kernel), rfl, Or.inl rfl⟩
theorem fl_X5_49 : FLk RX5 49 6 2 .int false := ⟨by decide, rfl, _, _, _, "RateLimiter$Scanner", cf_6, by decide, tb (i := 185) (by decide +kernel), rfl, Or.inl rfl⟩
theorem fl_X6_19 : FLk RX6 19 6 2 .int false := ⟨by decide, rfl, _, _, _, "RateLimiter$Scanner", cf_6, by decide, tb (i := 186) (by decide +kernel), rfl, Or.inl rfl⟩
theorem fl_X6_50 : FLk RX6 50 6 3 .long false := ⟨by decide, rfl, _, _, _, "RateLimiter$Scanner", cf_6, by decide, tb (i := 187) (by decide +kernel), rfl, Or.inl rfl⟩
theorem fl_X5_121 : FLk RX5 121 6 3 .long false := ⟨by decide, rfl, _, _, _, "RateLimiter$Scanner", cf_6, by decide, tb (i := 188) (by decide +kernel), rfl, Or.inl rfl⟩
theorem fl_X6_22 : FLk RX6 22 6 4 .int false := ⟨by decide, rfl, _, _, _, "RateLimiter$Scanner", cf_6, by decide, tb (i := 189) (by decide +kernel), rfl, Or.inl rfl⟩
theorem fl_X5_99 : FLk RX5 99 6 4 .int false := ⟨by decide, rfl, _, _, _, "RateLimiter$Scanner", cf_6, by decide, tb (i := 190) (by decide +kernel), rfl, Or.inl rfl⟩
theorem fl_X6_62 : FLk RX6 62 6 5 .int false := ⟨by decide, rfl, _, _, _, "RateLimiter$Scanner", cf_6, by decide, tb (i := 191) (by decide +kernel), rfl, Or.inl rfl⟩
theorem fl_X5_171 : FLk RX5 171 6 5 .int false := ⟨by decide, rfl, _, _, _, "RateLimiter$Scanner", cf_6, by decide, tb (i := 192) (by decide +kernel), rfl, Or.inl rfl⟩
theorem fl_X5_46 : FLk RX5 46 5 0 .int false := ⟨by decide, rfl, _, _, _, "RateLimiter$Reader", cf_5, by decide, tb (i := 206) (by decide +kernel), rfl, Or.inl rfl⟩
theorem fl_X11_65 : FLk RX11 65 5 0 .int false := ⟨by decide, rfl, _, _, _, "RateLimiter$Reader", cf_5, by decide, tb (i := 207) (by decide +kernel), rfl, Or.inl rfl⟩
theorem fl_X5_9 : FLk RX5 9 5 1 .int false := ⟨by decide, rfl, _, _, _, "RateLimiter$Reader", cf_5, by decide, tb (i := 208) (by decide +kernel), rfl, Or.inl rfl⟩
theorem fl_X11_82 : FLk RX11 82 5 1 .int false := ⟨by decide, rfl, _, _, _, "RateLimiter$Reader", cf_5, by decide, tb (i := 209) (by decide +kernel), rfl, Or.inl rfl⟩
theorem fl_X5_18 : FLk RX5 18 5 2 (.object "RateLimiter$Setup") false := ⟨by decide, rfl, _, _, _, "RateLimiter$Reader", cf_5, by decide, tb (i := 210) (by decide +kernel), rfl, Or.inl rfl⟩
theorem fl_X11_68 : FLk RX11 68 5 2 (.object "RateLimiter$Setup") false := ⟨by decide, rfl, _, _, _, "RateLimiter$Reader", cf_5, by decide, tb (i := 211) (by decide +kernel), rfl, Or.inl rfl⟩
theorem fl_X5_25 : FLk RX5 25 5 3 (.object "RateLimiter$Scanner") true := ⟨by decide, rfl, _, _, _, "RateLimiter$Reader", cf_5, by decide, tb (i := 212) (by decide +kernel), rfl, Or.inl rfl⟩
theorem fl_X5_39 : FLk RX5 39 5 4 .int false := ⟨by decide, rfl, _, _, _, "RateLimiter$Reader", cf_5, by decide, tb (i := 213) (by decide +kernel), rfl, Or.inl rfl⟩
theorem fl_X5_56 : FLk RX5 56 5 5 .boolean false := ⟨by decide, rfl, _, _, _, "RateLimiter$Reader", cf_5, by decide, tb (i := 214) (by decide +kernel), rfl, Or.inl rfl⟩
theorem fl_X5_129 : FLk RX5 129 5 6 .long false := ⟨by decide, rfl, _, _, _, "RateLimiter$Reader", cf_5, by decide, tb (i := 215) (by decide +kernel), rfl, Or.inl rfl⟩
theorem fl_X5_139 : FLk RX5 139 5 7 .int false := ⟨by decide, rfl, _, _, _, "RateLimiter$Reader", cf_5, by decide, tb (i := 216) (by decide +kernel), rfl, Or.inl rfl⟩
theorem fl_X5_145 : FLk RX5 145 5 8 .int false := ⟨by decide, rfl, _, _, _, "RateLimiter$Reader", cf_5, by decide, tb (i := 217) (by decide +kernel), rfl, Or.inl rfl⟩
theorem fl_X5_184 : FLk RX5 184 5 9 .int false := ⟨by decide, rfl, _, _, _, "RateLimiter$Reader", cf_5, by decide, tb (i := 218) (by decide +kernel), rfl, Or.inl rfl⟩
theorem fl_X5_187 : FLk RX5 187 5 10 .int false := ⟨by decide, rfl, _, _, _, "RateLimiter$Reader", cf_5, by decide, tb (i := 219) (by decide +kernel), rfl, Or.inl rfl⟩
theorem fl_X0_9 : FLk RX0 9 0 0 (.array .int) true := ⟨by decide, rfl, _, _, _, "RateLimiter$Accounts", cf_0, by decide, tb (i := 272) (by decide +kernel), rfl, Or.inl rfl⟩
theorem fl_X8_136 : FLk RX8 136 0 0 (.array .int) true := ⟨by decide, rfl, _, _, _, "RateLimiter$Accounts", cf_0, by decide, tb (i := 273) (by decide +kernel), rfl, Or.inl rfl⟩
theorem fl_X11_147 : FLk RX11 147 0 0 (.array .int) true := ⟨by decide, rfl, _, _, _, "RateLimiter$Accounts", cf_0, by decide, tb (i := 274) (by decide +kernel), rfl, Or.inl rfl⟩
theorem fl_X0_15 : FLk RX0 15 0 1 (.array .int) true := ⟨by decide, rfl, _, _, _, "RateLimiter$Accounts", cf_0, by decide, tb (i := 275) (by decide +kernel), rfl, Or.inl rfl⟩
theorem fl_X8_139 : FLk RX8 139 0 1 (.array .int) true := ⟨by decide, rfl, _, _, _, "RateLimiter$Accounts", cf_0, by decide, tb (i := 276) (by decide +kernel), rfl, Or.inl rfl⟩
theorem fl_X11_152 : FLk RX11 152 0 1 (.array .int) true := ⟨by decide, rfl, _, _, _, "RateLimiter$Accounts", cf_0, by decide, tb (i := 277) (by decide +kernel), rfl, Or.inl rfl⟩
theorem fl_X0_18 : FLk RX0 18 0 2 (.array .int) true := ⟨by decide, rfl, _, _, _, "RateLimiter$Accounts", cf_0, by decide, tb (i := 278) (by decide +kernel), rfl, Or.inl rfl⟩
theorem fl_X8_126 : FLk RX8 126 0 2 (.array .int) true := ⟨by decide, rfl, _, _, _, "RateLimiter$Accounts", cf_0, by decide, tb (i := 279) (by decide +kernel), rfl, Or.inl rfl⟩
theorem fl_X11_155 : FLk RX11 155 0 2 (.array .int) true := ⟨by decide, rfl, _, _, _, "RateLimiter$Accounts", cf_0, by decide, tb (i := 280) (by decide +kernel), rfl, Or.inl rfl⟩
theorem fl_X4_9 : FLk RX4 9 4 0 (.array .int) true := ⟨by decide, rfl, _, _, _, "RateLimiter$Queues", cf_4, by decide, tb (i := 294) (by decide +kernel), rfl, Or.inl rfl⟩
theorem fl_X8_198 : FLk RX8 198 4 0 (.array .int) true := ⟨by decide, rfl, _, _, _, "RateLimiter$Queues", cf_4, by decide, tb (i := 295) (by decide +kernel), rfl, Or.inl rfl⟩
theorem fl_X11_193 : FLk RX11 193 4 0 (.array .int) true := ⟨by decide, rfl, _, _, _, "RateLimiter$Queues", cf_4, by decide, tb (i := 296) (by decide +kernel), rfl, Or.inl rfl⟩
theorem fl_X4_15 : FLk RX4 15 4 1 (.array .int) true := ⟨by decide, rfl, _, _, _, "RateLimiter$Queues", cf_4, by decide, tb (i := 297) (by decide +kernel), rfl, Or.inl rfl⟩
theorem fl_X4_18 : FLk RX4 18 4 2 (.array .int) true := ⟨by decide, rfl, _, _, _, "RateLimiter$Queues", cf_4, by decide, tb (i := 298) (by decide +kernel), rfl, Or.inl rfl⟩
theorem fl_X8_210 : FLk RX8 210 4 2 (.array .int) true := ⟨by decide, rfl, _, _, _, "RateLimiter$Queues", cf_4, by decide, tb (i := 299) (by decide +kernel), rfl, Or.inl rfl⟩
theorem fl_X4_21 : FLk RX4 21 4 3 (.array .int) true := ⟨by decide, rfl, _, _, _, "RateLimiter$Queues", cf_4, by decide, tb (i := 300) (by decide +kernel), rfl, Or.inl rfl⟩
theorem fl_X8_201 : FLk RX8 201 4 3 (.array .int) true := ⟨by decide, rfl, _, _, _, "RateLimiter$Queues", cf_4, by decide, tb (i := 301) (by decide +kernel), rfl, Or.inl rfl⟩
theorem fl_X4_28 : FLk RX4 28 4 4 .int false := ⟨by decide, rfl, _, _, _, "RateLimiter$Queues", cf_4, by decide, tb (i := 302) (by decide +kernel), rfl, Or.inl rfl⟩
theorem fl_X2_9 : FLk RX2 9 2 0 (.array .int) true := ⟨by decide, rfl, _, _, _, "RateLimiter$Counts", cf_2, by decide, tb (i := 320) (by decide +kernel), rfl, Or.inl rfl⟩
theorem fl_X8_237 : FLk RX8 237 2 0 (.array .int) true := ⟨by decide, rfl, _, _, _, "RateLimiter$Counts", cf_2, by decide, tb (i := 321) (by decide +kernel), rfl, Or.inl rfl⟩
theorem fl_X11_243 : FLk RX11 243 2 0 (.array .int) true := ⟨by decide, rfl, _, _, _, "RateLimiter$Counts", cf_2, by decide, tb (i := 322) (by decide +kernel), rfl, Or.inl rfl⟩
theorem fl_X2_15 : FLk RX2 15 2 1 (.array .int) true := ⟨by decide, rfl, _, _, _, "RateLimiter$Counts", cf_2, by decide, tb (i := 323) (by decide +kernel), rfl, Or.inl rfl⟩
theorem fl_X11_230 : FLk RX11 230 2 1 (.array .int) true := ⟨by decide, rfl, _, _, _, "RateLimiter$Counts", cf_2, by decide, tb (i := 324) (by decide +kernel), rfl, Or.inl rfl⟩
theorem fl_X2_18 : FLk RX2 18 2 2 (.array .int) true := ⟨by decide, rfl, _, _, _, "RateLimiter$Counts", cf_2, by decide, tb (i := 325) (by decide +kernel), rfl, Or.inl rfl⟩
theorem fl_X11_246 : FLk RX11 246 2 2 (.array .int) true := ⟨by decide, rfl, _, _, _, "RateLimiter$Counts", cf_2, by decide, tb (i := 326) (by decide +kernel), rfl, Or.inl rfl⟩
theorem fl_X2_21 : FLk RX2 21 2 3 (.array .int) true := ⟨by decide, rfl, _, _, _, "RateLimiter$Counts", cf_2, by decide, tb (i := 327) (by decide +kernel), rfl, Or.inl rfl⟩
theorem fl_X11_249 : FLk RX11 249 2 3 (.array .int) true := ⟨by decide, rfl, _, _, _, "RateLimiter$Counts", cf_2, by decide, tb (i := 328) (by decide +kernel), rfl, Or.inl rfl⟩
theorem fl_X2_24 : FLk RX2 24 2 4 (.array .int) true := ⟨by decide, rfl, _, _, _, "RateLimiter$Counts", cf_2, by decide, tb (i := 329) (by decide +kernel), rfl, Or.inl rfl⟩
theorem fl_X8_116 : FLk RX8 116 2 4 (.array .int) true := ⟨by decide, rfl, _, _, _, "RateLimiter$Counts", cf_2, by decide, tb (i := 330) (by decide +kernel), rfl, Or.inl rfl⟩
theorem fl_X11_252 : FLk RX11 252 2 4 (.array .int) true := ⟨by decide, rfl, _, _, _, "RateLimiter$Counts", cf_2, by decide, tb (i := 331) (by decide +kernel), rfl, Or.inl rfl⟩
theorem fl_X8_69 : FLk RX8 69 3 0 .int false := ⟨by decide, rfl, _, _, _, "RateLimiter$Log", cf_3, by decide, tb (i := 349) (by decide +kernel), rfl, Or.inl rfl⟩
theorem fl_X3_24 : FLk RX3 24 3 0 .int false := ⟨by decide, rfl, _, _, _, "RateLimiter$Log", cf_3, by decide, tb (i := 350) (by decide +kernel), rfl, Or.inl rfl⟩
theorem fl_X11_275 : FLk RX11 275 3 0 .int false := ⟨by decide, rfl, _, _, _, "RateLimiter$Log", cf_3, by decide, tb (i := 351) (by decide +kernel), rfl, Or.inl rfl⟩
theorem fl_X3_9 : FLk RX3 9 3 1 (.array .int) true := ⟨by decide, rfl, _, _, _, "RateLimiter$Log", cf_3, by decide, tb (i := 352) (by decide +kernel), rfl, Or.inl rfl⟩
theorem fl_X11_281 : FLk RX11 281 3 1 (.array .int) true := ⟨by decide, rfl, _, _, _, "RateLimiter$Log", cf_3, by decide, tb (i := 353) (by decide +kernel), rfl, Or.inl rfl⟩
theorem fl_X3_15 : FLk RX3 15 3 2 (.array .int) true := ⟨by decide, rfl, _, _, _, "RateLimiter$Log", cf_3, by decide, tb (i := 354) (by decide +kernel), rfl, Or.inl rfl⟩
theorem fl_X11_284 : FLk RX11 284 3 2 (.array .int) true := ⟨by decide, rfl, _, _, _, "RateLimiter$Log", cf_3, by decide, tb (i := 355) (by decide +kernel), rfl, Or.inl rfl⟩
theorem fl_X3_18 : FLk RX3 18 3 3 (.array .int) true := ⟨by decide, rfl, _, _, _, "RateLimiter$Log", cf_3, by decide, tb (i := 356) (by decide +kernel), rfl, Or.inl rfl⟩
theorem fl_X11_285 : FLk RX11 285 3 3 (.array .int) true := ⟨by decide, rfl, _, _, _, "RateLimiter$Log", cf_3, by decide, tb (i := 357) (by decide +kernel), rfl, Or.inl rfl⟩
theorem fl_X3_21 : FLk RX3 21 3 4 (.array .int) true := ⟨by decide, rfl, _, _, _, "RateLimiter$Log", cf_3, by decide, tb (i := 358) (by decide +kernel), rfl, Or.inl rfl⟩
theorem fl_X11_288 : FLk RX11 288 3 4 (.array .int) true := ⟨by decide, rfl, _, _, _, "RateLimiter$Log", cf_3, by decide, tb (i := 359) (by decide +kernel), rfl, Or.inl rfl⟩
theorem fl_X11_75 : FLk RX11 75 8 0 .boolean false := ⟨by decide, rfl, _, _, _, "RateLimiter$State", cf_8, by decide, tb (i := 371) (by decide +kernel), rfl, Or.inl rfl⟩
theorem fl_X8_49 : FLk RX8 49 8 1 .int false := ⟨by decide, rfl, _, _, _, "RateLimiter$State", cf_8, by decide, tb (i := 372) (by decide +kernel), rfl, Or.inl rfl⟩
theorem fl_X11_140 : FLk RX11 140 8 1 .int false := ⟨by decide, rfl, _, _, _, "RateLimiter$State", cf_8, by decide, tb (i := 373) (by decide +kernel), rfl, Or.inl rfl⟩
theorem fl_X8_9 : FLk RX8 9 8 2 (.array .int) true := ⟨by decide, rfl, _, _, _, "RateLimiter$State", cf_8, by decide, tb (i := 374) (by decide +kernel), rfl, Or.inl rfl⟩
theorem fl_X11_111 : FLk RX11 111 8 2 (.array .int) true := ⟨by decide, rfl, _, _, _, "RateLimiter$State", cf_8, by decide, tb (i := 375) (by decide +kernel), rfl, Or.inl rfl⟩
theorem fl_X8_15 : FLk RX8 15 8 3 (.array .int) true := ⟨by decide, rfl, _, _, _, "RateLimiter$State", cf_8, by decide, tb (i := 376) (by decide +kernel), rfl, Or.inl rfl⟩
theorem fl_X11_114 : FLk RX11 114 8 3 (.array .int) true := ⟨by decide, rfl, _, _, _, "RateLimiter$State", cf_8, by decide, tb (i := 377) (by decide +kernel), rfl, Or.inl rfl⟩
theorem fl_X8_18 : FLk RX8 18 8 4 (.array .int) true := ⟨by decide, rfl, _, _, _, "RateLimiter$State", cf_8, by decide, tb (i := 378) (by decide +kernel), rfl, Or.inl rfl⟩
theorem fl_X11_123 : FLk RX11 123 8 4 (.array .int) true := ⟨by decide, rfl, _, _, _, "RateLimiter$State", cf_8, by decide, tb (i := 379) (by decide +kernel), rfl, Or.inl rfl⟩
theorem fl_X8_24 : FLk RX8 24 8 5 (.object "RateLimiter$Accounts") true := ⟨by decide, rfl, _, _, _, "RateLimiter$State", cf_8, by decide, tb (i := 380) (by decide +kernel), rfl, Or.inl rfl⟩
theorem fl_X11_143 : FLk RX11 143 8 5 (.object "RateLimiter$Accounts") true := ⟨by decide, rfl, _, _, _, "RateLimiter$State", cf_8, by decide, tb (i := 381) (by decide +kernel), rfl, Or.inl rfl⟩
theorem fl_X8_31 : FLk RX8 31 8 6 (.object "RateLimiter$Queues") true := ⟨by decide, rfl, _, _, _, "RateLimiter$State", cf_8, by decide, tb (i := 382) (by decide +kernel), rfl, Or.inl rfl⟩
theorem fl_X11_189 : FLk RX11 189 8 6 (.object "RateLimiter$Queues") true := ⟨by decide, rfl, _, _, _, "RateLimiter$State", cf_8, by decide, tb (i := 383) (by decide +kernel), rfl, Or.inl rfl⟩
theorem fl_X8_38 : FLk RX8 38 8 7 (.object "RateLimiter$Counts") true := ⟨by decide, rfl, _, _, _, "RateLimiter$State", cf_8, by decide, tb (i := 384) (by decide +kernel), rfl, Or.inl rfl⟩
theorem fl_X11_226 : FLk RX11 226 8 7 (.object "RateLimiter$Counts") true := ⟨by decide, rfl, _, _, _, "RateLimiter$State", cf_8, by decide, tb (i := 385) (by decide +kernel), rfl, Or.inl rfl⟩
theorem fl_X8_45 : FLk RX8 45 8 8 (.object "RateLimiter$Log") true := ⟨by decide, rfl, _, _, _, "RateLimiter$State", cf_8, by decide, tb (i := 386) (by decide +kernel), rfl, Or.inl rfl⟩
theorem fl_X11_266 : FLk RX11 266 8 8 (.object "RateLimiter$Log") true := ⟨by decide, rfl, _, _, _, "RateLimiter$State", cf_8, by decide, tb (i := 387) (by decide +kernel), rfl, Or.inl rfl⟩
theorem fl_X11_10 : FLk RX11 10 11 0 (.object "RateLimiter$Text") true := ⟨by decide, rfl, _, _, _, "RateLimiter", cf_11, by decide, tb (i := 407) (by decide +kernel), rfl, Or.inl rfl⟩
theorem fl_X11_19 : FLk RX11 19 11 1 (.object "RateLimiter$Reader") true := ⟨by decide, rfl, _, _, _, "RateLimiter", cf_11, by decide, tb (i := 408) (by decide +kernel), rfl, Or.inl rfl⟩
theorem fl_X11_26 : FLk RX11 26 11 2 (.object "RateLimiter$Writer") true := ⟨by decide, rfl, _, _, _, "RateLimiter", cf_11, by decide, tb (i := 409) (by decide +kernel), rfl, Or.inl rfl⟩
theorem fl_X11_33 : FLk RX11 33 11 3 (.object "RateLimiter$Setup") false := ⟨by decide, rfl, _, _, _, "RateLimiter", cf_11, by decide, tb (i := 410) (by decide +kernel), rfl, Or.inl rfl⟩
theorem fl_X11_40 : FLk RX11 40 11 4 (.object "RateLimiter$State") true := ⟨by decide, rfl, _, _, _, "RateLimiter", cf_11, by decide, tb (i := 411) (by decide +kernel), rfl, Or.inl rfl⟩
theorem fl_X11_44 : FLk RX11 44 11 5 (.object "RateLimiter$State") true := ⟨by decide, rfl, _, _, _, "RateLimiter", cf_11, by decide, tb (i := 412) (by decide +kernel), rfl, Or.inl rfl⟩
theorem fl_X11_47 : FLk RX11 47 11 6 (.object "RateLimiter$State") true := ⟨by decide, rfl, _, _, _, "RateLimiter", cf_11, by decide, tb (i := 413) (by decide +kernel), rfl, Or.inl rfl⟩
theorem fl_X11_50 : FLk RX11 50 11 7 (.object "RateLimiter$State") true := ⟨by decide, rfl, _, _, _, "RateLimiter", cf_11, by decide, tb (i := 414) (by decide +kernel), rfl, Or.inl rfl⟩
theorem fl_Jx4a65c_9 : FLk RJx4a65c 9 15 1 (.array (.object "java/lang/Object")) false := ⟨by decide, rfl, _, _, _, "java/util/ArrayList", cf_15, by decide, tb (i := 654) (by decide +kernel), rfl, Or.inl rfl⟩
theorem fl_Jx4a65c_48 : FLk RJx4a65c 48 15 2 .int false := ⟨by decide, rfl, _, _, _, "java/util/ArrayList", cf_15, by decide, tb (i := 655) (by decide +kernel), rfl, Or.inl rfl⟩
theorem fl_Jx4a65c_63 : FLk RJx4a65c 63 15 0 .int false := ⟨by decide, rfl, _, _, _, "java/util/ArrayList", cf_15, by decide, tb (i := 657) (by decide +kernel), rfl, Or.inr (tb (i := 658) (by decide +kernel))⟩
theorem fl_X12_72 : FLk RX12 72 12 0 .int true := ⟨by decide, rfl, _, _, _, "RateLimiterLaw$Tree", cf_12, by decide, tb (i := 730) (by decide +kernel), rfl, Or.inl rfl⟩
theorem fl_X12_76 : FLk RX12 76 12 1 .int true := ⟨by decide, rfl, _, _, _, "RateLimiterLaw$Tree", cf_12, by decide, tb (i := 732) (by decide +kernel), rfl, Or.inl rfl⟩
theorem fl_X12_79 : FLk RX12 79 12 2 .int true := ⟨by decide, rfl, _, _, _, "RateLimiterLaw$Tree", cf_12, by decide, tb (i := 733) (by decide +kernel), rfl, Or.inl rfl⟩
theorem fl_X12_7 : FLk RX12 7 12 3 (.array .int) true := ⟨by decide, rfl, _, _, _, "RateLimiterLaw$Tree", cf_12, by decide, tb (i := 734) (by decide +kernel), rfl, Or.inl rfl⟩
theorem fl_X12_13 : FLk RX12 13 12 4 (.array .int) true := ⟨by decide, rfl, _, _, _, "RateLimiterLaw$Tree", cf_12, by decide, tb (i := 736) (by decide +kernel), rfl, Or.inl rfl⟩
theorem fl_X12_16 : FLk RX12 16 12 5 (.array .int) true := ⟨by decide, rfl, _, _, _, "RateLimiterLaw$Tree", cf_12, by decide, tb (i := 738) (by decide +kernel), rfl, Or.inl rfl⟩
theorem fl_X12_19 : FLk RX12 19 12 6 (.array .int) true := ⟨by decide, rfl, _, _, _, "RateLimiterLaw$Tree", cf_12, by decide, tb (i := 740) (by decide +kernel), rfl, Or.inl rfl⟩
theorem fl_X12_22 : FLk RX12 22 12 7 (.array .int) true := ⟨by decide, rfl, _, _, _, "RateLimiterLaw$Tree", cf_12, by decide, tb (i := 742) (by decide +kernel), rfl, Or.inl rfl⟩
theorem fl_X12_25 : FLk RX12 25 12 8 (.array .int) true := ⟨by decide, rfl, _, _, _, "RateLimiterLaw$Tree", cf_12, by decide, tb (i := 744) (by decide +kernel), rfl, Or.inl rfl⟩
theorem fl_X12_28 : FLk RX12 28 12 9 (.array .int) true := ⟨by decide, rfl, _, _, _, "RateLimiterLaw$Tree", cf_12, by decide, tb (i := 746) (by decide +kernel), rfl, Or.inl rfl⟩
theorem fl_X12_31 : FLk RX12 31 12 10 (.array .boolean) true := ⟨by decide, rfl, _, _, _, "RateLimiterLaw$Tree", cf_12, by decide, tb (i := 748) (by decide +kernel), rfl, Or.inl rfl⟩
theorem fl_X12_35 : FLk RX12 35 12 11 (.array .int) true := ⟨by decide, rfl, _, _, _, "RateLimiterLaw$Tree", cf_12, by decide, tb (i := 750) (by decide +kernel), rfl, Or.inl rfl⟩
theorem fl_X12_38 : FLk RX12 38 12 12 (.array .int) true := ⟨by decide, rfl, _, _, _, "RateLimiterLaw$Tree", cf_12, by decide, tb (i := 752) (by decide +kernel), rfl, Or.inl rfl⟩
theorem fl_X12_41 : FLk RX12 41 12 13 (.array .int) true := ⟨by decide, rfl, _, _, _, "RateLimiterLaw$Tree", cf_12, by decide, tb (i := 754) (by decide +kernel), rfl, Or.inl rfl⟩
theorem fl_X12_44 : FLk RX12 44 12 14 (.array .int) true := ⟨by decide, rfl, _, _, _, "RateLimiterLaw$Tree", cf_12, by decide, tb (i := 756) (by decide +kernel), rfl, Or.inl rfl⟩
theorem fl_X12_47 : FLk RX12 47 12 15 (.array .int) true := ⟨by decide, rfl, _, _, _, "RateLimiterLaw$Tree", cf_12, by decide, tb (i := 758) (by decide +kernel), rfl, Or.inl rfl⟩
theorem fl_X12_50 : FLk RX12 50 12 16 (.array .int) true := ⟨by decide, rfl, _, _, _, "RateLimiterLaw$Tree", cf_12, by decide, tb (i := 760) (by decide +kernel), rfl, Or.inl rfl⟩
theorem fl_X12_53 : FLk RX12 53 12 17 (.array .int) true := ⟨by decide, rfl, _, _, _, "RateLimiterLaw$Tree", cf_12, by decide, tb (i := 762) (by decide +kernel), rfl, Or.inl rfl⟩
theorem fl_X12_56 : FLk RX12 56 12 18 (.array .int) true := ⟨by decide, rfl, _, _, _, "RateLimiterLaw$Tree", cf_12, by decide, tb (i := 764) (by decide +kernel), rfl, Or.inl rfl⟩
theorem fl_X12_62 : FLk RX12 62 12 19 (.object "java/util/ArrayList") true := ⟨by decide, rfl, _, _, _, "RateLimiterLaw$Tree", cf_12, by decide, tb (i := 766) (by decide +kernel), rfl, Or.inl rfl⟩
theorem fl_X12_123 : FLk RX12 123 12 20 .int false := ⟨by decide, rfl, _, _, _, "RateLimiterLaw$Tree", cf_12, by decide, tb (i := 769) (by decide +kernel), rfl, Or.inl rfl⟩
theorem fl_X12_82 : FLk RX12 82 12 22 .int false := ⟨by decide, rfl, _, _, _, "RateLimiterLaw$Tree", cf_12, by decide, tb (i := 770) (by decide +kernel), rfl, Or.inl rfl⟩
theorem fl_X12_85 : FLk RX12 85 12 23 .int false := ⟨by decide, rfl, _, _, _, "RateLimiterLaw$Tree", cf_12, by decide, tb (i := 771) (by decide +kernel), rfl, Or.inl rfl⟩
theorem fl_X12_88 : FLk RX12 88 12 24 .int false := ⟨by decide, rfl, _, _, _, "RateLimiterLaw$Tree", cf_12, by decide, tb (i := 772) (by decide +kernel), rfl, Or.inl rfl⟩
theorem fl_J5_15 : FLk RJ5 15 14 0 (.array .byte) false := ⟨by decide, rfl, _, _, _, "java/lang/AbstractStringBuilder", cf_14, by decide, tb (i := 922) (by decide +kernel), rfl, Or.inl rfl⟩
theorem fl_J5_22 : FLk RJ5 22 14 1 .byte false := ⟨by decide, rfl, _, _, _, "java/lang/AbstractStringBuilder", cf_14, by decide, tb (i := 923) (by decide +kernel), rfl, Or.inl rfl⟩
theorem fl_J0_1048 : FLk RJ0 1048 14 2 .boolean false := ⟨by decide, rfl, _, _, _, "java/lang/AbstractStringBuilder", cf_14, by decide, tb (i := 924) (by decide +kernel), rfl, Or.inl rfl⟩
theorem fl_J5_79 : FLk RJ5 79 14 3 .int false := ⟨by decide, rfl, _, _, _, "java/lang/AbstractStringBuilder", cf_14, by decide, tb (i := 925) (by decide +kernel), rfl, Or.inl rfl⟩
theorem fl_J0_9 : FLk RJ0 9 13 0 (.array .byte) true := ⟨by decide, rfl, _, _, _, "java/lang/String", cf_13, by decide, tb (i := 1148) (by decide +kernel), rfl, Or.inl rfl⟩
theorem fl_J0_15 : FLk RJ0 15 13 1 .byte true := ⟨by decide, rfl, _, _, _, "java/lang/String", cf_13, by decide, tb (i := 1149) (by decide +kernel), rfl, Or.inl rfl⟩
theorem mk_X11_init : MK yX11_init cX11_init 1 none 0 := ⟨tb (i := 35) (by decide +kernel), tb (i := 1) (by decide +kernel), by decide +kernel⟩
theorem mc_X11_init : MC yX11_init := ⟨tb (i := 34) (by decide +kernel), rfl⟩
theorem mk_X9_init : MK yX9_init cX9_init 1 none 0 := ⟨tb (i := 43) (by decide +kernel), tb (i := 2) (by decide +kernel), by decide +kernel⟩
theorem mc_X9_init : MC yX9_init := ⟨tb (i := 42) (by decide +kernel), rfl⟩
theorem mk_X5_init : MK yX5_init cX5_init 1 none 0 := ⟨tb (i := 59) (by decide +kernel), tb (i := 3) (by decide +kernel), by decide +kernel⟩
theorem mc_X5_init : MC yX5_init := ⟨tb (i := 58) (by decide +kernel), rfl⟩
theorem mk_X7_init : MK yX7_init cX7_init 1 none 0 := ⟨tb (i := 65) (by decide +kernel), tb (i := 4) (by decide +kernel), by decide +kernel⟩
theorem mc_X7_init : MC yX7_init := ⟨tb (i := 64) (by decide +kernel), rfl⟩
theorem mk_X1_init : MK yX1_init cX1_init 1 none 0 := ⟨tb (i := 71) (by decide +kernel), tb (i := 5) (by decide +kernel), by decide +kernel⟩
theorem mc_X1_init : MC yX1_init := ⟨tb (i := 70) (by decide +kernel), rfl⟩
theorem mk_X6_init : MK yX6_init cX6_init 1 none 0 := ⟨tb (i := 180) (by decide +kernel), tb (i := 6) (by decide +kernel), by decide +kernel⟩
theorem mc_X6_init : MC yX6_init := ⟨tb (i := 179) (by decide +kernel), rfl⟩
theorem mk_X10_init : MK yX10_init cX10_init 1 none 0 := ⟨tb (i := 247) (by decide +kernel), tb (i := 7) (by decide +kernel), by decide +kernel⟩
theorem mc_X10_init : MC yX10_init := ⟨tb (i := 246) (by decide +kernel), rfl⟩
theorem mk_X8_init : MK yX8_init cX8_init 1 none 0 := ⟨tb (i := 264) (by decide +kernel), tb (i := 8) (by decide +kernel), by decide +kernel⟩
theorem mc_X8_init : MC yX8_init := ⟨tb (i := 263) (by decide +kernel), rfl⟩
theorem mk_X0_init : MK yX0_init cX0_init 1 none 0 := ⟨tb (i := 270) (by decide +kernel), tb (i := 9) (by decide +kernel), by decide +kernel⟩
theorem mc_X0_init : MC yX0_init := ⟨tb (i := 269) (by decide +kernel), rfl⟩
theorem mk_X4_init : MK yX4_init cX4_init 1 none 0 := ⟨tb (i := 292) (by decide +kernel), tb (i := 10) (by decide +kernel), by decide +kernel⟩
theorem mc_X4_init : MC yX4_init := ⟨tb (i := 291) (by decide +kernel), rfl⟩
theorem mk_X2_init : MK yX2_init cX2_init 1 none 0 := ⟨tb (i := 318) (by decide +kernel), tb (i := 11) (by decide +kernel), by decide +kernel⟩
theorem mc_X2_init : MC yX2_init := ⟨tb (i := 317) (by decide +kernel), rfl⟩
theorem mk_X3_init : MK yX3_init cX3_init 1 none 0 := ⟨tb (i := 347) (by decide +kernel), tb (i := 12) (by decide +kernel), by decide +kernel⟩
theorem mc_X3_init : MC yX3_init := ⟨tb (i := 346) (by decide +kernel), rfl⟩
theorem mk_X11_nodeCount : MK yX11_nodeCount cX11_nodeCount 1 (some .int) 0 := ⟨tb (i := 435) (by decide +kernel), tb (i := 1) (by decide +kernel), by decide +kernel⟩
theorem mi_X11_nodeCount : MI yX11_nodeCount := ⟨tb (i := 433) (by decide +kernel), tb (i := 434) (by decide +kernel)⟩
theorem mk_X11_isLeaf : MK yX11_isLeaf cX11_isLeaf 2 (some .boolean) 1 := ⟨tb (i := 439) (by decide +kernel), tb (i := 1) (by decide +kernel), by decide +kernel⟩
theorem mi_X11_isLeaf : MI yX11_isLeaf := ⟨tb (i := 437) (by decide +kernel), tb (i := 438) (by decide +kernel)⟩
theorem mk_X7_hasLeaf : MK yX7_hasLeaf cX7_hasLeaf 2 (some .boolean) 1 := ⟨tb (i := 443) (by decide +kernel), tb (i := 4) (by decide +kernel), by decide +kernel⟩
theorem mi_X7_hasLeaf : MI yX7_hasLeaf := ⟨tb (i := 441) (by decide +kernel), tb (i := 442) (by decide +kernel)⟩
theorem mk_X7_hasNode : MK yX7_hasNode cX7_hasNode 2 (some .boolean) 1 := ⟨tb (i := 447) (by decide +kernel), tb (i := 4) (by decide +kernel), by decide +kernel⟩
theorem mi_X7_hasNode : MI yX7_hasNode := ⟨tb (i := 445) (by decide +kernel), tb (i := 446) (by decide +kernel)⟩
theorem mk_X11_time : MK yX11_time cX11_time 1 (some .int) 0 := ⟨tb (i := 451) (by decide +kernel), tb (i := 1) (by decide +kernel), by decide +kernel⟩
theorem mi_X11_time : MI yX11_time := ⟨tb (i := 449) (by decide +kernel), tb (i := 450) (by decide +kernel)⟩
theorem mk_X11_tokens : MK yX11_tokens cX11_tokens 2 (some .int) 1 := ⟨tb (i := 455) (by decide +kernel), tb (i := 1) (by decide +kernel), by decide +kernel⟩
theorem mi_X11_tokens : MI yX11_tokens := ⟨tb (i := 453) (by decide +kernel), tb (i := 454) (by decide +kernel)⟩
theorem mk_X11_lender : MK yX11_lender cX11_lender 3 (some .int) 2 := ⟨tb (i := 460) (by decide +kernel), tb (i := 1) (by decide +kernel), by decide +kernel⟩
theorem mi_X11_lender : MI yX11_lender := ⟨tb (i := 458) (by decide +kernel), tb (i := 459) (by decide +kernel)⟩
theorem mk_X11_isRequest : MK yX11_isRequest cX11_isRequest 3 (some .boolean) 2 := ⟨tb (i := 464) (by decide +kernel), tb (i := 1) (by decide +kernel), by decide +kernel⟩
theorem mi_X11_isRequest : MI yX11_isRequest := ⟨tb (i := 463) (by decide +kernel), pb (i := 0) (by decide +kernel)⟩
theorem mk_X0_findLender : MK yX0_findLender cX0_findLender 8 (some .int) 3 := ⟨tb (i := 468) (by decide +kernel), tb (i := 9) (by decide +kernel), by decide +kernel⟩
theorem mi_X0_findLender : MI yX0_findLender := ⟨tb (i := 466) (by decide +kernel), tb (i := 467) (by decide +kernel)⟩
theorem mk_X11_acquire : MK yX11_acquire cX11_acquire 4 (some .int) 2 := ⟨tb (i := 473) (by decide +kernel), tb (i := 1) (by decide +kernel), by decide +kernel⟩
theorem mi_X11_acquire : MI yX11_acquire := ⟨tb (i := 471) (by decide +kernel), tb (i := 472) (by decide +kernel)⟩
theorem mk_X8_send : MK yX8_send cX8_send 5 none 4 := ⟨tb (i := 477) (by decide +kernel), tb (i := 8) (by decide +kernel), by decide +kernel⟩
theorem mi_X8_send : MI yX8_send := ⟨tb (i := 475) (by decide +kernel), tb (i := 476) (by decide +kernel)⟩
theorem mk_X0_pay : MK yX0_pay cX0_pay 9 none 4 := ⟨tb (i := 482) (by decide +kernel), tb (i := 9) (by decide +kernel), by decide +kernel⟩
theorem mi_X0_pay : MI yX0_pay := ⟨tb (i := 480) (by decide +kernel), tb (i := 481) (by decide +kernel)⟩
theorem mk_J9_min_7cf53 : MK yJ9_min_7cf53 cJ9_min_7cf53 2 (some .int) 2 := ⟨tb (i := 485) (by decide +kernel), tb (i := 13) (by decide +kernel), by decide +kernel⟩
theorem ms_J9_min_7cf53 : MS yJ9_min_7cf53 := tb (i := 484) (by decide +kernel)
theorem mk_X2_countSent : MK yX2_countSent cX2_countSent 4 none 3 := ⟨tb (i := 489) (by decide +kernel), tb (i := 11) (by decide +kernel), by decide +kernel⟩
theorem mi_X2_countSent : MI yX2_countSent := ⟨tb (i := 487) (by decide +kernel), tb (i := 488) (by decide +kernel)⟩
theorem mk_X3_add : MK yX3_add cX3_add 5 none 4 := ⟨tb (i := 493) (by decide +kernel), tb (i := 12) (by decide +kernel), by decide +kernel⟩
theorem mi_X3_add : MI yX3_add := ⟨tb (i := 491) (by decide +kernel), tb (i := 492) (by decide +kernel)⟩
theorem mk_X3_putFirst : MK yX3_putFirst cX3_putFirst 2 none 2 := ⟨tb (i := 496) (by decide +kernel), tb (i := 12) (by decide +kernel), by decide +kernel⟩
theorem ms_X3_putFirst : MS yX3_putFirst := tb (i := 495) (by decide +kernel)
theorem mk_X7_distance : MK yX7_distance cX7_distance 3 (some .int) 2 := ⟨tb (i := 504) (by decide +kernel), tb (i := 4) (by decide +kernel), by decide +kernel⟩
theorem mi_X7_distance : MI yX7_distance := ⟨tb (i := 502) (by decide +kernel), tb (i := 503) (by decide +kernel)⟩
theorem mk_X11_nextLeaf : MK yX11_nextLeaf cX11_nextLeaf 1 (some .int) 0 := ⟨tb (i := 508) (by decide +kernel), tb (i := 1) (by decide +kernel), by decide +kernel⟩
theorem mi_X11_nextLeaf : MI yX11_nextLeaf := ⟨tb (i := 506) (by decide +kernel), tb (i := 507) (by decide +kernel)⟩
theorem mk_X8_chooseLeaf : MK yX8_chooseLeaf cX8_chooseLeaf 7 (some .int) 1 := ⟨tb (i := 512) (by decide +kernel), tb (i := 8) (by decide +kernel), by decide +kernel⟩
theorem mi_X8_chooseLeaf : MI yX8_chooseLeaf := ⟨tb (i := 510) (by decide +kernel), tb (i := 511) (by decide +kernel)⟩
theorem mk_X8_frontDistance : MK yX8_frontDistance cX8_frontDistance 3 (some .int) 2 := ⟨tb (i := 516) (by decide +kernel), tb (i := 8) (by decide +kernel), by decide +kernel⟩
theorem mi_X8_frontDistance : MI yX8_frontDistance := ⟨tb (i := 515) (by decide +kernel), pb (i := 1) (by decide +kernel)⟩
theorem mk_X8_precedes : MK yX8_precedes cX8_precedes 4 (some .boolean) 3 := ⟨tb (i := 522) (by decide +kernel), tb (i := 8) (by decide +kernel), by decide +kernel⟩
theorem mi_X8_precedes : MI yX8_precedes := ⟨tb (i := 521) (by decide +kernel), pb (i := 2) (by decide +kernel)⟩
theorem mk_X8_compareServed : MK yX8_compareServed cX8_compareServed 7 (some .int) 2 := ⟨tb (i := 526) (by decide +kernel), tb (i := 8) (by decide +kernel), by decide +kernel⟩
theorem mi_X8_compareServed : MI yX8_compareServed := ⟨tb (i := 524) (by decide +kernel), tb (i := 525) (by decide +kernel)⟩
theorem mk_J13_compare_74951 : MK yJ13_compare_74951 cJ13_compare_74951 4 (some .int) 2 := ⟨tb (i := 529) (by decide +kernel), tb (i := 16) (by decide +kernel), by decide +kernel⟩
theorem ms_J13_compare_74951 : MS yJ13_compare_74951 := tb (i := 528) (by decide +kernel)
theorem mk_X11_advance : MK yX11_advance cX11_advance 2 (some .int) 1 := ⟨tb (i := 533) (by decide +kernel), tb (i := 1) (by decide +kernel), by decide +kernel⟩
theorem mi_X11_advance : MI yX11_advance := ⟨tb (i := 531) (by decide +kernel), tb (i := 532) (by decide +kernel)⟩
theorem mk_X11_canAdvance : MK yX11_canAdvance cX11_canAdvance 2 (some .boolean) 1 := ⟨tb (i := 537) (by decide +kernel), tb (i := 1) (by decide +kernel), by decide +kernel⟩
theorem mi_X11_canAdvance : MI yX11_canAdvance := ⟨tb (i := 536) (by decide +kernel), pb (i := 3) (by decide +kernel)⟩
theorem mk_X8_makeTicks : MK yX8_makeTicks cX8_makeTicks 5 (some .int) 2 := ⟨tb (i := 541) (by decide +kernel), tb (i := 8) (by decide +kernel), by decide +kernel⟩
theorem mi_X8_makeTicks : MI yX8_makeTicks := ⟨tb (i := 539) (by decide +kernel), tb (i := 540) (by decide +kernel)⟩
theorem mk_X8_makeTick : MK yX8_makeTick cX8_makeTick 3 (some .int) 1 := ⟨tb (i := 545) (by decide +kernel), tb (i := 8) (by decide +kernel), by decide +kernel⟩
theorem mi_X8_makeTick : MI yX8_makeTick := ⟨tb (i := 543) (by decide +kernel), tb (i := 544) (by decide +kernel)⟩
theorem mk_X8_makeChanges : MK yX8_makeChanges cX8_makeChanges 4 none 1 := ⟨tb (i := 549) (by decide +kernel), tb (i := 8) (by decide +kernel), by decide +kernel⟩
theorem mi_X8_makeChanges : MI yX8_makeChanges := ⟨tb (i := 548) (by decide +kernel), pb (i := 4) (by decide +kernel)⟩
theorem mk_X8_row : MK yX8_row cX8_row 2 (some (.array .int)) 1 := ⟨tb (i := 553) (by decide +kernel), tb (i := 8) (by decide +kernel), by decide +kernel⟩
theorem mi_X8_row : MI yX8_row := ⟨tb (i := 551) (by decide +kernel), tb (i := 552) (by decide +kernel)⟩
theorem mk_X0_refill : MK yX0_refill cX0_refill 7 none 4 := ⟨tb (i := 557) (by decide +kernel), tb (i := 9) (by decide +kernel), by decide +kernel⟩
theorem mi_X0_refill : MI yX0_refill := ⟨tb (i := 555) (by decide +kernel), tb (i := 556) (by decide +kernel)⟩
theorem mk_J9_max_7cf53 : MK yJ9_max_7cf53 cJ9_max_7cf53 2 (some .int) 2 := ⟨tb (i := 560) (by decide +kernel), tb (i := 13) (by decide +kernel), by decide +kernel⟩
theorem ms_J9_max_7cf53 : MS yJ9_max_7cf53 := tb (i := 559) (by decide +kernel)
theorem mk_X8_dropOld : MK yX8_dropOld cX8_dropOld 4 none 1 := ⟨tb (i := 564) (by decide +kernel), tb (i := 8) (by decide +kernel), by decide +kernel⟩
theorem mi_X8_dropOld : MI yX8_dropOld := ⟨tb (i := 563) (by decide +kernel), pb (i := 5) (by decide +kernel)⟩
theorem mk_X8_isFrontOld : MK yX8_isFrontOld cX8_isFrontOld 3 (some .boolean) 2 := ⟨tb (i := 568) (by decide +kernel), tb (i := 8) (by decide +kernel), by decide +kernel⟩
theorem mi_X8_isFrontOld : MI yX8_isFrontOld := ⟨tb (i := 567) (by decide +kernel), pb (i := 6) (by decide +kernel)⟩
theorem mk_X4_removeFront : MK yX4_removeFront cX4_removeFront 2 none 1 := ⟨tb (i := 572) (by decide +kernel), tb (i := 10) (by decide +kernel), by decide +kernel⟩
theorem mi_X4_removeFront : MI yX4_removeFront := ⟨tb (i := 570) (by decide +kernel), tb (i := 571) (by decide +kernel)⟩
theorem mk_X4_moveUp : MK yX4_moveUp cX4_moveUp 4 none 2 := ⟨tb (i := 576) (by decide +kernel), tb (i := 10) (by decide +kernel), by decide +kernel⟩
theorem mi_X4_moveUp : MI yX4_moveUp := ⟨tb (i := 575) (by decide +kernel), pb (i := 7) (by decide +kernel)⟩
theorem mk_X8_dispatch : MK yX8_dispatch cX8_dispatch 5 (some .int) 1 := ⟨tb (i := 581) (by decide +kernel), tb (i := 8) (by decide +kernel), by decide +kernel⟩
theorem mi_X8_dispatch : MI yX8_dispatch := ⟨tb (i := 580) (by decide +kernel), pb (i := 8) (by decide +kernel)⟩
theorem mk_X11_fairness : MK yX11_fairness cX11_fairness 10 (some .int) 0 := ⟨tb (i := 587) (by decide +kernel), tb (i := 1) (by decide +kernel), by decide +kernel⟩
theorem mi_X11_fairness : MI yX11_fairness := ⟨tb (i := 585) (by decide +kernel), tb (i := 586) (by decide +kernel)⟩
theorem mk_X11_quotient : MK yX11_quotient cX11_quotient 4 (some .long) 2 := ⟨tb (i := 591) (by decide +kernel), tb (i := 1) (by decide +kernel), by decide +kernel⟩
theorem ms_X11_quotient : MS yX11_quotient := tb (i := 590) (by decide +kernel)
theorem mk_X11_mostServed : MK yX11_mostServed cX11_mostServed 3 (some .int) 0 := ⟨tb (i := 596) (by decide +kernel), tb (i := 1) (by decide +kernel), by decide +kernel⟩
theorem mi_X11_mostServed : MI yX11_mostServed := ⟨tb (i := 594) (by decide +kernel), tb (i := 595) (by decide +kernel)⟩
theorem mk_X11_loggedLeaf : MK yX11_loggedLeaf cX11_loggedLeaf 3 (some .int) 1 := ⟨tb (i := 601) (by decide +kernel), tb (i := 1) (by decide +kernel), by decide +kernel⟩
theorem mi_X11_loggedLeaf : MI yX11_loggedLeaf := ⟨tb (i := 599) (by decide +kernel), tb (i := 600) (by decide +kernel)⟩
theorem mk_X11_logEntry : MK yX11_logEntry cX11_logEntry 2 (some .int) 1 := ⟨tb (i := 605) (by decide +kernel), tb (i := 1) (by decide +kernel), by decide +kernel⟩
theorem mi_X11_logEntry : MI yX11_logEntry := ⟨tb (i := 604) (by decide +kernel), pb (i := 9) (by decide +kernel)⟩
theorem mk_X11_loggedCost : MK yX11_loggedCost cX11_loggedCost 3 (some .int) 1 := ⟨tb (i := 609) (by decide +kernel), tb (i := 1) (by decide +kernel), by decide +kernel⟩
theorem mi_X11_loggedCost : MI yX11_loggedCost := ⟨tb (i := 607) (by decide +kernel), tb (i := 608) (by decide +kernel)⟩
theorem mk_X11_loggedLender : MK yX11_loggedLender cX11_loggedLender 3 (some .int) 1 := ⟨tb (i := 613) (by decide +kernel), tb (i := 1) (by decide +kernel), by decide +kernel⟩
theorem mi_X11_loggedLender : MI yX11_loggedLender := ⟨tb (i := 611) (by decide +kernel), tb (i := 612) (by decide +kernel)⟩
theorem mk_X11_loggedTime : MK yX11_loggedTime cX11_loggedTime 3 (some .int) 1 := ⟨tb (i := 617) (by decide +kernel), tb (i := 1) (by decide +kernel), by decide +kernel⟩
theorem mi_X11_loggedTime : MI yX11_loggedTime := ⟨tb (i := 615) (by decide +kernel), tb (i := 616) (by decide +kernel)⟩
theorem mk_X11_setRate : MK yX11_setRate cX11_setRate 3 (some .int) 2 := ⟨tb (i := 621) (by decide +kernel), tb (i := 1) (by decide +kernel), by decide +kernel⟩
theorem mi_X11_setRate : MI yX11_setRate := ⟨tb (i := 619) (by decide +kernel), tb (i := 620) (by decide +kernel)⟩
theorem mk_X11_change : MK yX11_change cX11_change 6 (some .int) 3 := ⟨tb (i := 625) (by decide +kernel), tb (i := 1) (by decide +kernel), by decide +kernel⟩
theorem mi_X11_change : MI yX11_change := ⟨tb (i := 624) (by decide +kernel), pb (i := 10) (by decide +kernel)⟩
theorem mk_X11_isInRange : MK yX11_isInRange cX11_isInRange 2 (some .boolean) 2 := ⟨tb (i := 628) (by decide +kernel), tb (i := 1) (by decide +kernel), by decide +kernel⟩
theorem ms_X11_isInRange : MS yX11_isInRange := tb (i := 627) (by decide +kernel)
theorem mk_X12_init : MK yX12_init cX12_init 3 none 1 := ⟨tb (i := 638) (by decide +kernel), tb (i := 17) (by decide +kernel), by decide +kernel⟩
theorem mc_X12_init : MC yX12_init := ⟨tb (i := 637) (by decide +kernel), rfl⟩
theorem mk_Jx4a65c_init_da8c8 : MK yJx4a65c_init_da8c8 cJx4a65c_init_da8c8 1 none 0 := ⟨tb (i := 644) (by decide +kernel), tb (i := 20) (by decide +kernel), by decide +kernel⟩
theorem mc_Jx4a65c_init_da8c8 : MC yJx4a65c_init_da8c8 := ⟨tb (i := 643) (by decide +kernel), rfl⟩
theorem mk_Jxc12de_init_da8c8 : MK yJxc12de_init_da8c8 cJxc12de_init_da8c8 1 none 0 := ⟨tb (i := 647) (by decide +kernel), tb (i := 19) (by decide +kernel), by decide +kernel⟩
theorem mc_Jxc12de_init_da8c8 : MC yJxc12de_init_da8c8 := ⟨tb (i := 646) (by decide +kernel), rfl⟩
theorem mk_Jxa1e45_init_da8c8 : MK yJxa1e45_init_da8c8 cJxa1e45_init_da8c8 1 none 0 := ⟨tb (i := 650) (by decide +kernel), tb (i := 18) (by decide +kernel), by decide +kernel⟩
theorem mc_Jxa1e45_init_da8c8 : MC yJxa1e45_init_da8c8 := ⟨tb (i := 649) (by decide +kernel), rfl⟩
theorem mk_L_draw : MK yL_draw cL_draw 2 (some .int) 2 := ⟨tb (i := 668) (by decide +kernel), tb (i := 0) (by decide +kernel), by decide +kernel⟩
theorem ms_L_draw : MS yL_draw := tb (i := 667) (by decide +kernel)
theorem mk_L_mixed : MK yL_mixed cL_mixed 1 (some .int) 1 := ⟨tb (i := 671) (by decide +kernel), tb (i := 0) (by decide +kernel), by decide +kernel⟩
theorem ms_L_mixed : MS yL_mixed := tb (i := 670) (by decide +kernel)
theorem mk_Jx4a65c_add_9ea2d : MK yJx4a65c_add_9ea2d cJx4a65c_add_9ea2d 2 (some .boolean) 1 := ⟨tb (i := 676) (by decide +kernel), tb (i := 20) (by decide +kernel), by decide +kernel⟩
theorem mi_Jx4a65c_add_9ea2d : MI yJx4a65c_add_9ea2d := ⟨tb (i := 674) (by decide +kernel), tb (i := 675) (by decide +kernel)⟩
theorem mk_Jx4a65c_add_72be8 : MK yJx4a65c_add_72be8 cJx4a65c_add_72be8 4 none 3 := ⟨tb (i := 680) (by decide +kernel), tb (i := 20) (by decide +kernel), by decide +kernel⟩
theorem mi_Jx4a65c_add_72be8 : MI yJx4a65c_add_72be8 := ⟨tb (i := 679) (by decide +kernel), pb (i := 11) (by decide +kernel)⟩
theorem mk_Jx4a65c_grow_d5877 : MK yJx4a65c_grow_d5877 cJx4a65c_grow_d5877 1 (some (.array (.object "java/lang/Object"))) 0 := ⟨tb (i := 684) (by decide +kernel), tb (i := 20) (by decide +kernel), by decide +kernel⟩
theorem mi_Jx4a65c_grow_d5877 : MI yJx4a65c_grow_d5877 := ⟨tb (i := 683) (by decide +kernel), pb (i := 12) (by decide +kernel)⟩
theorem mk_Jx4a65c_grow_92f84 : MK yJx4a65c_grow_92f84 cJx4a65c_grow_92f84 4 (some (.array (.object "java/lang/Object"))) 1 := ⟨tb (i := 688) (by decide +kernel), tb (i := 20) (by decide +kernel), by decide +kernel⟩
theorem mi_Jx4a65c_grow_92f84 : MI yJx4a65c_grow_92f84 := ⟨tb (i := 687) (by decide +kernel), pb (i := 13) (by decide +kernel)⟩
theorem mk_J8_newLength_cabcc : MK yJ8_newLength_cabcc cJ8_newLength_cabcc 4 (some .int) 3 := ⟨tb (i := 691) (by decide +kernel), tb (i := 21) (by decide +kernel), by decide +kernel⟩
theorem ms_J8_newLength_cabcc : MS yJ8_newLength_cabcc := tb (i := 690) (by decide +kernel)
theorem mk_J8_hugeLength_7cf53 : MK yJ8_hugeLength_7cf53 cJ8_hugeLength_7cf53 3 (some .int) 2 := ⟨tb (i := 696) (by decide +kernel), tb (i := 21) (by decide +kernel), by decide +kernel⟩
theorem ms_J8_hugeLength_7cf53 : MS yJ8_hugeLength_7cf53 := tb (i := 695) (by decide +kernel)
theorem mk_J7_copyOf_1904c : MK yJ7_copyOf_1904c cJ7_copyOf_1904c 2 (some (.array (.object "java/lang/Object"))) 2 := ⟨tb (i := 699) (by decide +kernel), tb (i := 22) (by decide +kernel), by decide +kernel⟩
theorem ms_J7_copyOf_1904c : MS yJ7_copyOf_1904c := tb (i := 698) (by decide +kernel)
theorem mk_J7_copyOf_6403c : MK yJ7_copyOf_6403c cJ7_copyOf_6403c 4 (some (.array (.object "java/lang/Object"))) 3 := ⟨tb (i := 722) (by decide +kernel), tb (i := 22) (by decide +kernel), by decide +kernel⟩
theorem ms_J7_copyOf_6403c : MS yJ7_copyOf_6403c := tb (i := 721) (by decide +kernel)
theorem mk_X12_steps : MK yX12_steps cX12_steps 3 (some .int) 2 := ⟨tb (i := 827) (by decide +kernel), tb (i := 17) (by decide +kernel), by decide +kernel⟩
theorem mi_X12_steps : MI yX12_steps := ⟨tb (i := 825) (by decide +kernel), tb (i := 826) (by decide +kernel)⟩
theorem mk_X12_lender : MK yX12_lender cX12_lender 4 (some .int) 2 := ⟨tb (i := 832) (by decide +kernel), tb (i := 17) (by decide +kernel), by decide +kernel⟩
theorem mi_X12_lender : MI yX12_lender := ⟨tb (i := 830) (by decide +kernel), tb (i := 831) (by decide +kernel)⟩
theorem mk_X12_send : MK yX12_send cX12_send 6 none 2 := ⟨tb (i := 836) (by decide +kernel), tb (i := 17) (by decide +kernel), by decide +kernel⟩
theorem mi_X12_send : MI yX12_send := ⟨tb (i := 834) (by decide +kernel), tb (i := 835) (by decide +kernel)⟩
theorem mk_X12_tick : MK yX12_tick cX12_tick 3 (some .int) 0 := ⟨tb (i := 843) (by decide +kernel), tb (i := 17) (by decide +kernel), by decide +kernel⟩
theorem mi_X12_tick : MI yX12_tick := ⟨tb (i := 841) (by decide +kernel), tb (i := 842) (by decide +kernel)⟩
theorem mk_X12_refill : MK yX12_refill cX12_refill 3 none 0 := ⟨tb (i := 847) (by decide +kernel), tb (i := 17) (by decide +kernel), by decide +kernel⟩
theorem mi_X12_refill : MI yX12_refill := ⟨tb (i := 845) (by decide +kernel), tb (i := 846) (by decide +kernel)⟩
theorem mk_Jx4a65c_get_915e3 : MK yJx4a65c_get_915e3 cJx4a65c_get_915e3 2 (some (.object "java/lang/Object")) 1 := ⟨tb (i := 851) (by decide +kernel), tb (i := 20) (by decide +kernel), by decide +kernel⟩
theorem mi_Jx4a65c_get_915e3 : MI yJx4a65c_get_915e3 := ⟨tb (i := 849) (by decide +kernel), tb (i := 850) (by decide +kernel)⟩
theorem mk_J15_checkIndex_7cf53 : MK yJ15_checkIndex_7cf53 cJ15_checkIndex_7cf53 2 (some .int) 2 := ⟨tb (i := 854) (by decide +kernel), tb (i := 30) (by decide +kernel), by decide +kernel⟩
theorem ms_J15_checkIndex_7cf53 : MS yJ15_checkIndex_7cf53 := tb (i := 853) (by decide +kernel)
theorem mk_J3_checkIndex_8e157 : MK yJ3_checkIndex_8e157 cJ3_checkIndex_8e157 3 (some .int) 3 := ⟨tb (i := 857) (by decide +kernel), tb (i := 27) (by decide +kernel), by decide +kernel⟩
theorem ms_J3_checkIndex_8e157 : MS yJ3_checkIndex_8e157 := tb (i := 856) (by decide +kernel)
theorem mk_Jx4a65c_elementData_915e3 : MK yJx4a65c_elementData_915e3 cJx4a65c_elementData_915e3 2 (some (.object "java/lang/Object")) 1 := ⟨tb (i := 861) (by decide +kernel), tb (i := 20) (by decide +kernel), by decide +kernel⟩
theorem mi_Jx4a65c_elementData_915e3 : MI yJx4a65c_elementData_915e3 := ⟨tb (i := 859) (by decide +kernel), tb (i := 860) (by decide +kernel)⟩
theorem mk_Jx4a65c_isEmpty_aae02 : MK yJx4a65c_isEmpty_aae02 cJx4a65c_isEmpty_aae02 1 (some .boolean) 0 := ⟨tb (i := 865) (by decide +kernel), tb (i := 20) (by decide +kernel), by decide +kernel⟩
theorem mi_Jx4a65c_isEmpty_aae02 : MI yJx4a65c_isEmpty_aae02 := ⟨tb (i := 863) (by decide +kernel), tb (i := 864) (by decide +kernel)⟩
theorem mk_Jx4a65c_remove_915e3 : MK yJx4a65c_remove_915e3 cJx4a65c_remove_915e3 4 (some (.object "java/lang/Object")) 1 := ⟨tb (i := 870) (by decide +kernel), tb (i := 20) (by decide +kernel), by decide +kernel⟩
theorem mi_Jx4a65c_remove_915e3 : MI yJx4a65c_remove_915e3 := ⟨tb (i := 868) (by decide +kernel), tb (i := 869) (by decide +kernel)⟩
theorem mk_Jx4a65c_fastRemove_b59b0 : MK yJx4a65c_fastRemove_b59b0 cJx4a65c_fastRemove_b59b0 4 none 2 := ⟨tb (i := 874) (by decide +kernel), tb (i := 20) (by decide +kernel), by decide +kernel⟩
theorem mi_Jx4a65c_fastRemove_b59b0 : MI yJx4a65c_fastRemove_b59b0 := ⟨tb (i := 873) (by decide +kernel), pb (i := 14) (by decide +kernel)⟩
theorem mk_X12_first : MK yX12_first cX12_first 3 (some .int) 0 := ⟨tb (i := 879) (by decide +kernel), tb (i := 17) (by decide +kernel), by decide +kernel⟩
theorem mi_X12_first : MI yX12_first := ⟨tb (i := 877) (by decide +kernel), tb (i := 878) (by decide +kernel)⟩
theorem mk_X12_isAhead : MK yX12_isAhead cX12_isAhead 4 (some .boolean) 2 := ⟨tb (i := 883) (by decide +kernel), tb (i := 17) (by decide +kernel), by decide +kernel⟩
theorem mi_X12_isAhead : MI yX12_isAhead := ⟨tb (i := 882) (by decide +kernel), pb (i := 15) (by decide +kernel)⟩
theorem mk_X12_anyLeaf : MK yX12_anyLeaf cX12_anyLeaf 3 (some .int) 1 := ⟨tb (i := 888) (by decide +kernel), tb (i := 17) (by decide +kernel), by decide +kernel⟩
theorem mi_X12_anyLeaf : MI yX12_anyLeaf := ⟨tb (i := 886) (by decide +kernel), tb (i := 887) (by decide +kernel)⟩
theorem mk_X12_isLeaf : MK yX12_isLeaf cX12_isLeaf 3 (some .boolean) 1 := ⟨tb (i := 892) (by decide +kernel), tb (i := 17) (by decide +kernel), by decide +kernel⟩
theorem mi_X12_isLeaf : MI yX12_isLeaf := ⟨tb (i := 890) (by decide +kernel), tb (i := 891) (by decide +kernel)⟩
theorem mk_L_cell : MK yL_cell cL_cell 2 (some .int) 2 := ⟨tb (i := 895) (by decide +kernel), tb (i := 0) (by decide +kernel), by decide +kernel⟩
theorem ms_L_cell : MS yL_cell := tb (i := 894) (by decide +kernel)
theorem mk_L_stands : MK yL_stands cL_stands 2 (some .boolean) 2 := ⟨tb (i := 899) (by decide +kernel), tb (i := 0) (by decide +kernel), by decide +kernel⟩
theorem ms_L_stands : MS yL_stands := tb (i := 898) (by decide +kernel)
theorem mk_X12_text : MK yX12_text cX12_text 3 (some (.object "java/lang/String")) 0 := ⟨tb (i := 903) (by decide +kernel), tb (i := 17) (by decide +kernel), by decide +kernel⟩
theorem mi_X12_text : MI yX12_text := ⟨tb (i := 901) (by decide +kernel), tb (i := 902) (by decide +kernel)⟩
theorem mk_J4_init_da8c8 : MK yJ4_init_da8c8 cJ4_init_da8c8 1 none 0 := ⟨tb (i := 908) (by decide +kernel), tb (i := 24) (by decide +kernel), by decide +kernel⟩
theorem mc_J4_init_da8c8 : MC yJ4_init_da8c8 := ⟨tb (i := 907) (by decide +kernel), rfl⟩
theorem mk_J5_init_d00df : MK yJ5_init_d00df cJ5_init_d00df 2 none 1 := ⟨tb (i := 911) (by decide +kernel), tb (i := 23) (by decide +kernel), by decide +kernel⟩
theorem mc_J5_init_d00df : MC yJ5_init_d00df := ⟨tb (i := 910) (by decide +kernel), rfl⟩
theorem mk_J2_newBytesFor_77867 : MK yJ2_newBytesFor_77867 cJ2_newBytesFor_77867 1 (some (.array .byte)) 1 := ⟨tb (i := 917) (by decide +kernel), tb (i := 26) (by decide +kernel), by decide +kernel⟩
theorem ms_J2_newBytesFor_77867 : MS yJ2_newBytesFor_77867 := tb (i := 916) (by decide +kernel)
theorem mk_J2_newBytesLength_0f7a4 : MK yJ2_newBytesLength_0f7a4 cJ2_newBytesLength_0f7a4 1 (some .int) 1 := ⟨tb (i := 920) (by decide +kernel), tb (i := 26) (by decide +kernel), by decide +kernel⟩
theorem ms_J2_newBytesLength_0f7a4 : MS yJ2_newBytesLength_0f7a4 := tb (i := 919) (by decide +kernel)
theorem mk_J4_append_15ec4 : MK yJ4_append_15ec4 cJ4_append_15ec4 2 (some (.object "java/lang/StringBuilder")) 1 := ⟨tb (i := 939) (by decide +kernel), tb (i := 24) (by decide +kernel), by decide +kernel⟩
theorem mi_J4_append_15ec4 : MI yJ4_append_15ec4 := ⟨tb (i := 937) (by decide +kernel), tb (i := 938) (by decide +kernel)⟩
theorem mk_J5_append_cf1ce : MK yJ5_append_cf1ce cJ5_append_cf1ce 3 (some (.object "java/lang/AbstractStringBuilder")) 1 := ⟨tb (i := 942) (by decide +kernel), tb (i := 23) (by decide +kernel), by decide +kernel⟩
theorem mk_J5_appendNull_278bc : MK yJ5_appendNull_278bc cJ5_appendNull_278bc 3 (some (.object "java/lang/AbstractStringBuilder")) 0 := ⟨tb (i := 946) (by decide +kernel), tb (i := 23) (by decide +kernel), by decide +kernel⟩
theorem mk_J5_ensureCapacityInternal_d00df : MK yJ5_ensureCapacityInternal_d00df cJ5_ensureCapacityInternal_d00df 3 none 1 := ⟨tb (i := 950) (by decide +kernel), tb (i := 23) (by decide +kernel), by decide +kernel⟩
theorem mk_J5_newCapacity_0f7a4 : MK yJ5_newCapacity_0f7a4 cJ5_newCapacity_0f7a4 6 (some .int) 1 := ⟨tb (i := 954) (by decide +kernel), tb (i := 23) (by decide +kernel), by decide +kernel⟩
theorem mk_J7_copyOf_9075b : MK yJ7_copyOf_9075b cJ7_copyOf_9075b 3 (some (.array .byte)) 2 := ⟨tb (i := 959) (by decide +kernel), tb (i := 22) (by decide +kernel), by decide +kernel⟩
theorem ms_J7_copyOf_9075b : MS yJ7_copyOf_9075b := tb (i := 958) (by decide +kernel)
theorem mk_J5_isLatin1_aae02 : MK yJ5_isLatin1_aae02 cJ5_isLatin1_aae02 1 (some .boolean) 0 := ⟨tb (i := 971) (by decide +kernel), tb (i := 23) (by decide +kernel), by decide +kernel⟩
theorem mk_J2_putCharsAt_cd4e5 : MK yJ2_putCharsAt_cd4e5 cJ2_putCharsAt_cd4e5 7 (some .int) 6 := ⟨tb (i := 974) (by decide +kernel), tb (i := 26) (by decide +kernel), by decide +kernel⟩
theorem ms_J2_putCharsAt_cd4e5 : MS yJ2_putCharsAt_cd4e5 := tb (i := 973) (by decide +kernel)
theorem mk_J2_checkBoundsBeginEnd_d044e : MK yJ2_checkBoundsBeginEnd_d044e cJ2_checkBoundsBeginEnd_d044e 3 none 3 := ⟨tb (i := 977) (by decide +kernel), tb (i := 26) (by decide +kernel), by decide +kernel⟩
theorem ms_J2_checkBoundsBeginEnd_d044e : MS yJ2_checkBoundsBeginEnd_d044e := tb (i := 976) (by decide +kernel)
theorem mk_J2_length_9d52b : MK yJ2_length_9d52b cJ2_length_9d52b 1 (some .int) 1 := ⟨tb (i := 980) (by decide +kernel), tb (i := 26) (by decide +kernel), by decide +kernel⟩
theorem ms_J2_length_9d52b : MS yJ2_length_9d52b := tb (i := 979) (by decide +kernel)
theorem mk_J0_checkBoundsBeginEnd_23922 : MK yJ0_checkBoundsBeginEnd_23922 cJ0_checkBoundsBeginEnd_23922 3 none 3 := ⟨tb (i := 983) (by decide +kernel), tb (i := 25) (by decide +kernel), by decide +kernel⟩
theorem ms_J0_checkBoundsBeginEnd_23922 : MS yJ0_checkBoundsBeginEnd_23922 := tb (i := 982) (by decide +kernel)
theorem mk_J3_checkFromToIndex_8c36e : MK yJ3_checkFromToIndex_8c36e cJ3_checkFromToIndex_8c36e 4 (some .int) 4 := ⟨tb (i := 988) (by decide +kernel), tb (i := 27) (by decide +kernel), by decide +kernel⟩
theorem ms_J3_checkFromToIndex_8c36e : MS yJ3_checkFromToIndex_8c36e := tb (i := 987) (by decide +kernel)
theorem mk_J2_putChar_b72d1 : MK yJ2_putChar_b72d1 cJ2_putChar_b72d1 3 none 3 := ⟨tb (i := 991) (by decide +kernel), tb (i := 26) (by decide +kernel), by decide +kernel⟩
theorem ms_J2_putChar_b72d1 : MS yJ2_putChar_b72d1 := tb (i := 990) (by decide +kernel)
theorem mk_J0_length_8abf5 : MK yJ0_length_8abf5 cJ0_length_8abf5 1 (some .int) 0 := ⟨tb (i := 1001) (by decide +kernel), tb (i := 25) (by decide +kernel), by decide +kernel⟩
theorem mi_J0_length_8abf5 : MI yJ0_length_8abf5 := ⟨tb (i := 999) (by decide +kernel), tb (i := 1000) (by decide +kernel)⟩
theorem mk_J0_coder_7d493 : MK yJ0_coder_7d493 cJ0_coder_7d493 1 (some .byte) 0 := ⟨tb (i := 1005) (by decide +kernel), tb (i := 25) (by decide +kernel), by decide +kernel⟩
theorem mi_J0_coder_7d493 : MI yJ0_coder_7d493 := ⟨tb (i := 1003) (by decide +kernel), tb (i := 1004) (by decide +kernel)⟩
theorem mk_J5_putStringAt_47b60 : MK yJ5_putStringAt_47b60 cJ5_putStringAt_47b60 3 none 2 := ⟨tb (i := 1010) (by decide +kernel), tb (i := 23) (by decide +kernel), by decide +kernel⟩
theorem mk_J5_inflateIfNeededFor_a7421 : MK yJ5_inflateIfNeededFor_a7421 cJ5_inflateIfNeededFor_a7421 2 none 1 := ⟨tb (i := 1014) (by decide +kernel), tb (i := 23) (by decide +kernel), by decide +kernel⟩
theorem mk_J5_inflate_da8c8 : MK yJ5_inflate_da8c8 cJ5_inflate_da8c8 2 none 0 := ⟨tb (i := 1019) (by decide +kernel), tb (i := 23) (by decide +kernel), by decide +kernel⟩
theorem mk_J1_inflate_0e8fd : MK yJ1_inflate_0e8fd cJ1_inflate_0e8fd 5 none 5 := ⟨tb (i := 1022) (by decide +kernel), tb (i := 28) (by decide +kernel), by decide +kernel⟩
theorem ms_J1_inflate_0e8fd : MS yJ1_inflate_0e8fd := tb (i := 1021) (by decide +kernel)
theorem mk_J2_inflate_0e8fd : MK yJ2_inflate_0e8fd cJ2_inflate_0e8fd 6 none 5 := ⟨tb (i := 1025) (by decide +kernel), tb (i := 26) (by decide +kernel), by decide +kernel⟩
theorem ms_J2_inflate_0e8fd : MS yJ2_inflate_0e8fd := tb (i := 1024) (by decide +kernel)
theorem mk_J2_checkBoundsOffCount_d044e : MK yJ2_checkBoundsOffCount_d044e cJ2_checkBoundsOffCount_d044e 3 none 3 := ⟨tb (i := 1028) (by decide +kernel), tb (i := 26) (by decide +kernel), by decide +kernel⟩
theorem ms_J2_checkBoundsOffCount_d044e : MS yJ2_checkBoundsOffCount_d044e := tb (i := 1027) (by decide +kernel)
theorem mk_J0_checkBoundsOffCount_cabcc : MK yJ0_checkBoundsOffCount_cabcc cJ0_checkBoundsOffCount_cabcc 3 (some .int) 3 := ⟨tb (i := 1031) (by decide +kernel), tb (i := 25) (by decide +kernel), by decide +kernel⟩
theorem ms_J0_checkBoundsOffCount_cabcc : MS yJ0_checkBoundsOffCount_cabcc := tb (i := 1030) (by decide +kernel)
theorem mk_J3_checkFromIndexSize_8c36e : MK yJ3_checkFromIndexSize_8c36e cJ3_checkFromIndexSize_8c36e 4 (some .int) 4 := ⟨tb (i := 1034) (by decide +kernel), tb (i := 27) (by decide +kernel), by decide +kernel⟩
theorem ms_J3_checkFromIndexSize_8c36e : MS yJ3_checkFromIndexSize_8c36e := tb (i := 1033) (by decide +kernel)
theorem mk_J0_getBytes_840e7 : MK yJ0_getBytes_840e7 cJ0_getBytes_840e7 4 none 3 := ⟨tb (i := 1038) (by decide +kernel), tb (i := 25) (by decide +kernel), by decide +kernel⟩
theorem mi_J0_getBytes_840e7 : MI yJ0_getBytes_840e7 := ⟨tb (i := 1036) (by decide +kernel), tb (i := 1037) (by decide +kernel)⟩
theorem mk_J4_append_cf468 : MK yJ4_append_cf468 cJ4_append_cf468 2 (some (.object "java/lang/StringBuilder")) 1 := ⟨tb (i := 1044) (by decide +kernel), tb (i := 24) (by decide +kernel), by decide +kernel⟩
theorem mi_J4_append_cf468 : MI yJ4_append_cf468 := ⟨tb (i := 1042) (by decide +kernel), tb (i := 1043) (by decide +kernel)⟩
theorem mk_J5_append_3fe6f : MK yJ5_append_3fe6f cJ5_append_3fe6f 2 (some (.object "java/lang/AbstractStringBuilder")) 1 := ⟨tb (i := 1047) (by decide +kernel), tb (i := 23) (by decide +kernel), by decide +kernel⟩
theorem mk_J1_canEncode_fc78d : MK yJ1_canEncode_fc78d cJ1_canEncode_fc78d 1 (some .boolean) 1 := ⟨tb (i := 1050) (by decide +kernel), tb (i := 28) (by decide +kernel), by decide +kernel⟩
theorem ms_J1_canEncode_fc78d : MS yJ1_canEncode_fc78d := tb (i := 1049) (by decide +kernel)
theorem mk_J2_putCharSB_b72d1 : MK yJ2_putCharSB_b72d1 cJ2_putCharSB_b72d1 3 none 3 := ⟨tb (i := 1053) (by decide +kernel), tb (i := 26) (by decide +kernel), by decide +kernel⟩
theorem ms_J2_putCharSB_b72d1 : MS yJ2_putCharSB_b72d1 := tb (i := 1052) (by decide +kernel)
theorem mk_J2_checkIndex_2214a : MK yJ2_checkIndex_2214a cJ2_checkIndex_2214a 2 none 2 := ⟨tb (i := 1056) (by decide +kernel), tb (i := 26) (by decide +kernel), by decide +kernel⟩
theorem ms_J2_checkIndex_2214a : MS yJ2_checkIndex_2214a := tb (i := 1055) (by decide +kernel)
theorem mk_J0_checkIndex_df160 : MK yJ0_checkIndex_df160 cJ0_checkIndex_df160 2 none 2 := ⟨tb (i := 1059) (by decide +kernel), tb (i := 25) (by decide +kernel), by decide +kernel⟩
theorem ms_J0_checkIndex_df160 : MS yJ0_checkIndex_df160 := tb (i := 1058) (by decide +kernel)
theorem mk_J4_append_bf812 : MK yJ4_append_bf812 cJ4_append_bf812 2 (some (.object "java/lang/StringBuilder")) 1 := ⟨tb (i := 1066) (by decide +kernel), tb (i := 24) (by decide +kernel), by decide +kernel⟩
theorem mi_J4_append_bf812 : MI yJ4_append_bf812 := ⟨tb (i := 1064) (by decide +kernel), tb (i := 1065) (by decide +kernel)⟩
theorem mk_J5_append_c97b9 : MK yJ5_append_c97b9 cJ5_append_c97b9 4 (some (.object "java/lang/AbstractStringBuilder")) 1 := ⟨tb (i := 1069) (by decide +kernel), tb (i := 23) (by decide +kernel), by decide +kernel⟩
theorem mk_J6_stringSize_0f7a4 : MK yJ6_stringSize_0f7a4 cJ6_stringSize_0f7a4 4 (some .int) 1 := ⟨tb (i := 1072) (by decide +kernel), tb (i := 29) (by decide +kernel), by decide +kernel⟩
theorem ms_J6_stringSize_0f7a4 : MS yJ6_stringSize_0f7a4 := tb (i := 1071) (by decide +kernel)
theorem mk_J6_getChars_ba4f3 : MK yJ6_getChars_ba4f3 cJ6_getChars_ba4f3 7 (some .int) 3 := ⟨tb (i := 1075) (by decide +kernel), tb (i := 29) (by decide +kernel), by decide +kernel⟩
theorem ms_J6_getChars_ba4f3 : MS yJ6_getChars_ba4f3 := tb (i := 1074) (by decide +kernel)
theorem mk_J2_getChars_46870 : MK yJ2_getChars_46870 cJ2_getChars_46870 5 (some .int) 4 := ⟨tb (i := 1082) (by decide +kernel), tb (i := 26) (by decide +kernel), by decide +kernel⟩
theorem ms_J2_getChars_46870 : MS yJ2_getChars_46870 := tb (i := 1081) (by decide +kernel)
theorem mk_J2_getChars_ba4f3 : MK yJ2_getChars_ba4f3 cJ2_getChars_ba4f3 7 (some .int) 3 := ⟨tb (i := 1085) (by decide +kernel), tb (i := 26) (by decide +kernel), by decide +kernel⟩
theorem ms_J2_getChars_ba4f3 : MS yJ2_getChars_ba4f3 := tb (i := 1084) (by decide +kernel)
theorem mk_J4_toString_0e30d : MK yJ4_toString_0e30d cJ4_toString_0e30d 1 (some (.object "java/lang/String")) 0 := ⟨tb (i := 1102) (by decide +kernel), tb (i := 24) (by decide +kernel), by decide +kernel⟩
theorem mi_J4_toString_0e30d : MI yJ4_toString_0e30d := ⟨tb (i := 1100) (by decide +kernel), tb (i := 1101) (by decide +kernel)⟩
theorem mk_J0_init_81219 : MK yJ0_init_81219 cJ0_init_81219 2 none 1 := ⟨tb (i := 1107) (by decide +kernel), tb (i := 25) (by decide +kernel), by decide +kernel⟩
theorem mc_J0_init_81219 : MC yJ0_init_81219 := ⟨tb (i := 1106) (by decide +kernel), rfl⟩
theorem mk_J0_init_db425 : MK yJ0_init_db425 cJ0_init_db425 5 none 2 := ⟨tb (i := 1110) (by decide +kernel), tb (i := 25) (by decide +kernel), by decide +kernel⟩
theorem mc_J0_init_db425 : MC yJ0_init_db425 := ⟨tb (i := 1109) (by decide +kernel), rfl⟩
theorem mk_J5_getValue_6d5f1 : MK yJ5_getValue_6d5f1 cJ5_getValue_6d5f1 1 (some (.array .byte)) 0 := ⟨tb (i := 1116) (by decide +kernel), tb (i := 23) (by decide +kernel), by decide +kernel⟩
theorem mk_J4_length_8abf5 : MK yJ4_length_8abf5 cJ4_length_8abf5 1 (some .int) 0 := ⟨tb (i := 1122) (by decide +kernel), tb (i := 24) (by decide +kernel), by decide +kernel⟩
theorem mk_J5_length_8abf5 : MK yJ5_length_8abf5 cJ5_length_8abf5 1 (some .int) 0 := ⟨tb (i := 1124) (by decide +kernel), tb (i := 23) (by decide +kernel), by decide +kernel⟩
theorem mk_J7_copyOfRange_39247 : MK yJ7_copyOfRange_39247 cJ7_copyOfRange_39247 3 (some (.array .byte)) 3 := ⟨tb (i := 1128) (by decide +kernel), tb (i := 22) (by decide +kernel), by decide +kernel⟩
theorem ms_J7_copyOfRange_39247 : MS yJ7_copyOfRange_39247 := tb (i := 1127) (by decide +kernel)
theorem mk_J7_copyOfRangeByte_39247 : MK yJ7_copyOfRangeByte_39247 cJ7_copyOfRangeByte_39247 5 (some (.array .byte)) 3 := ⟨tb (i := 1131) (by decide +kernel), tb (i := 22) (by decide +kernel), by decide +kernel⟩
theorem ms_J7_copyOfRangeByte_39247 : MS yJ7_copyOfRangeByte_39247 := tb (i := 1130) (by decide +kernel)
theorem mk_J7_checkLength_df160 : MK yJ7_checkLength_df160 cJ7_checkLength_df160 2 none 2 := ⟨tb (i := 1134) (by decide +kernel), tb (i := 22) (by decide +kernel), by decide +kernel⟩
theorem ms_J7_checkLength_df160 : MS yJ7_checkLength_df160 := tb (i := 1133) (by decide +kernel)
theorem mk_J2_compress_39247 : MK yJ2_compress_39247 cJ2_compress_39247 6 (some (.array .byte)) 3 := ⟨tb (i := 1137) (by decide +kernel), tb (i := 26) (by decide +kernel), by decide +kernel⟩
theorem ms_J2_compress_39247 : MS yJ2_compress_39247 := tb (i := 1136) (by decide +kernel)
theorem mk_J2_compress_5af95 : MK yJ2_compress_5af95 cJ2_compress_5af95 7 (some .int) 5 := ⟨tb (i := 1140) (by decide +kernel), tb (i := 26) (by decide +kernel), by decide +kernel⟩
theorem ms_J2_compress_5af95 : MS yJ2_compress_5af95 := tb (i := 1139) (by decide +kernel)
theorem mk_J2_getChar_3b067 : MK yJ2_getChar_3b067 cJ2_getChar_3b067 2 (some .char) 2 := ⟨tb (i := 1143) (by decide +kernel), tb (i := 26) (by decide +kernel), by decide +kernel⟩
theorem ms_J2_getChar_3b067 : MS yJ2_getChar_3b067 := tb (i := 1142) (by decide +kernel)
theorem mk_J2_coderFromArrayLen_85cad : MK yJ2_coderFromArrayLen_85cad cJ2_coderFromArrayLen_85cad 2 (some .byte) 2 := ⟨tb (i := 1147) (by decide +kernel), tb (i := 26) (by decide +kernel), by decide +kernel⟩
theorem ms_J2_coderFromArrayLen_85cad : MS yJ2_coderFromArrayLen_85cad := tb (i := 1146) (by decide +kernel)
theorem mk_L_fill : MK yL_fill cL_fill 5 (some .boolean) 2 := ⟨tb (i := 1161) (by decide +kernel), tb (i := 0) (by decide +kernel), by decide +kernel⟩
theorem ms_L_fill : MS yL_fill := tb (i := 1160) (by decide +kernel)
theorem mk_J0_charAt_5068e : MK yJ0_charAt_5068e cJ0_charAt_5068e 2 (some .char) 1 := ⟨tb (i := 1166) (by decide +kernel), tb (i := 25) (by decide +kernel), by decide +kernel⟩
theorem mi_J0_charAt_5068e : MI yJ0_charAt_5068e := ⟨tb (i := 1164) (by decide +kernel), tb (i := 1165) (by decide +kernel)⟩
theorem mk_J0_isLatin1_aae02 : MK yJ0_isLatin1_aae02 cJ0_isLatin1_aae02 1 (some .boolean) 0 := ⟨tb (i := 1170) (by decide +kernel), tb (i := 25) (by decide +kernel), by decide +kernel⟩
theorem mi_J0_isLatin1_aae02 : MI yJ0_isLatin1_aae02 := ⟨tb (i := 1168) (by decide +kernel), tb (i := 1169) (by decide +kernel)⟩
theorem mk_J1_charAt_3b067 : MK yJ1_charAt_3b067 cJ1_charAt_3b067 2 (some .char) 2 := ⟨tb (i := 1173) (by decide +kernel), tb (i := 28) (by decide +kernel), by decide +kernel⟩
theorem ms_J1_charAt_3b067 : MS yJ1_charAt_3b067 := tb (i := 1172) (by decide +kernel)
theorem mk_J2_charAt_3b067 : MK yJ2_charAt_3b067 cJ2_charAt_3b067 2 (some .char) 2 := ⟨tb (i := 1177) (by decide +kernel), tb (i := 26) (by decide +kernel), by decide +kernel⟩
theorem ms_J2_charAt_3b067 : MS yJ2_charAt_3b067 := tb (i := 1176) (by decide +kernel)
theorem mk_X11_feed : MK yX11_feed cX11_feed 6 (some .int) 5 := ⟨tb (i := 1181) (by decide +kernel), tb (i := 1) (by decide +kernel), by decide +kernel⟩
theorem mi_X11_feed : MI yX11_feed := ⟨tb (i := 1179) (by decide +kernel), tb (i := 1180) (by decide +kernel)⟩
theorem mk_X9_append : MK yX9_append cX9_append 3 none 1 := ⟨tb (i := 1185) (by decide +kernel), tb (i := 2) (by decide +kernel), by decide +kernel⟩
theorem mi_X9_append : MI yX9_append := ⟨tb (i := 1183) (by decide +kernel), tb (i := 1184) (by decide +kernel)⟩
theorem mk_X11_truncate : MK yX11_truncate cX11_truncate 2 (some .int) 1 := ⟨tb (i := 1189) (by decide +kernel), tb (i := 1) (by decide +kernel), by decide +kernel⟩
theorem mi_X11_truncate : MI yX11_truncate := ⟨tb (i := 1187) (by decide +kernel), tb (i := 1188) (by decide +kernel)⟩
theorem mk_X11_load : MK yX11_load cX11_load 2 (some .int) 0 := ⟨tb (i := 1193) (by decide +kernel), tb (i := 1) (by decide +kernel), by decide +kernel⟩
theorem mi_X11_load : MI yX11_load := ⟨tb (i := 1191) (by decide +kernel), tb (i := 1192) (by decide +kernel)⟩
theorem mk_X5_read : MK yX5_read cX5_read 3 none 1 := ⟨tb (i := 1197) (by decide +kernel), tb (i := 3) (by decide +kernel), by decide +kernel⟩
theorem mi_X5_read : MI yX5_read := ⟨tb (i := 1195) (by decide +kernel), tb (i := 1196) (by decide +kernel)⟩
theorem mk_X5_begin : MK yX5_begin cX5_begin 1 none 0 := ⟨tb (i := 1201) (by decide +kernel), tb (i := 3) (by decide +kernel), by decide +kernel⟩
theorem mi_X5_begin : MI yX5_begin := ⟨tb (i := 1200) (by decide +kernel), pb (i := 16) (by decide +kernel)⟩
theorem mk_X7_clear : MK yX7_clear cX7_clear 1 none 0 := ⟨tb (i := 1205) (by decide +kernel), tb (i := 4) (by decide +kernel), by decide +kernel⟩
theorem mi_X7_clear : MI yX7_clear := ⟨tb (i := 1203) (by decide +kernel), tb (i := 1204) (by decide +kernel)⟩
theorem mk_X6_begin : MK yX6_begin cX6_begin 1 none 0 := ⟨tb (i := 1209) (by decide +kernel), tb (i := 6) (by decide +kernel), by decide +kernel⟩
theorem mi_X6_begin : MI yX6_begin := ⟨tb (i := 1207) (by decide +kernel), tb (i := 1208) (by decide +kernel)⟩
theorem mk_X6_scan : MK yX6_scan cX6_scan 3 none 1 := ⟨tb (i := 1213) (by decide +kernel), tb (i := 6) (by decide +kernel), by decide +kernel⟩
theorem mi_X6_scan : MI yX6_scan := ⟨tb (i := 1211) (by decide +kernel), tb (i := 1212) (by decide +kernel)⟩
theorem mk_X6_skipSpaces : MK yX6_skipSpaces cX6_skipSpaces 2 none 1 := ⟨tb (i := 1217) (by decide +kernel), tb (i := 6) (by decide +kernel), by decide +kernel⟩
theorem mi_X6_skipSpaces : MI yX6_skipSpaces := ⟨tb (i := 1216) (by decide +kernel), pb (i := 17) (by decide +kernel)⟩
theorem mk_X9_byteAt : MK yX9_byteAt cX9_byteAt 2 (some .int) 1 := ⟨tb (i := 1221) (by decide +kernel), tb (i := 2) (by decide +kernel), by decide +kernel⟩
theorem mi_X9_byteAt : MI yX9_byteAt := ⟨tb (i := 1219) (by decide +kernel), tb (i := 1220) (by decide +kernel)⟩
theorem mk_X6_isLetter : MK yX6_isLetter cX6_isLetter 1 (some .boolean) 1 := ⟨tb (i := 1224) (by decide +kernel), tb (i := 6) (by decide +kernel), by decide +kernel⟩
theorem ms_X6_isLetter : MS yX6_isLetter := tb (i := 1223) (by decide +kernel)
theorem mk_X6_scanWord : MK yX6_scanWord cX6_scanWord 2 none 1 := ⟨tb (i := 1228) (by decide +kernel), tb (i := 6) (by decide +kernel), by decide +kernel⟩
theorem mi_X6_scanWord : MI yX6_scanWord := ⟨tb (i := 1227) (by decide +kernel), pb (i := 18) (by decide +kernel)⟩
theorem mk_X11_withLetter : MK yX11_withLetter cX11_withLetter 4 (some .long) 3 := ⟨tb (i := 1231) (by decide +kernel), tb (i := 1) (by decide +kernel), by decide +kernel⟩
theorem ms_X11_withLetter : MS yX11_withLetter := tb (i := 1230) (by decide +kernel)
theorem mk_X11_keywordOf : MK yX11_keywordOf cX11_keywordOf 7 (some .int) 1 := ⟨tb (i := 1234) (by decide +kernel), tb (i := 1) (by decide +kernel), by decide +kernel⟩
theorem ms_X11_keywordOf : MS yX11_keywordOf := tb (i := 1233) (by decide +kernel)
theorem mk_X11_keywordText : MK yX11_keywordText cX11_keywordText 1 (some (.object "java/lang/String")) 1 := ⟨tb (i := 1237) (by decide +kernel), tb (i := 1) (by decide +kernel), by decide +kernel⟩
theorem ms_X11_keywordText : MS yX11_keywordText := tb (i := 1236) (by decide +kernel)
theorem mk_X6_isDigit : MK yX6_isDigit cX6_isDigit 1 (some .boolean) 1 := ⟨tb (i := 1256) (by decide +kernel), tb (i := 6) (by decide +kernel), by decide +kernel⟩
theorem ms_X6_isDigit : MS yX6_isDigit := tb (i := 1255) (by decide +kernel)
theorem mk_X6_scanNumber : MK yX6_scanNumber cX6_scanNumber 2 none 1 := ⟨tb (i := 1260) (by decide +kernel), tb (i := 6) (by decide +kernel), by decide +kernel⟩
theorem mi_X6_scanNumber : MI yX6_scanNumber := ⟨tb (i := 1259) (by decide +kernel), pb (i := 19) (by decide +kernel)⟩
theorem mk_X5_take : MK yX5_take cX5_take 1 (some .int) 0 := ⟨tb (i := 1264) (by decide +kernel), tb (i := 3) (by decide +kernel), by decide +kernel⟩
theorem mi_X5_take : MI yX5_take := ⟨tb (i := 1263) (by decide +kernel), pb (i := 20) (by decide +kernel)⟩
theorem mk_X5_takeStatement : MK yX5_takeStatement cX5_takeStatement 1 (some .int) 0 := ⟨tb (i := 1268) (by decide +kernel), tb (i := 3) (by decide +kernel), by decide +kernel⟩
theorem mi_X5_takeStatement : MI yX5_takeStatement := ⟨tb (i := 1267) (by decide +kernel), pb (i := 21) (by decide +kernel)⟩
theorem mk_X5_takeNodeName : MK yX5_takeNodeName cX5_takeNodeName 1 (some .int) 0 := ⟨tb (i := 1272) (by decide +kernel), tb (i := 3) (by decide +kernel), by decide +kernel⟩
theorem mi_X5_takeNodeName : MI yX5_takeNodeName := ⟨tb (i := 1271) (by decide +kernel), pb (i := 22) (by decide +kernel)⟩
