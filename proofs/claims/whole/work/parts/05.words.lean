theorem tb {i : Nat} {w : Cond} (h : (tables_1[i]?).filter goodWord = some w) : w ∈ gwt := by
  obtain ⟨h1, h2⟩ := Option.filter_eq_some_iff.mp h
  exact List.mem_filter.mpr ⟨List.mem_append_right _ (List.mem_of_getElem? h1), h2⟩
theorem tbs {ws : List Cond} (is : List Nat) (h : ws = is.filterMap (fun i => (tables_1[i]?).filter goodWord)) : ∀ w ∈ ws, w ∈ gwt := by
  intro w hw
  rw [h] at hw
  obtain ⟨i, -, hi⟩ := List.mem_filterMap.mp hw
  exact tb hi
theorem nb {i : Nat} {w : Cond} (h : (tables_1[i]?).filter isNest = some w) : w ∈ nst := by
  obtain ⟨h1, h2⟩ := Option.filter_eq_some_iff.mp h
  exact List.mem_filter.mpr ⟨List.mem_of_getElem? h1, h2⟩
theorem pb {i : Nat} {w : Cond} (h : ((k2_sels lw_privs)[i]?).filter goodWord = some w) : w ∈ gwt := by
  obtain ⟨h1, h2⟩ := Option.filter_eq_some_iff.mp h
  exact List.mem_filter.mpr ⟨List.mem_append_left _ (List.mem_of_getElem? h1), h2⟩

set_option maxRecDepth 100000 in
theorem cf_0 : CF 0 RX0 TX0 3 := ⟨rfl, rfl, tbs [289, 291, 293] (by decide +kernel), nmX0, fun k hk => tyX0_ok k hk, by decide +kernel⟩
set_option maxRecDepth 100000 in
theorem cf_1 : CF 1 RX1 TX1 5 := ⟨rfl, rfl, tbs [80, 82, 84, 86, 88] (by decide +kernel), nmX1, fun k hk => tyX1_ok k hk, by decide +kernel⟩
set_option maxRecDepth 100000 in
theorem cf_2 : CF 2 RX2 TX2 5 := ⟨rfl, rfl, tbs [343, 345, 347, 349, 351] (by decide +kernel), nmX2, fun k hk => tyX2_ok k hk, by decide +kernel⟩
set_option maxRecDepth 100000 in
theorem cf_3 : CF 3 RX3 TX3 5 := ⟨rfl, rfl, tbs [371, 373, 375, 377, 379] (by decide +kernel), nmX3, fun k hk => tyX3_ok k hk, by decide +kernel⟩
set_option maxRecDepth 100000 in
theorem cf_4 : CF 4 RX4 TX4 5 := ⟨rfl, rfl, tbs [314, 316, 318, 320, 322] (by decide +kernel), nmX4, fun k hk => tyX4_ok k hk, by decide +kernel⟩
set_option maxRecDepth 100000 in
theorem cf_5 : CF 5 RX5 TX5 11 := ⟨rfl, rfl, tbs [222, 224, 226, 228, 230, 232, 234, 236, 238, 240, 242] (by decide +kernel), nmX5, fun k hk => tyX5_ok k hk, by decide +kernel⟩
set_option maxRecDepth 100000 in
theorem cf_6 : CF 6 RX6 TX6 6 := ⟨rfl, rfl, tbs [195, 197, 199, 201, 203, 205] (by decide +kernel), nmX6, fun k hk => tyX6_ok k hk, by decide +kernel⟩
set_option maxRecDepth 100000 in
theorem cf_7 : CF 7 RX7 TX7 15 := ⟨rfl, rfl, tbs [147, 149, 151, 153, 155, 157, 159, 161, 163, 165, 167, 169, 171, 173, 175] (by decide +kernel), nmX7, fun k hk => tyX7_ok k hk, by decide +kernel⟩
set_option maxRecDepth 100000 in
theorem cf_8 : CF 8 RX8 TX8 9 := ⟨rfl, rfl, tbs [400, 402, 404, 406, 408, 410, 412, 414, 416] (by decide +kernel), nmX8, fun k hk => tyX8_ok k hk, by decide +kernel⟩
set_option maxRecDepth 100000 in
theorem cf_9 : CF 9 RX9 TX9 2 := ⟨rfl, rfl, tbs [39, 41] (by decide +kernel), nmX9, fun k hk => tyX9_ok k hk, by decide +kernel⟩
set_option maxRecDepth 100000 in
theorem cf_10 : CF 10 RX10 TX10 4 := ⟨rfl, rfl, tbs [257, 259, 261, 263] (by decide +kernel), nmX10, fun k hk => tyX10_ok k hk, by decide +kernel⟩
set_option maxRecDepth 100000 in
theorem cf_11 : CF 11 RX11 TX11 8 := ⟨rfl, rfl, tbs [427, 429, 431, 433, 435, 437, 439, 441] (by decide +kernel), nmX11, fun k hk => tyX11_ok k hk, by decide +kernel⟩
set_option maxRecDepth 100000 in
theorem cf_12 : CF 12 RX12 TX12 42 := ⟨rfl, rfl, tbs [1270, 1272, 1274, 1276, 1278, 1280, 1282, 1284, 1286, 1288, 1290, 1292, 1294, 1296, 1298, 1300, 1302, 1304, 1306, 1308, 1310, 1312, 1314, 1316, 1318, 1320, 1322, 1324, 1326, 1328, 1330, 1332, 1334, 1336, 1338, 1340, 1342, 1344, 1346, 1348, 1350, 1352] (by decide +kernel), nmX12, fun k hk => tyX12_ok k hk, by decide +kernel⟩
theorem fl_X9_9 : FLk RX9 9 9 0 (.array .byte) true := ⟨by decide, rfl, _, _, _, cf_9, by decide, tb (i := 35) (by decide +kernel), rfl⟩
theorem fl_X11_53 : FLk RX11 53 9 1 .int false := ⟨by decide, rfl, _, _, _, cf_9, by decide, tb (i := 36) (by decide +kernel), rfl⟩
theorem fl_X9_15 : FLk RX9 15 9 1 .int false := ⟨by decide, rfl, _, _, _, cf_9, by decide, tb (i := 37) (by decide +kernel), rfl⟩
theorem fl_X6_31 : FLk RX6 31 9 1 .int false := ⟨by decide, rfl, _, _, _, cf_9, by decide, tb (i := 38) (by decide +kernel), rfl⟩
theorem fl_X1_24 : FLk RX1 24 1 0 .int false := ⟨by decide, rfl, _, _, _, cf_1, by decide, tb (i := 63) (by decide +kernel), rfl⟩
theorem fl_X7_64 : FLk RX7 64 1 0 .int false := ⟨by decide, rfl, _, _, _, cf_1, by decide, tb (i := 64) (by decide +kernel), rfl⟩
theorem fl_X10_54 : FLk RX10 54 1 0 .int false := ⟨by decide, rfl, _, _, _, cf_1, by decide, tb (i := 65) (by decide +kernel), rfl⟩
theorem fl_X5_112 : FLk RX5 112 1 0 .int false := ⟨by decide, rfl, _, _, _, cf_1, by decide, tb (i := 66) (by decide +kernel), rfl⟩
theorem fl_X8_169 : FLk RX8 169 1 0 .int false := ⟨by decide, rfl, _, _, _, cf_1, by decide, tb (i := 67) (by decide +kernel), rfl⟩
theorem fl_X1_9 : FLk RX1 9 1 1 (.array .int) true := ⟨by decide, rfl, _, _, _, cf_1, by decide, tb (i := 68) (by decide +kernel), rfl⟩
theorem fl_X10_59 : FLk RX10 59 1 1 (.array .int) true := ⟨by decide, rfl, _, _, _, cf_1, by decide, tb (i := 69) (by decide +kernel), rfl⟩
theorem fl_X8_172 : FLk RX8 172 1 1 (.array .int) true := ⟨by decide, rfl, _, _, _, cf_1, by decide, tb (i := 70) (by decide +kernel), rfl⟩
theorem fl_X1_15 : FLk RX1 15 1 2 (.array .int) true := ⟨by decide, rfl, _, _, _, cf_1, by decide, tb (i := 71) (by decide +kernel), rfl⟩
theorem fl_X10_98 : FLk RX10 98 1 2 (.array .int) true := ⟨by decide, rfl, _, _, _, cf_1, by decide, tb (i := 72) (by decide +kernel), rfl⟩
theorem fl_X8_174 : FLk RX8 174 1 2 (.array .int) true := ⟨by decide, rfl, _, _, _, cf_1, by decide, tb (i := 73) (by decide +kernel), rfl⟩
theorem fl_X1_18 : FLk RX1 18 1 3 (.array .int) true := ⟨by decide, rfl, _, _, _, cf_1, by decide, tb (i := 74) (by decide +kernel), rfl⟩
theorem fl_X10_101 : FLk RX10 101 1 3 (.array .int) true := ⟨by decide, rfl, _, _, _, cf_1, by decide, tb (i := 75) (by decide +kernel), rfl⟩
theorem fl_X8_177 : FLk RX8 177 1 3 (.array .int) true := ⟨by decide, rfl, _, _, _, cf_1, by decide, tb (i := 76) (by decide +kernel), rfl⟩
theorem fl_X1_21 : FLk RX1 21 1 4 (.array .int) true := ⟨by decide, rfl, _, _, _, cf_1, by decide, tb (i := 77) (by decide +kernel), rfl⟩
theorem fl_X10_104 : FLk RX10 104 1 4 (.array .int) true := ⟨by decide, rfl, _, _, _, cf_1, by decide, tb (i := 78) (by decide +kernel), rfl⟩
theorem fl_X8_184 : FLk RX8 184 1 4 (.array .int) true := ⟨by decide, rfl, _, _, _, cf_1, by decide, tb (i := 79) (by decide +kernel), rfl⟩
theorem fl_X7_61 : FLk RX7 61 7 0 .int false := ⟨by decide, rfl, _, _, _, cf_7, by decide, tb (i := 94) (by decide +kernel), rfl⟩
theorem fl_X10_25 : FLk RX10 25 7 0 .int false := ⟨by decide, rfl, _, _, _, cf_7, by decide, tb (i := 95) (by decide +kernel), rfl⟩
theorem fl_X11_79 : FLk RX11 79 7 0 .int false := ⟨by decide, rfl, _, _, _, cf_7, by decide, tb (i := 96) (by decide +kernel), rfl⟩
theorem fl_X8_85 : FLk RX8 85 7 0 .int false := ⟨by decide, rfl, _, _, _, cf_7, by decide, tb (i := 97) (by decide +kernel), rfl⟩
theorem fl_X5_102 : FLk RX5 102 7 0 .int false := ⟨by decide, rfl, _, _, _, cf_7, by decide, tb (i := 98) (by decide +kernel), rfl⟩
theorem fl_X7_9 : FLk RX7 9 7 1 (.array .long) true := ⟨by decide, rfl, _, _, _, cf_7, by decide, tb (i := 99) (by decide +kernel), rfl⟩
theorem fl_X10_71 : FLk RX10 71 7 1 (.array .long) true := ⟨by decide, rfl, _, _, _, cf_7, by decide, tb (i := 100) (by decide +kernel), rfl⟩
theorem fl_X11_89 : FLk RX11 89 7 1 (.array .long) true := ⟨by decide, rfl, _, _, _, cf_7, by decide, tb (i := 101) (by decide +kernel), rfl⟩
theorem fl_X7_15 : FLk RX7 15 7 2 (.array .int) true := ⟨by decide, rfl, _, _, _, cf_7, by decide, tb (i := 102) (by decide +kernel), rfl⟩
theorem fl_X10_79 : FLk RX10 79 7 2 (.array .int) true := ⟨by decide, rfl, _, _, _, cf_7, by decide, tb (i := 103) (by decide +kernel), rfl⟩
theorem fl_X8_88 : FLk RX8 88 7 2 (.array .int) true := ⟨by decide, rfl, _, _, _, cf_7, by decide, tb (i := 104) (by decide +kernel), rfl⟩
theorem fl_X0_50 : FLk RX0 50 7 2 (.array .int) true := ⟨by decide, rfl, _, _, _, cf_7, by decide, tb (i := 105) (by decide +kernel), rfl⟩
theorem fl_X11_97 : FLk RX11 97 7 2 (.array .int) true := ⟨by decide, rfl, _, _, _, cf_7, by decide, tb (i := 106) (by decide +kernel), rfl⟩
theorem fl_X7_19 : FLk RX7 19 7 3 (.array .int) true := ⟨by decide, rfl, _, _, _, cf_7, by decide, tb (i := 107) (by decide +kernel), rfl⟩
theorem fl_X11_108 : FLk RX11 108 7 3 (.array .int) true := ⟨by decide, rfl, _, _, _, cf_7, by decide, tb (i := 108) (by decide +kernel), rfl⟩
theorem fl_X7_22 : FLk RX7 22 7 4 (.array .int) true := ⟨by decide, rfl, _, _, _, cf_7, by decide, tb (i := 109) (by decide +kernel), rfl⟩
theorem fl_X7_25 : FLk RX7 25 7 5 (.array .int) true := ⟨by decide, rfl, _, _, _, cf_7, by decide, tb (i := 110) (by decide +kernel), rfl⟩
theorem fl_X8_53 : FLk RX8 53 7 5 (.array .int) true := ⟨by decide, rfl, _, _, _, cf_7, by decide, tb (i := 111) (by decide +kernel), rfl⟩
theorem fl_X5_160 : FLk RX5 160 7 5 (.array .int) true := ⟨by decide, rfl, _, _, _, cf_7, by decide, tb (i := 112) (by decide +kernel), rfl⟩
theorem fl_X7_28 : FLk RX7 28 7 6 (.array .int) true := ⟨by decide, rfl, _, _, _, cf_7, by decide, tb (i := 113) (by decide +kernel), rfl⟩
theorem fl_X8_60 : FLk RX8 60 7 6 (.array .int) true := ⟨by decide, rfl, _, _, _, cf_7, by decide, tb (i := 114) (by decide +kernel), rfl⟩
theorem fl_X5_156 : FLk RX5 156 7 6 (.array .int) true := ⟨by decide, rfl, _, _, _, cf_7, by decide, tb (i := 115) (by decide +kernel), rfl⟩
theorem fl_X7_31 : FLk RX7 31 7 7 (.array .int) true := ⟨by decide, rfl, _, _, _, cf_7, by decide, tb (i := 116) (by decide +kernel), rfl⟩
theorem fl_X0_21 : FLk RX0 21 7 7 (.array .int) true := ⟨by decide, rfl, _, _, _, cf_7, by decide, tb (i := 117) (by decide +kernel), rfl⟩
theorem fl_X8_123 : FLk RX8 123 7 7 (.array .int) true := ⟨by decide, rfl, _, _, _, cf_7, by decide, tb (i := 118) (by decide +kernel), rfl⟩
theorem fl_X11_117 : FLk RX11 117 7 7 (.array .int) true := ⟨by decide, rfl, _, _, _, cf_7, by decide, tb (i := 119) (by decide +kernel), rfl⟩
theorem fl_X7_34 : FLk RX7 34 7 8 (.array .int) true := ⟨by decide, rfl, _, _, _, cf_7, by decide, tb (i := 120) (by decide +kernel), rfl⟩
theorem fl_X0_40 : FLk RX0 40 7 8 (.array .int) true := ⟨by decide, rfl, _, _, _, cf_7, by decide, tb (i := 121) (by decide +kernel), rfl⟩
theorem fl_X8_142 : FLk RX8 142 7 8 (.array .int) true := ⟨by decide, rfl, _, _, _, cf_7, by decide, tb (i := 122) (by decide +kernel), rfl⟩
theorem fl_X11_120 : FLk RX11 120 7 8 (.array .int) true := ⟨by decide, rfl, _, _, _, cf_7, by decide, tb (i := 123) (by decide +kernel), rfl⟩
theorem fl_X7_37 : FLk RX7 37 7 9 (.array .int) true := ⟨by decide, rfl, _, _, _, cf_7, by decide, tb (i := 124) (by decide +kernel), rfl⟩
theorem fl_X8_61 : FLk RX8 61 7 9 (.array .int) true := ⟨by decide, rfl, _, _, _, cf_7, by decide, tb (i := 125) (by decide +kernel), rfl⟩
theorem fl_X7_40 : FLk RX7 40 7 10 (.array .int) true := ⟨by decide, rfl, _, _, _, cf_7, by decide, tb (i := 126) (by decide +kernel), rfl⟩
theorem fl_X11_126 : FLk RX11 126 7 10 (.array .int) true := ⟨by decide, rfl, _, _, _, cf_7, by decide, tb (i := 127) (by decide +kernel), rfl⟩
theorem fl_X8_231 : FLk RX8 231 7 10 (.array .int) true := ⟨by decide, rfl, _, _, _, cf_7, by decide, tb (i := 128) (by decide +kernel), rfl⟩
theorem fl_X7_43 : FLk RX7 43 7 11 (.array .boolean) true := ⟨by decide, rfl, _, _, _, cf_7, by decide, tb (i := 129) (by decide +kernel), rfl⟩
theorem fl_X10_94 : FLk RX10 94 7 11 (.array .boolean) true := ⟨by decide, rfl, _, _, _, cf_7, by decide, tb (i := 130) (by decide +kernel), rfl⟩
theorem fl_X0_53 : FLk RX0 53 7 11 (.array .boolean) true := ⟨by decide, rfl, _, _, _, cf_7, by decide, tb (i := 131) (by decide +kernel), rfl⟩
theorem fl_X8_145 : FLk RX8 145 7 11 (.array .boolean) true := ⟨by decide, rfl, _, _, _, cf_7, by decide, tb (i := 132) (by decide +kernel), rfl⟩
theorem fl_X5_152 : FLk RX5 152 7 11 (.array .boolean) true := ⟨by decide, rfl, _, _, _, cf_7, by decide, tb (i := 133) (by decide +kernel), rfl⟩
theorem fl_X11_129 : FLk RX11 129 7 11 (.array .boolean) true := ⟨by decide, rfl, _, _, _, cf_7, by decide, tb (i := 134) (by decide +kernel), rfl⟩
theorem fl_X7_50 : FLk RX7 50 7 12 (.object "RateLimiter$Changes") true := ⟨by decide, rfl, _, _, _, cf_7, by decide, tb (i := 135) (by decide +kernel), rfl⟩
theorem fl_X10_50 : FLk RX10 50 7 12 (.object "RateLimiter$Changes") true := ⟨by decide, rfl, _, _, _, cf_7, by decide, tb (i := 136) (by decide +kernel), rfl⟩
theorem fl_X5_108 : FLk RX5 108 7 12 (.object "RateLimiter$Changes") true := ⟨by decide, rfl, _, _, _, cf_7, by decide, tb (i := 137) (by decide +kernel), rfl⟩
theorem fl_X8_165 : FLk RX8 165 7 12 (.object "RateLimiter$Changes") true := ⟨by decide, rfl, _, _, _, cf_7, by decide, tb (i := 138) (by decide +kernel), rfl⟩
theorem fl_X7_54 : FLk RX7 54 7 13 .int false := ⟨by decide, rfl, _, _, _, cf_7, by decide, tb (i := 139) (by decide +kernel), rfl⟩
theorem fl_X10_38 : FLk RX10 38 7 13 .int false := ⟨by decide, rfl, _, _, _, cf_7, by decide, tb (i := 140) (by decide +kernel), rfl⟩
theorem fl_X8_204 : FLk RX8 204 7 13 .int false := ⟨by decide, rfl, _, _, _, cf_7, by decide, tb (i := 141) (by decide +kernel), rfl⟩
theorem fl_X5_178 : FLk RX5 178 7 13 .int false := ⟨by decide, rfl, _, _, _, cf_7, by decide, tb (i := 142) (by decide +kernel), rfl⟩
theorem fl_X7_58 : FLk RX7 58 7 14 .int false := ⟨by decide, rfl, _, _, _, cf_7, by decide, tb (i := 143) (by decide +kernel), rfl⟩
theorem fl_X10_47 : FLk RX10 47 7 14 .int false := ⟨by decide, rfl, _, _, _, cf_7, by decide, tb (i := 144) (by decide +kernel), rfl⟩
theorem fl_X5_105 : FLk RX5 105 7 14 .int false := ⟨by decide, rfl, _, _, _, cf_7, by decide, tb (i := 145) (by decide +kernel), rfl⟩
theorem fl_X8_187 : FLk RX8 187 7 14 .int false := ⟨by decide, rfl, _, _, _, cf_7, by decide, tb (i := 146) (by decide +kernel), rfl⟩
theorem fl_X6_9 : FLk RX6 9 6 0 .int false := ⟨by decide, rfl, _, _, _, cf_6, by decide, tb (i := 184) (by decide +kernel), rfl⟩
theorem fl_X5_36 : FLk RX5 36 6 1 .int false := ⟨by decide, rfl, _, _, _, cf_6, by decide, tb (i := 185) (by decide +kernel), rfl⟩
theorem fl_X6_34 : FLk RX6 34 6 1 .int false := ⟨by decide, rfl, _, _, _, cf_6, by decide, tb (i := 186) (by decide +kernel), rfl⟩
theorem fl_X5_49 : FLk RX5 49 6 2 .int false := ⟨by decide, rfl, _, _, _, cf_6, by decide, tb (i := 187) (by decide +kernel), rfl⟩
theorem fl_X6_19 : FLk RX6 19 6 2 .int false := ⟨by decide, rfl, _, _, _, cf_6, by decide, tb (i := 188) (by decide +kernel), rfl⟩
theorem fl_X6_50 : FLk RX6 50 6 3 .long false := ⟨by decide, rfl, _, _, _, cf_6, by decide, tb (i := 189) (by decide +kernel), rfl⟩
theorem fl_X5_121 : FLk RX5 121 6 3 .long false := ⟨by decide, rfl, _, _, _, cf_6, by decide, tb (i := 190) (by decide +kernel), rfl⟩
theorem fl_X6_22 : FLk RX6 22 6 4 .int false := ⟨by decide, rfl, _, _, _, cf_6, by decide, tb (i := 191) (by decide +kernel), rfl⟩
theorem fl_X5_99 : FLk RX5 99 6 4 .int false := ⟨by decide, rfl, _, _, _, cf_6, by decide, tb (i := 192) (by decide +kernel), rfl⟩
theorem fl_X6_62 : FLk RX6 62 6 5 .int false := ⟨by decide, rfl, _, _, _, cf_6, by decide, tb (i := 193) (by decide +kernel), rfl⟩
theorem fl_X5_171 : FLk RX5 171 6 5 .int false := ⟨by decide, rfl, _, _, _, cf_6, by decide, tb (i := 194) (by decide +kernel), rfl⟩
theorem fl_X5_46 : FLk RX5 46 5 0 .int false := ⟨by decide, rfl, _, _, _, cf_5, by decide, tb (i := 208) (by decide +kernel), rfl⟩
theorem fl_X11_65 : FLk RX11 65 5 0 .int false := ⟨by decide, rfl, _, _, _, cf_5, by decide, tb (i := 209) (by decide +kernel), rfl⟩
theorem fl_X5_9 : FLk RX5 9 5 1 .int false := ⟨by decide, rfl, _, _, _, cf_5, by decide, tb (i := 210) (by decide +kernel), rfl⟩
theorem fl_X11_82 : FLk RX11 82 5 1 .int false := ⟨by decide, rfl, _, _, _, cf_5, by decide, tb (i := 211) (by decide +kernel), rfl⟩
theorem fl_X5_18 : FLk RX5 18 5 2 (.object "RateLimiter$Setup") false := ⟨by decide, rfl, _, _, _, cf_5, by decide, tb (i := 212) (by decide +kernel), rfl⟩
theorem fl_X11_68 : FLk RX11 68 5 2 (.object "RateLimiter$Setup") false := ⟨by decide, rfl, _, _, _, cf_5, by decide, tb (i := 213) (by decide +kernel), rfl⟩
theorem fl_X5_25 : FLk RX5 25 5 3 (.object "RateLimiter$Scanner") true := ⟨by decide, rfl, _, _, _, cf_5, by decide, tb (i := 214) (by decide +kernel), rfl⟩
theorem fl_X5_39 : FLk RX5 39 5 4 .int false := ⟨by decide, rfl, _, _, _, cf_5, by decide, tb (i := 215) (by decide +kernel), rfl⟩
theorem fl_X5_56 : FLk RX5 56 5 5 .boolean false := ⟨by decide, rfl, _, _, _, cf_5, by decide, tb (i := 216) (by decide +kernel), rfl⟩
theorem fl_X5_129 : FLk RX5 129 5 6 .long false := ⟨by decide, rfl, _, _, _, cf_5, by decide, tb (i := 217) (by decide +kernel), rfl⟩
theorem fl_X5_139 : FLk RX5 139 5 7 .int false := ⟨by decide, rfl, _, _, _, cf_5, by decide, tb (i := 218) (by decide +kernel), rfl⟩
theorem fl_X5_145 : FLk RX5 145 5 8 .int false := ⟨by decide, rfl, _, _, _, cf_5, by decide, tb (i := 219) (by decide +kernel), rfl⟩
theorem fl_X5_184 : FLk RX5 184 5 9 .int false := ⟨by decide, rfl, _, _, _, cf_5, by decide, tb (i := 220) (by decide +kernel), rfl⟩
theorem fl_X5_187 : FLk RX5 187 5 10 .int false := ⟨by decide, rfl, _, _, _, cf_5, by decide, tb (i := 221) (by decide +kernel), rfl⟩
theorem fl_X10_18 : FLk RX10 18 10 0 .int false := ⟨by decide, rfl, _, _, _, cf_10, by decide, tb (i := 251) (by decide +kernel), rfl⟩
theorem fl_X11_297 : FLk RX11 297 10 0 .int false := ⟨by decide, rfl, _, _, _, cf_10, by decide, tb (i := 252) (by decide +kernel), rfl⟩
theorem fl_X10_15 : FLk RX10 15 10 1 .int false := ⟨by decide, rfl, _, _, _, cf_10, by decide, tb (i := 253) (by decide +kernel), rfl⟩
theorem fl_X11_298 : FLk RX11 298 10 1 .int false := ⟨by decide, rfl, _, _, _, cf_10, by decide, tb (i := 254) (by decide +kernel), rfl⟩
theorem fl_X10_9 : FLk RX10 9 10 2 .int false := ⟨by decide, rfl, _, _, _, cf_10, by decide, tb (i := 255) (by decide +kernel), rfl⟩
theorem fl_X10_21 : FLk RX10 21 10 3 .boolean false := ⟨by decide, rfl, _, _, _, cf_10, by decide, tb (i := 256) (by decide +kernel), rfl⟩
theorem fl_X0_9 : FLk RX0 9 0 0 (.array .int) true := ⟨by decide, rfl, _, _, _, cf_0, by decide, tb (i := 280) (by decide +kernel), rfl⟩
theorem fl_X8_136 : FLk RX8 136 0 0 (.array .int) true := ⟨by decide, rfl, _, _, _, cf_0, by decide, tb (i := 281) (by decide +kernel), rfl⟩
theorem fl_X11_147 : FLk RX11 147 0 0 (.array .int) true := ⟨by decide, rfl, _, _, _, cf_0, by decide, tb (i := 282) (by decide +kernel), rfl⟩
theorem fl_X0_15 : FLk RX0 15 0 1 (.array .int) true := ⟨by decide, rfl, _, _, _, cf_0, by decide, tb (i := 283) (by decide +kernel), rfl⟩
theorem fl_X8_139 : FLk RX8 139 0 1 (.array .int) true := ⟨by decide, rfl, _, _, _, cf_0, by decide, tb (i := 284) (by decide +kernel), rfl⟩
theorem fl_X11_152 : FLk RX11 152 0 1 (.array .int) true := ⟨by decide, rfl, _, _, _, cf_0, by decide, tb (i := 285) (by decide +kernel), rfl⟩
theorem fl_X0_18 : FLk RX0 18 0 2 (.array .int) true := ⟨by decide, rfl, _, _, _, cf_0, by decide, tb (i := 286) (by decide +kernel), rfl⟩
theorem fl_X8_126 : FLk RX8 126 0 2 (.array .int) true := ⟨by decide, rfl, _, _, _, cf_0, by decide, tb (i := 287) (by decide +kernel), rfl⟩
theorem fl_X11_155 : FLk RX11 155 0 2 (.array .int) true := ⟨by decide, rfl, _, _, _, cf_0, by decide, tb (i := 288) (by decide +kernel), rfl⟩
theorem fl_X4_9 : FLk RX4 9 4 0 (.array .int) true := ⟨by decide, rfl, _, _, _, cf_4, by decide, tb (i := 302) (by decide +kernel), rfl⟩
theorem fl_X8_198 : FLk RX8 198 4 0 (.array .int) true := ⟨by decide, rfl, _, _, _, cf_4, by decide, tb (i := 303) (by decide +kernel), rfl⟩
theorem fl_X11_193 : FLk RX11 193 4 0 (.array .int) true := ⟨by decide, rfl, _, _, _, cf_4, by decide, tb (i := 304) (by decide +kernel), rfl⟩
theorem fl_X4_15 : FLk RX4 15 4 1 (.array .int) true := ⟨by decide, rfl, _, _, _, cf_4, by decide, tb (i := 305) (by decide +kernel), rfl⟩
theorem fl_X11_208 : FLk RX11 208 4 1 (.array .int) true := ⟨by decide, rfl, _, _, _, cf_4, by decide, tb (i := 306) (by decide +kernel), rfl⟩
theorem fl_X4_18 : FLk RX4 18 4 2 (.array .int) true := ⟨by decide, rfl, _, _, _, cf_4, by decide, tb (i := 307) (by decide +kernel), rfl⟩
theorem fl_X8_210 : FLk RX8 210 4 2 (.array .int) true := ⟨by decide, rfl, _, _, _, cf_4, by decide, tb (i := 308) (by decide +kernel), rfl⟩
theorem fl_X11_211 : FLk RX11 211 4 2 (.array .int) true := ⟨by decide, rfl, _, _, _, cf_4, by decide, tb (i := 309) (by decide +kernel), rfl⟩
theorem fl_X4_21 : FLk RX4 21 4 3 (.array .int) true := ⟨by decide, rfl, _, _, _, cf_4, by decide, tb (i := 310) (by decide +kernel), rfl⟩
theorem fl_X8_201 : FLk RX8 201 4 3 (.array .int) true := ⟨by decide, rfl, _, _, _, cf_4, by decide, tb (i := 311) (by decide +kernel), rfl⟩
theorem fl_X11_214 : FLk RX11 214 4 3 (.array .int) true := ⟨by decide, rfl, _, _, _, cf_4, by decide, tb (i := 312) (by decide +kernel), rfl⟩
theorem fl_X4_28 : FLk RX4 28 4 4 .int false := ⟨by decide, rfl, _, _, _, cf_4, by decide, tb (i := 313) (by decide +kernel), rfl⟩
theorem fl_X2_9 : FLk RX2 9 2 0 (.array .int) true := ⟨by decide, rfl, _, _, _, cf_2, by decide, tb (i := 331) (by decide +kernel), rfl⟩
theorem fl_X8_237 : FLk RX8 237 2 0 (.array .int) true := ⟨by decide, rfl, _, _, _, cf_2, by decide, tb (i := 332) (by decide +kernel), rfl⟩
theorem fl_X11_243 : FLk RX11 243 2 0 (.array .int) true := ⟨by decide, rfl, _, _, _, cf_2, by decide, tb (i := 333) (by decide +kernel), rfl⟩
theorem fl_X2_15 : FLk RX2 15 2 1 (.array .int) true := ⟨by decide, rfl, _, _, _, cf_2, by decide, tb (i := 334) (by decide +kernel), rfl⟩
theorem fl_X11_230 : FLk RX11 230 2 1 (.array .int) true := ⟨by decide, rfl, _, _, _, cf_2, by decide, tb (i := 335) (by decide +kernel), rfl⟩
theorem fl_X2_18 : FLk RX2 18 2 2 (.array .int) true := ⟨by decide, rfl, _, _, _, cf_2, by decide, tb (i := 336) (by decide +kernel), rfl⟩
theorem fl_X11_246 : FLk RX11 246 2 2 (.array .int) true := ⟨by decide, rfl, _, _, _, cf_2, by decide, tb (i := 337) (by decide +kernel), rfl⟩
theorem fl_X2_21 : FLk RX2 21 2 3 (.array .int) true := ⟨by decide, rfl, _, _, _, cf_2, by decide, tb (i := 338) (by decide +kernel), rfl⟩
theorem fl_X11_249 : FLk RX11 249 2 3 (.array .int) true := ⟨by decide, rfl, _, _, _, cf_2, by decide, tb (i := 339) (by decide +kernel), rfl⟩
theorem fl_X2_24 : FLk RX2 24 2 4 (.array .int) true := ⟨by decide, rfl, _, _, _, cf_2, by decide, tb (i := 340) (by decide +kernel), rfl⟩
theorem fl_X8_116 : FLk RX8 116 2 4 (.array .int) true := ⟨by decide, rfl, _, _, _, cf_2, by decide, tb (i := 341) (by decide +kernel), rfl⟩
theorem fl_X11_252 : FLk RX11 252 2 4 (.array .int) true := ⟨by decide, rfl, _, _, _, cf_2, by decide, tb (i := 342) (by decide +kernel), rfl⟩
theorem fl_X3_24 : FLk RX3 24 3 0 .int false := ⟨by decide, rfl, _, _, _, cf_3, by decide, tb (i := 360) (by decide +kernel), rfl⟩
theorem fl_X8_69 : FLk RX8 69 3 0 .int false := ⟨by decide, rfl, _, _, _, cf_3, by decide, tb (i := 361) (by decide +kernel), rfl⟩
theorem fl_X11_275 : FLk RX11 275 3 0 .int false := ⟨by decide, rfl, _, _, _, cf_3, by decide, tb (i := 362) (by decide +kernel), rfl⟩
theorem fl_X3_9 : FLk RX3 9 3 1 (.array .int) true := ⟨by decide, rfl, _, _, _, cf_3, by decide, tb (i := 363) (by decide +kernel), rfl⟩
theorem fl_X11_281 : FLk RX11 281 3 1 (.array .int) true := ⟨by decide, rfl, _, _, _, cf_3, by decide, tb (i := 364) (by decide +kernel), rfl⟩
theorem fl_X3_15 : FLk RX3 15 3 2 (.array .int) true := ⟨by decide, rfl, _, _, _, cf_3, by decide, tb (i := 365) (by decide +kernel), rfl⟩
theorem fl_X11_284 : FLk RX11 284 3 2 (.array .int) true := ⟨by decide, rfl, _, _, _, cf_3, by decide, tb (i := 366) (by decide +kernel), rfl⟩
theorem fl_X3_18 : FLk RX3 18 3 3 (.array .int) true := ⟨by decide, rfl, _, _, _, cf_3, by decide, tb (i := 367) (by decide +kernel), rfl⟩
theorem fl_X11_285 : FLk RX11 285 3 3 (.array .int) true := ⟨by decide, rfl, _, _, _, cf_3, by decide, tb (i := 368) (by decide +kernel), rfl⟩
theorem fl_X3_21 : FLk RX3 21 3 4 (.array .int) true := ⟨by decide, rfl, _, _, _, cf_3, by decide, tb (i := 369) (by decide +kernel), rfl⟩
theorem fl_X11_288 : FLk RX11 288 3 4 (.array .int) true := ⟨by decide, rfl, _, _, _, cf_3, by decide, tb (i := 370) (by decide +kernel), rfl⟩
theorem fl_X11_75 : FLk RX11 75 8 0 .boolean false := ⟨by decide, rfl, _, _, _, cf_8, by decide, tb (i := 382) (by decide +kernel), rfl⟩
theorem fl_X8_49 : FLk RX8 49 8 1 .int false := ⟨by decide, rfl, _, _, _, cf_8, by decide, tb (i := 383) (by decide +kernel), rfl⟩
theorem fl_X10_63 : FLk RX10 63 8 1 .int false := ⟨by decide, rfl, _, _, _, cf_8, by decide, tb (i := 384) (by decide +kernel), rfl⟩
theorem fl_X11_140 : FLk RX11 140 8 1 .int false := ⟨by decide, rfl, _, _, _, cf_8, by decide, tb (i := 385) (by decide +kernel), rfl⟩
theorem fl_X8_9 : FLk RX8 9 8 2 (.array .int) true := ⟨by decide, rfl, _, _, _, cf_8, by decide, tb (i := 386) (by decide +kernel), rfl⟩
theorem fl_X11_111 : FLk RX11 111 8 2 (.array .int) true := ⟨by decide, rfl, _, _, _, cf_8, by decide, tb (i := 387) (by decide +kernel), rfl⟩
theorem fl_X8_15 : FLk RX8 15 8 3 (.array .int) true := ⟨by decide, rfl, _, _, _, cf_8, by decide, tb (i := 388) (by decide +kernel), rfl⟩
theorem fl_X11_114 : FLk RX11 114 8 3 (.array .int) true := ⟨by decide, rfl, _, _, _, cf_8, by decide, tb (i := 389) (by decide +kernel), rfl⟩
theorem fl_X8_18 : FLk RX8 18 8 4 (.array .int) true := ⟨by decide, rfl, _, _, _, cf_8, by decide, tb (i := 390) (by decide +kernel), rfl⟩
theorem fl_X11_123 : FLk RX11 123 8 4 (.array .int) true := ⟨by decide, rfl, _, _, _, cf_8, by decide, tb (i := 391) (by decide +kernel), rfl⟩
theorem fl_X8_24 : FLk RX8 24 8 5 (.object "RateLimiter$Accounts") true := ⟨by decide, rfl, _, _, _, cf_8, by decide, tb (i := 392) (by decide +kernel), rfl⟩
theorem fl_X11_143 : FLk RX11 143 8 5 (.object "RateLimiter$Accounts") true := ⟨by decide, rfl, _, _, _, cf_8, by decide, tb (i := 393) (by decide +kernel), rfl⟩
theorem fl_X8_31 : FLk RX8 31 8 6 (.object "RateLimiter$Queues") true := ⟨by decide, rfl, _, _, _, cf_8, by decide, tb (i := 394) (by decide +kernel), rfl⟩
theorem fl_X11_189 : FLk RX11 189 8 6 (.object "RateLimiter$Queues") true := ⟨by decide, rfl, _, _, _, cf_8, by decide, tb (i := 395) (by decide +kernel), rfl⟩
theorem fl_X8_38 : FLk RX8 38 8 7 (.object "RateLimiter$Counts") true := ⟨by decide, rfl, _, _, _, cf_8, by decide, tb (i := 396) (by decide +kernel), rfl⟩
theorem fl_X11_226 : FLk RX11 226 8 7 (.object "RateLimiter$Counts") true := ⟨by decide, rfl, _, _, _, cf_8, by decide, tb (i := 397) (by decide +kernel), rfl⟩
theorem fl_X8_45 : FLk RX8 45 8 8 (.object "RateLimiter$Log") true := ⟨by decide, rfl, _, _, _, cf_8, by decide, tb (i := 398) (by decide +kernel), rfl⟩
theorem fl_X11_266 : FLk RX11 266 8 8 (.object "RateLimiter$Log") true := ⟨by decide, rfl, _, _, _, cf_8, by decide, tb (i := 399) (by decide +kernel), rfl⟩
theorem fl_X11_10 : FLk RX11 10 11 0 (.object "RateLimiter$Text") true := ⟨by decide, rfl, _, _, _, cf_11, by decide, tb (i := 419) (by decide +kernel), rfl⟩
theorem fl_X11_19 : FLk RX11 19 11 1 (.object "RateLimiter$Reader") true := ⟨by decide, rfl, _, _, _, cf_11, by decide, tb (i := 420) (by decide +kernel), rfl⟩
theorem fl_X11_26 : FLk RX11 26 11 2 (.object "RateLimiter$Writer") true := ⟨by decide, rfl, _, _, _, cf_11, by decide, tb (i := 421) (by decide +kernel), rfl⟩
theorem fl_X11_33 : FLk RX11 33 11 3 (.object "RateLimiter$Setup") false := ⟨by decide, rfl, _, _, _, cf_11, by decide, tb (i := 422) (by decide +kernel), rfl⟩
theorem fl_X11_40 : FLk RX11 40 11 4 (.object "RateLimiter$State") true := ⟨by decide, rfl, _, _, _, cf_11, by decide, tb (i := 423) (by decide +kernel), rfl⟩
theorem fl_X11_44 : FLk RX11 44 11 5 (.object "RateLimiter$State") true := ⟨by decide, rfl, _, _, _, cf_11, by decide, tb (i := 424) (by decide +kernel), rfl⟩
theorem fl_X11_47 : FLk RX11 47 11 6 (.object "RateLimiter$State") true := ⟨by decide, rfl, _, _, _, cf_11, by decide, tb (i := 425) (by decide +kernel), rfl⟩
theorem fl_X11_50 : FLk RX11 50 11 7 (.object "RateLimiter$State") true := ⟨by decide, rfl, _, _, _, cf_11, by decide, tb (i := 426) (by decide +kernel), rfl⟩
theorem fl_X12_88 : FLk RX12 88 12 0 .int false := ⟨by decide, rfl, _, _, _, cf_12, by decide, tb (i := 1228) (by decide +kernel), rfl⟩
theorem fl_X12_7 : FLk RX12 7 12 1 (.array .int) true := ⟨by decide, rfl, _, _, _, cf_12, by decide, tb (i := 1229) (by decide +kernel), rfl⟩
theorem fl_X12_13 : FLk RX12 13 12 2 (.array .boolean) true := ⟨by decide, rfl, _, _, _, cf_12, by decide, tb (i := 1230) (by decide +kernel), rfl⟩
theorem fl_X12_91 : FLk RX12 91 12 3 .int false := ⟨by decide, rfl, _, _, _, cf_12, by decide, tb (i := 1231) (by decide +kernel), rfl⟩
theorem fl_X12_17 : FLk RX12 17 12 4 .int false := ⟨by decide, rfl, _, _, _, cf_12, by decide, tb (i := 1232) (by decide +kernel), rfl⟩
theorem fl_X12_21 : FLk RX12 21 12 5 .int false := ⟨by decide, rfl, _, _, _, cf_12, by decide, tb (i := 1233) (by decide +kernel), rfl⟩
theorem fl_X12_24 : FLk RX12 24 12 6 (.array .long) true := ⟨by decide, rfl, _, _, _, cf_12, by decide, tb (i := 1234) (by decide +kernel), rfl⟩
theorem fl_X12_28 : FLk RX12 28 12 7 (.array .long) true := ⟨by decide, rfl, _, _, _, cf_12, by decide, tb (i := 1235) (by decide +kernel), rfl⟩
theorem fl_X12_31 : FLk RX12 31 12 8 (.array .int) true := ⟨by decide, rfl, _, _, _, cf_12, by decide, tb (i := 1236) (by decide +kernel), rfl⟩
theorem fl_X12_34 : FLk RX12 34 12 9 (.array .int) true := ⟨by decide, rfl, _, _, _, cf_12, by decide, tb (i := 1237) (by decide +kernel), rfl⟩
theorem fl_X12_37 : FLk RX12 37 12 10 (.array .int) true := ⟨by decide, rfl, _, _, _, cf_12, by decide, tb (i := 1238) (by decide +kernel), rfl⟩
theorem fl_X12_40 : FLk RX12 40 12 11 (.array .int) true := ⟨by decide, rfl, _, _, _, cf_12, by decide, tb (i := 1239) (by decide +kernel), rfl⟩
theorem fl_X12_43 : FLk RX12 43 12 12 (.array .boolean) true := ⟨by decide, rfl, _, _, _, cf_12, by decide, tb (i := 1240) (by decide +kernel), rfl⟩
theorem fl_X12_46 : FLk RX12 46 12 13 (.array .int) true := ⟨by decide, rfl, _, _, _, cf_12, by decide, tb (i := 1241) (by decide +kernel), rfl⟩
theorem fl_X12_102 : FLk RX12 102 12 14 .int false := ⟨by decide, rfl, _, _, _, cf_12, by decide, tb (i := 1242) (by decide +kernel), rfl⟩
theorem fl_X12_119 : FLk RX12 119 12 15 .int false := ⟨by decide, rfl, _, _, _, cf_12, by decide, tb (i := 1243) (by decide +kernel), rfl⟩
theorem fl_X12_122 : FLk RX12 122 12 16 .int false := ⟨by decide, rfl, _, _, _, cf_12, by decide, tb (i := 1244) (by decide +kernel), rfl⟩
theorem fl_X12_116 : FLk RX12 116 12 17 .int false := ⟨by decide, rfl, _, _, _, cf_12, by decide, tb (i := 1245) (by decide +kernel), rfl⟩
theorem fl_X12_129 : FLk RX12 129 12 18 .int false := ⟨by decide, rfl, _, _, _, cf_12, by decide, tb (i := 1246) (by decide +kernel), rfl⟩
theorem fl_X12_109 : FLk RX12 109 12 19 .int false := ⟨by decide, rfl, _, _, _, cf_12, by decide, tb (i := 1247) (by decide +kernel), rfl⟩
theorem fl_X12_49 : FLk RX12 49 12 20 .int false := ⟨by decide, rfl, _, _, _, cf_12, by decide, tb (i := 1248) (by decide +kernel), rfl⟩
theorem fl_X12_132 : FLk RX12 132 12 21 .long false := ⟨by decide, rfl, _, _, _, cf_12, by decide, tb (i := 1249) (by decide +kernel), rfl⟩
theorem fl_X12_182 : FLk RX12 182 12 22 .int false := ⟨by decide, rfl, _, _, _, cf_12, by decide, tb (i := 1250) (by decide +kernel), rfl⟩
theorem fl_X12_221 : FLk RX12 221 12 23 .int false := ⟨by decide, rfl, _, _, _, cf_12, by decide, tb (i := 1251) (by decide +kernel), rfl⟩
theorem fl_X12_227 : FLk RX12 227 12 24 .int false := ⟨by decide, rfl, _, _, _, cf_12, by decide, tb (i := 1252) (by decide +kernel), rfl⟩
theorem fl_X12_217 : FLk RX12 217 12 25 .boolean false := ⟨by decide, rfl, _, _, _, cf_12, by decide, tb (i := 1253) (by decide +kernel), rfl⟩
theorem fl_X12_224 : FLk RX12 224 12 26 .boolean false := ⟨by decide, rfl, _, _, _, cf_12, by decide, tb (i := 1254) (by decide +kernel), rfl⟩
theorem fl_X12_52 : FLk RX12 52 12 27 (.array .int) true := ⟨by decide, rfl, _, _, _, cf_12, by decide, tb (i := 1255) (by decide +kernel), rfl⟩
theorem fl_X12_55 : FLk RX12 55 12 28 (.array .int) true := ⟨by decide, rfl, _, _, _, cf_12, by decide, tb (i := 1256) (by decide +kernel), rfl⟩
theorem fl_X12_58 : FLk RX12 58 12 29 (.array .boolean) true := ⟨by decide, rfl, _, _, _, cf_12, by decide, tb (i := 1257) (by decide +kernel), rfl⟩
theorem fl_X12_61 : FLk RX12 61 12 30 (.array .int) true := ⟨by decide, rfl, _, _, _, cf_12, by decide, tb (i := 1258) (by decide +kernel), rfl⟩
theorem fl_X12_64 : FLk RX12 64 12 31 (.array .int) true := ⟨by decide, rfl, _, _, _, cf_12, by decide, tb (i := 1259) (by decide +kernel), rfl⟩
theorem fl_X12_67 : FLk RX12 67 12 32 (.array .int) true := ⟨by decide, rfl, _, _, _, cf_12, by decide, tb (i := 1260) (by decide +kernel), rfl⟩
theorem fl_X12_70 : FLk RX12 70 12 33 (.array .int) true := ⟨by decide, rfl, _, _, _, cf_12, by decide, tb (i := 1261) (by decide +kernel), rfl⟩
theorem fl_X12_73 : FLk RX12 73 12 34 (.array .int) true := ⟨by decide, rfl, _, _, _, cf_12, by decide, tb (i := 1262) (by decide +kernel), rfl⟩
theorem fl_X12_76 : FLk RX12 76 12 35 (.array .int) true := ⟨by decide, rfl, _, _, _, cf_12, by decide, tb (i := 1263) (by decide +kernel), rfl⟩
theorem fl_X12_79 : FLk RX12 79 12 36 (.array .int) true := ⟨by decide, rfl, _, _, _, cf_12, by decide, tb (i := 1264) (by decide +kernel), rfl⟩
theorem fl_X12_82 : FLk RX12 82 12 37 (.array .int) true := ⟨by decide, rfl, _, _, _, cf_12, by decide, tb (i := 1265) (by decide +kernel), rfl⟩
theorem fl_X12_208 : FLk RX12 208 12 38 .int false := ⟨by decide, rfl, _, _, _, cf_12, by decide, tb (i := 1266) (by decide +kernel), rfl⟩
theorem fl_X12_205 : FLk RX12 205 12 39 .int false := ⟨by decide, rfl, _, _, _, cf_12, by decide, tb (i := 1267) (by decide +kernel), rfl⟩
theorem fl_X12_85 : FLk RX12 85 12 40 (.array .int) true := ⟨by decide, rfl, _, _, _, cf_12, by decide, tb (i := 1268) (by decide +kernel), rfl⟩
theorem fl_X12_322 : FLk RX12 322 12 41 .int false := ⟨by decide, rfl, _, _, _, cf_12, by decide, tb (i := 1269) (by decide +kernel), rfl⟩
theorem mk_X11_init : MK yX11_init cX11_init 1 none 0 := ⟨tb (i := 25) (by decide +kernel), tb (i := 1) (by decide +kernel), by decide +kernel⟩
theorem mc_X11_init : MC yX11_init := ⟨tb (i := 24) (by decide +kernel), rfl⟩
theorem mk_X9_init : MK yX9_init cX9_init 1 none 0 := ⟨tb (i := 33) (by decide +kernel), tb (i := 2) (by decide +kernel), by decide +kernel⟩
theorem mc_X9_init : MC yX9_init := ⟨tb (i := 32) (by decide +kernel), rfl⟩
theorem mk_X5_init : MK yX5_init cX5_init 1 none 0 := ⟨tb (i := 49) (by decide +kernel), tb (i := 3) (by decide +kernel), by decide +kernel⟩
theorem mc_X5_init : MC yX5_init := ⟨tb (i := 48) (by decide +kernel), rfl⟩
theorem mk_X7_init : MK yX7_init cX7_init 1 none 0 := ⟨tb (i := 55) (by decide +kernel), tb (i := 4) (by decide +kernel), by decide +kernel⟩
theorem mc_X7_init : MC yX7_init := ⟨tb (i := 54) (by decide +kernel), rfl⟩
theorem mk_X1_init : MK yX1_init cX1_init 1 none 0 := ⟨tb (i := 61) (by decide +kernel), tb (i := 5) (by decide +kernel), by decide +kernel⟩
theorem mc_X1_init : MC yX1_init := ⟨tb (i := 60) (by decide +kernel), rfl⟩
theorem mk_X6_init : MK yX6_init cX6_init 1 none 0 := ⟨tb (i := 182) (by decide +kernel), tb (i := 6) (by decide +kernel), by decide +kernel⟩
theorem mc_X6_init : MC yX6_init := ⟨tb (i := 181) (by decide +kernel), rfl⟩
theorem mk_X10_init : MK yX10_init cX10_init 1 none 0 := ⟨tb (i := 249) (by decide +kernel), tb (i := 7) (by decide +kernel), by decide +kernel⟩
theorem mc_X10_init : MC yX10_init := ⟨tb (i := 248) (by decide +kernel), rfl⟩
theorem mk_X8_init : MK yX8_init cX8_init 1 none 0 := ⟨tb (i := 272) (by decide +kernel), tb (i := 8) (by decide +kernel), by decide +kernel⟩
theorem mc_X8_init : MC yX8_init := ⟨tb (i := 271) (by decide +kernel), rfl⟩
theorem mk_X0_init : MK yX0_init cX0_init 1 none 0 := ⟨tb (i := 278) (by decide +kernel), tb (i := 9) (by decide +kernel), by decide +kernel⟩
theorem mc_X0_init : MC yX0_init := ⟨tb (i := 277) (by decide +kernel), rfl⟩
theorem mk_X4_init : MK yX4_init cX4_init 1 none 0 := ⟨tb (i := 300) (by decide +kernel), tb (i := 10) (by decide +kernel), by decide +kernel⟩
theorem mc_X4_init : MC yX4_init := ⟨tb (i := 299) (by decide +kernel), rfl⟩
theorem mk_X2_init : MK yX2_init cX2_init 1 none 0 := ⟨tb (i := 329) (by decide +kernel), tb (i := 11) (by decide +kernel), by decide +kernel⟩
theorem mc_X2_init : MC yX2_init := ⟨tb (i := 328) (by decide +kernel), rfl⟩
theorem mk_X3_init : MK yX3_init cX3_init 1 none 0 := ⟨tb (i := 358) (by decide +kernel), tb (i := 12) (by decide +kernel), by decide +kernel⟩
theorem mc_X3_init : MC yX3_init := ⟨tb (i := 357) (by decide +kernel), rfl⟩
theorem mk_X11_feed : MK yX11_feed cX11_feed 6 (some .int) 5 := ⟨tb (i := 447) (by decide +kernel), tb (i := 1) (by decide +kernel), by decide +kernel⟩
theorem mi_X11_feed : MI yX11_feed := ⟨tb (i := 445) (by decide +kernel), tb (i := 446) (by decide +kernel)⟩
theorem mk_X9_append : MK yX9_append cX9_append 3 none 1 := ⟨tb (i := 451) (by decide +kernel), tb (i := 2) (by decide +kernel), by decide +kernel⟩
theorem mi_X9_append : MI yX9_append := ⟨tb (i := 449) (by decide +kernel), tb (i := 450) (by decide +kernel)⟩
theorem mk_X11_truncate : MK yX11_truncate cX11_truncate 2 (some .int) 1 := ⟨tb (i := 455) (by decide +kernel), tb (i := 1) (by decide +kernel), by decide +kernel⟩
theorem mi_X11_truncate : MI yX11_truncate := ⟨tb (i := 453) (by decide +kernel), tb (i := 454) (by decide +kernel)⟩
theorem mk_X11_load : MK yX11_load cX11_load 2 (some .int) 0 := ⟨tb (i := 459) (by decide +kernel), tb (i := 1) (by decide +kernel), by decide +kernel⟩
theorem mi_X11_load : MI yX11_load := ⟨tb (i := 457) (by decide +kernel), tb (i := 458) (by decide +kernel)⟩
theorem mk_X5_read : MK yX5_read cX5_read 3 none 1 := ⟨tb (i := 463) (by decide +kernel), tb (i := 3) (by decide +kernel), by decide +kernel⟩
theorem mi_X5_read : MI yX5_read := ⟨tb (i := 461) (by decide +kernel), tb (i := 462) (by decide +kernel)⟩
theorem mk_X5_begin : MK yX5_begin cX5_begin 1 none 0 := ⟨tb (i := 467) (by decide +kernel), tb (i := 3) (by decide +kernel), by decide +kernel⟩
theorem mi_X5_begin : MI yX5_begin := ⟨tb (i := 466) (by decide +kernel), pb (i := 0) (by decide +kernel)⟩
theorem mk_X7_clear : MK yX7_clear cX7_clear 1 none 0 := ⟨tb (i := 471) (by decide +kernel), tb (i := 4) (by decide +kernel), by decide +kernel⟩
theorem mi_X7_clear : MI yX7_clear := ⟨tb (i := 469) (by decide +kernel), tb (i := 470) (by decide +kernel)⟩
theorem mk_X6_begin : MK yX6_begin cX6_begin 1 none 0 := ⟨tb (i := 475) (by decide +kernel), tb (i := 6) (by decide +kernel), by decide +kernel⟩
theorem mi_X6_begin : MI yX6_begin := ⟨tb (i := 473) (by decide +kernel), tb (i := 474) (by decide +kernel)⟩
theorem mk_X6_scan : MK yX6_scan cX6_scan 3 none 1 := ⟨tb (i := 479) (by decide +kernel), tb (i := 6) (by decide +kernel), by decide +kernel⟩
theorem mi_X6_scan : MI yX6_scan := ⟨tb (i := 477) (by decide +kernel), tb (i := 478) (by decide +kernel)⟩
theorem mk_X6_skipSpaces : MK yX6_skipSpaces cX6_skipSpaces 2 none 1 := ⟨tb (i := 483) (by decide +kernel), tb (i := 6) (by decide +kernel), by decide +kernel⟩
theorem mi_X6_skipSpaces : MI yX6_skipSpaces := ⟨tb (i := 482) (by decide +kernel), pb (i := 1) (by decide +kernel)⟩
theorem mk_X9_byteAt : MK yX9_byteAt cX9_byteAt 2 (some .int) 1 := ⟨tb (i := 487) (by decide +kernel), tb (i := 2) (by decide +kernel), by decide +kernel⟩
theorem mi_X9_byteAt : MI yX9_byteAt := ⟨tb (i := 485) (by decide +kernel), tb (i := 486) (by decide +kernel)⟩
theorem mk_X6_isLetter : MK yX6_isLetter cX6_isLetter 1 (some .boolean) 1 := ⟨tb (i := 490) (by decide +kernel), tb (i := 6) (by decide +kernel), by decide +kernel⟩
theorem ms_X6_isLetter : MS yX6_isLetter := tb (i := 489) (by decide +kernel)
theorem mk_X6_scanWord : MK yX6_scanWord cX6_scanWord 2 none 1 := ⟨tb (i := 494) (by decide +kernel), tb (i := 6) (by decide +kernel), by decide +kernel⟩
theorem mi_X6_scanWord : MI yX6_scanWord := ⟨tb (i := 493) (by decide +kernel), pb (i := 2) (by decide +kernel)⟩
theorem mk_X11_withLetter : MK yX11_withLetter cX11_withLetter 4 (some .long) 3 := ⟨tb (i := 497) (by decide +kernel), tb (i := 1) (by decide +kernel), by decide +kernel⟩
theorem ms_X11_withLetter : MS yX11_withLetter := tb (i := 496) (by decide +kernel)
theorem mk_X11_keywordOf : MK yX11_keywordOf cX11_keywordOf 7 (some .int) 1 := ⟨tb (i := 500) (by decide +kernel), tb (i := 1) (by decide +kernel), by decide +kernel⟩
theorem ms_X11_keywordOf : MS yX11_keywordOf := tb (i := 499) (by decide +kernel)
theorem mk_X11_keywordText : MK yX11_keywordText cX11_keywordText 1 (some (.object "java/lang/String")) 1 := ⟨tb (i := 503) (by decide +kernel), tb (i := 1) (by decide +kernel), by decide +kernel⟩
theorem ms_X11_keywordText : MS yX11_keywordText := tb (i := 502) (by decide +kernel)
theorem mk_J0_length_8abf5 : MK yJ0_length_8abf5 cJ0_length_8abf5 1 (some .int) 0 := ⟨tb (i := 520) (by decide +kernel), tb (i := 14) (by decide +kernel), by decide +kernel⟩
theorem mi_J0_length_8abf5 : MI yJ0_length_8abf5 := ⟨tb (i := 518) (by decide +kernel), tb (i := 519) (by decide +kernel)⟩
theorem mk_J0_coder_7d493 : MK yJ0_coder_7d493 cJ0_coder_7d493 1 (some .byte) 0 := ⟨tb (i := 524) (by decide +kernel), tb (i := 14) (by decide +kernel), by decide +kernel⟩
theorem mi_J0_coder_7d493 : MI yJ0_coder_7d493 := ⟨tb (i := 522) (by decide +kernel), tb (i := 523) (by decide +kernel)⟩
theorem mk_J0_charAt_5068e : MK yJ0_charAt_5068e cJ0_charAt_5068e 2 (some .char) 1 := ⟨tb (i := 530) (by decide +kernel), tb (i := 14) (by decide +kernel), by decide +kernel⟩
theorem mi_J0_charAt_5068e : MI yJ0_charAt_5068e := ⟨tb (i := 528) (by decide +kernel), tb (i := 529) (by decide +kernel)⟩
theorem mk_J0_isLatin1_aae02 : MK yJ0_isLatin1_aae02 cJ0_isLatin1_aae02 1 (some .boolean) 0 := ⟨tb (i := 534) (by decide +kernel), tb (i := 14) (by decide +kernel), by decide +kernel⟩
theorem mi_J0_isLatin1_aae02 : MI yJ0_isLatin1_aae02 := ⟨tb (i := 532) (by decide +kernel), tb (i := 533) (by decide +kernel)⟩
theorem mk_J1_charAt_3b067 : MK yJ1_charAt_3b067 cJ1_charAt_3b067 2 (some .char) 2 := ⟨tb (i := 537) (by decide +kernel), tb (i := 15) (by decide +kernel), by decide +kernel⟩
theorem ms_J1_charAt_3b067 : MS yJ1_charAt_3b067 := tb (i := 536) (by decide +kernel)
theorem mk_J0_checkIndex_df160 : MK yJ0_checkIndex_df160 cJ0_checkIndex_df160 2 none 2 := ⟨tb (i := 540) (by decide +kernel), tb (i := 14) (by decide +kernel), by decide +kernel⟩
theorem ms_J0_checkIndex_df160 : MS yJ0_checkIndex_df160 := tb (i := 539) (by decide +kernel)
theorem mk_J3_checkIndex_8e157 : MK yJ3_checkIndex_8e157 cJ3_checkIndex_8e157 3 (some .int) 3 := ⟨tb (i := 545) (by decide +kernel), tb (i := 16) (by decide +kernel), by decide +kernel⟩
theorem ms_J3_checkIndex_8e157 : MS yJ3_checkIndex_8e157 := tb (i := 544) (by decide +kernel)
theorem mk_J2_charAt_3b067 : MK yJ2_charAt_3b067 cJ2_charAt_3b067 2 (some .char) 2 := ⟨tb (i := 548) (by decide +kernel), tb (i := 17) (by decide +kernel), by decide +kernel⟩
theorem ms_J2_charAt_3b067 : MS yJ2_charAt_3b067 := tb (i := 547) (by decide +kernel)
theorem mk_J2_checkIndex_2214a : MK yJ2_checkIndex_2214a cJ2_checkIndex_2214a 2 none 2 := ⟨tb (i := 551) (by decide +kernel), tb (i := 17) (by decide +kernel), by decide +kernel⟩
theorem ms_J2_checkIndex_2214a : MS yJ2_checkIndex_2214a := tb (i := 550) (by decide +kernel)
theorem mk_J2_length_9d52b : MK yJ2_length_9d52b cJ2_length_9d52b 1 (some .int) 1 := ⟨tb (i := 554) (by decide +kernel), tb (i := 17) (by decide +kernel), by decide +kernel⟩
theorem ms_J2_length_9d52b : MS yJ2_length_9d52b := tb (i := 553) (by decide +kernel)
theorem mk_J2_getChar_3b067 : MK yJ2_getChar_3b067 cJ2_getChar_3b067 2 (some .char) 2 := ⟨tb (i := 558) (by decide +kernel), tb (i := 17) (by decide +kernel), by decide +kernel⟩
theorem ms_J2_getChar_3b067 : MS yJ2_getChar_3b067 := tb (i := 557) (by decide +kernel)
theorem mk_X6_isDigit : MK yX6_isDigit cX6_isDigit 1 (some .boolean) 1 := ⟨tb (i := 568) (by decide +kernel), tb (i := 6) (by decide +kernel), by decide +kernel⟩
theorem ms_X6_isDigit : MS yX6_isDigit := tb (i := 567) (by decide +kernel)
theorem mk_X6_scanNumber : MK yX6_scanNumber cX6_scanNumber 2 none 1 := ⟨tb (i := 572) (by decide +kernel), tb (i := 6) (by decide +kernel), by decide +kernel⟩
theorem mi_X6_scanNumber : MI yX6_scanNumber := ⟨tb (i := 571) (by decide +kernel), pb (i := 3) (by decide +kernel)⟩
theorem mk_X5_take : MK yX5_take cX5_take 1 (some .int) 0 := ⟨tb (i := 576) (by decide +kernel), tb (i := 3) (by decide +kernel), by decide +kernel⟩
theorem mi_X5_take : MI yX5_take := ⟨tb (i := 575) (by decide +kernel), pb (i := 4) (by decide +kernel)⟩
theorem mk_X5_takeStatement : MK yX5_takeStatement cX5_takeStatement 1 (some .int) 0 := ⟨tb (i := 580) (by decide +kernel), tb (i := 3) (by decide +kernel), by decide +kernel⟩
theorem mi_X5_takeStatement : MI yX5_takeStatement := ⟨tb (i := 579) (by decide +kernel), pb (i := 5) (by decide +kernel)⟩
theorem mk_X5_takeNodeName : MK yX5_takeNodeName cX5_takeNodeName 1 (some .int) 0 := ⟨tb (i := 584) (by decide +kernel), tb (i := 3) (by decide +kernel), by decide +kernel⟩
theorem mi_X5_takeNodeName : MI yX5_takeNodeName := ⟨tb (i := 583) (by decide +kernel), pb (i := 6) (by decide +kernel)⟩
theorem mk_X5_isName : MK yX5_isName cX5_isName 1 (some .boolean) 0 := ⟨tb (i := 588) (by decide +kernel), tb (i := 3) (by decide +kernel), by decide +kernel⟩
theorem mi_X5_isName : MI yX5_isName := ⟨tb (i := 587) (by decide +kernel), pb (i := 7) (by decide +kernel)⟩
theorem mk_X7_findNode : MK yX7_findNode cX7_findNode 4 (some .int) 1 := ⟨tb (i := 592) (by decide +kernel), tb (i := 4) (by decide +kernel), by decide +kernel⟩
theorem mi_X7_findNode : MI yX7_findNode := ⟨tb (i := 590) (by decide +kernel), tb (i := 591) (by decide +kernel)⟩
theorem mk_X5_addNode : MK yX5_addNode cX5_addNode 2 none 1 := ⟨tb (i := 596) (by decide +kernel), tb (i := 3) (by decide +kernel), by decide +kernel⟩
theorem mi_X5_addNode : MI yX5_addNode := ⟨tb (i := 595) (by decide +kernel), pb (i := 8) (by decide +kernel)⟩
theorem mk_X7_addNode : MK yX7_addNode cX7_addNode 6 none 2 := ⟨tb (i := 600) (by decide +kernel), tb (i := 4) (by decide +kernel), by decide +kernel⟩
theorem mi_X7_addNode : MI yX7_addNode := ⟨tb (i := 598) (by decide +kernel), tb (i := 599) (by decide +kernel)⟩
theorem mk_X7_row : MK yX7_row cX7_row 2 (some (.array .int)) 1 := ⟨tb (i := 604) (by decide +kernel), tb (i := 4) (by decide +kernel), by decide +kernel⟩
theorem mi_X7_row : MI yX7_row := ⟨tb (i := 602) (by decide +kernel), tb (i := 603) (by decide +kernel)⟩
theorem mk_X5_takeIn : MK yX5_takeIn cX5_takeIn 1 (some .int) 0 := ⟨tb (i := 610) (by decide +kernel), tb (i := 3) (by decide +kernel), by decide +kernel⟩
theorem mi_X5_takeIn : MI yX5_takeIn := ⟨tb (i := 609) (by decide +kernel), pb (i := 9) (by decide +kernel)⟩
theorem mk_X5_takeParentName : MK yX5_takeParentName cX5_takeParentName 2 (some .int) 0 := ⟨tb (i := 614) (by decide +kernel), tb (i := 3) (by decide +kernel), by decide +kernel⟩
theorem mi_X5_takeParentName : MI yX5_takeParentName := ⟨tb (i := 613) (by decide +kernel), pb (i := 10) (by decide +kernel)⟩
theorem mk_X5_takeSetting : MK yX5_takeSetting cX5_takeSetting 2 (some .int) 0 := ⟨tb (i := 618) (by decide +kernel), tb (i := 3) (by decide +kernel), by decide +kernel⟩
theorem mi_X5_takeSetting : MI yX5_takeSetting := ⟨tb (i := 617) (by decide +kernel), pb (i := 11) (by decide +kernel)⟩
theorem mk_X5_finishNode : MK yX5_finishNode cX5_finishNode 2 none 0 := ⟨tb (i := 622) (by decide +kernel), tb (i := 3) (by decide +kernel), by decide +kernel⟩
theorem mi_X5_finishNode : MI yX5_finishNode := ⟨tb (i := 621) (by decide +kernel), pb (i := 12) (by decide +kernel)⟩
theorem mk_X7_hasNode : MK yX7_hasNode cX7_hasNode 2 (some .boolean) 1 := ⟨tb (i := 626) (by decide +kernel), tb (i := 4) (by decide +kernel), by decide +kernel⟩
theorem mi_X7_hasNode : MI yX7_hasNode := ⟨tb (i := 624) (by decide +kernel), tb (i := 625) (by decide +kernel)⟩
theorem mk_X5_takeSettingValue : MK yX5_takeSettingValue cX5_takeSettingValue 3 (some .int) 0 := ⟨tb (i := 630) (by decide +kernel), tb (i := 3) (by decide +kernel), by decide +kernel⟩
theorem mi_X5_takeSettingValue : MI yX5_takeSettingValue := ⟨tb (i := 629) (by decide +kernel), pb (i := 13) (by decide +kernel)⟩
theorem mk_X5_numberFault : MK yX5_numberFault cX5_numberFault 2 (some .int) 1 := ⟨tb (i := 634) (by decide +kernel), tb (i := 3) (by decide +kernel), by decide +kernel⟩
theorem mi_X5_numberFault : MI yX5_numberFault := ⟨tb (i := 633) (by decide +kernel), pb (i := 14) (by decide +kernel)⟩
theorem mk_X11_isInRange : MK yX11_isInRange cX11_isInRange 2 (some .boolean) 2 := ⟨tb (i := 637) (by decide +kernel), tb (i := 1) (by decide +kernel), by decide +kernel⟩
theorem ms_X11_isInRange : MS yX11_isInRange := tb (i := 636) (by decide +kernel)
theorem mk_X5_takeLimit : MK yX5_takeLimit cX5_takeLimit 1 (some .int) 0 := ⟨tb (i := 646) (by decide +kernel), tb (i := 3) (by decide +kernel), by decide +kernel⟩
theorem mi_X5_takeLimit : MI yX5_takeLimit := ⟨tb (i := 645) (by decide +kernel), pb (i := 15) (by decide +kernel)⟩
theorem mk_X5_numberFault_ : MK yX5_numberFault_ cX5_numberFault_ 3 (some .int) 2 := ⟨tb (i := 650) (by decide +kernel), tb (i := 3) (by decide +kernel), by decide +kernel⟩
theorem mi_X5_numberFault_ : MI yX5_numberFault_ := ⟨tb (i := 649) (by decide +kernel), pb (i := 16) (by decide +kernel)⟩
theorem mk_X5_takeAge : MK yX5_takeAge cX5_takeAge 1 (some .int) 0 := ⟨tb (i := 654) (by decide +kernel), tb (i := 3) (by decide +kernel), by decide +kernel⟩
theorem mi_X5_takeAge : MI yX5_takeAge := ⟨tb (i := 653) (by decide +kernel), pb (i := 17) (by decide +kernel)⟩
theorem mk_X5_takeChangeTime : MK yX5_takeChangeTime cX5_takeChangeTime 1 (some .int) 0 := ⟨tb (i := 658) (by decide +kernel), tb (i := 3) (by decide +kernel), by decide +kernel⟩
theorem mi_X5_takeChangeTime : MI yX5_takeChangeTime := ⟨tb (i := 657) (by decide +kernel), pb (i := 18) (by decide +kernel)⟩
theorem mk_X5_takeChangeName : MK yX5_takeChangeName cX5_takeChangeName 1 (some .int) 0 := ⟨tb (i := 662) (by decide +kernel), tb (i := 3) (by decide +kernel), by decide +kernel⟩
theorem mi_X5_takeChangeName : MI yX5_takeChangeName := ⟨tb (i := 661) (by decide +kernel), pb (i := 19) (by decide +kernel)⟩
theorem mk_X5_takeChangeSetting : MK yX5_takeChangeSetting cX5_takeChangeSetting 1 (some .int) 0 := ⟨tb (i := 666) (by decide +kernel), tb (i := 3) (by decide +kernel), by decide +kernel⟩
theorem mi_X5_takeChangeSetting : MI yX5_takeChangeSetting := ⟨tb (i := 665) (by decide +kernel), pb (i := 20) (by decide +kernel)⟩
theorem mk_X5_takeChangeValue : MK yX5_takeChangeValue cX5_takeChangeValue 2 (some .int) 0 := ⟨tb (i := 670) (by decide +kernel), tb (i := 3) (by decide +kernel), by decide +kernel⟩
theorem mi_X5_takeChangeValue : MI yX5_takeChangeValue := ⟨tb (i := 669) (by decide +kernel), pb (i := 21) (by decide +kernel)⟩
theorem mk_X1_add : MK yX1_add cX1_add 5 none 4 := ⟨tb (i := 674) (by decide +kernel), tb (i := 5) (by decide +kernel), by decide +kernel⟩
theorem mi_X1_add : MI yX1_add := ⟨tb (i := 672) (by decide +kernel), tb (i := 673) (by decide +kernel)⟩
theorem mk_X5_takeStatementEnd : MK yX5_takeStatementEnd cX5_takeStatementEnd 1 (some .int) 0 := ⟨tb (i := 678) (by decide +kernel), tb (i := 3) (by decide +kernel), by decide +kernel⟩
theorem mi_X5_takeStatementEnd : MI yX5_takeStatementEnd := ⟨tb (i := 677) (by decide +kernel), pb (i := 22) (by decide +kernel)⟩
theorem mk_X8_begin : MK yX8_begin cX8_begin 2 none 1 := ⟨tb (i := 682) (by decide +kernel), tb (i := 8) (by decide +kernel), by decide +kernel⟩
theorem mi_X8_begin : MI yX8_begin := ⟨tb (i := 680) (by decide +kernel), tb (i := 681) (by decide +kernel)⟩
theorem mk_X11_copyRow : MK yX11_copyRow cX11_copyRow 2 none 2 := ⟨tb (i := 685) (by decide +kernel), tb (i := 1) (by decide +kernel), by decide +kernel⟩
theorem ms_X11_copyRow : MS yX11_copyRow := tb (i := 684) (by decide +kernel)
theorem mk_J9_min_7cf53 : MK yJ9_min_7cf53 cJ9_min_7cf53 2 (some .int) 2 := ⟨tb (i := 688) (by decide +kernel), tb (i := 18) (by decide +kernel), by decide +kernel⟩
theorem ms_J9_min_7cf53 : MS yJ9_min_7cf53 := tb (i := 687) (by decide +kernel)
theorem mk_X0_begin : MK yX0_begin cX0_begin 2 none 1 := ⟨tb (i := 695) (by decide +kernel), tb (i := 9) (by decide +kernel), by decide +kernel⟩
theorem mi_X0_begin : MI yX0_begin := ⟨tb (i := 693) (by decide +kernel), tb (i := 694) (by decide +kernel)⟩
theorem mk_X11_clearRow : MK yX11_clearRow cX11_clearRow 2 none 1 := ⟨tb (i := 699) (by decide +kernel), tb (i := 1) (by decide +kernel), by decide +kernel⟩
theorem ms_X11_clearRow : MS yX11_clearRow := tb (i := 698) (by decide +kernel)
theorem mk_X4_begin : MK yX4_begin cX4_begin 1 none 0 := ⟨tb (i := 703) (by decide +kernel), tb (i := 10) (by decide +kernel), by decide +kernel⟩
theorem mi_X4_begin : MI yX4_begin := ⟨tb (i := 701) (by decide +kernel), tb (i := 702) (by decide +kernel)⟩
theorem mk_X2_begin : MK yX2_begin cX2_begin 1 none 0 := ⟨tb (i := 708) (by decide +kernel), tb (i := 11) (by decide +kernel), by decide +kernel⟩
theorem mi_X2_begin : MI yX2_begin := ⟨tb (i := 706) (by decide +kernel), tb (i := 707) (by decide +kernel)⟩
theorem mk_X11_faultCode : MK yX11_faultCode cX11_faultCode 1 (some .int) 0 := ⟨tb (i := 713) (by decide +kernel), tb (i := 1) (by decide +kernel), by decide +kernel⟩
theorem mi_X11_faultCode : MI yX11_faultCode := ⟨tb (i := 711) (by decide +kernel), tb (i := 712) (by decide +kernel)⟩
theorem mk_X11_faultPosition : MK yX11_faultPosition cX11_faultPosition 1 (some .int) 0 := ⟨tb (i := 717) (by decide +kernel), tb (i := 1) (by decide +kernel), by decide +kernel⟩
theorem mi_X11_faultPosition : MI yX11_faultPosition := ⟨tb (i := 715) (by decide +kernel), tb (i := 716) (by decide +kernel)⟩
theorem mk_X11_nodeCount : MK yX11_nodeCount cX11_nodeCount 1 (some .int) 0 := ⟨tb (i := 721) (by decide +kernel), tb (i := 1) (by decide +kernel), by decide +kernel⟩
theorem mi_X11_nodeCount : MI yX11_nodeCount := ⟨tb (i := 719) (by decide +kernel), tb (i := 720) (by decide +kernel)⟩
theorem mk_X11_nameLetter : MK yX11_nameLetter cX11_nameLetter 3 (some .int) 2 := ⟨tb (i := 725) (by decide +kernel), tb (i := 1) (by decide +kernel), by decide +kernel⟩
theorem mi_X11_nameLetter : MI yX11_nameLetter := ⟨tb (i := 723) (by decide +kernel), tb (i := 724) (by decide +kernel)⟩
theorem mk_X11_letterOf : MK yX11_letterOf cX11_letterOf 3 (some .int) 2 := ⟨tb (i := 729) (by decide +kernel), tb (i := 1) (by decide +kernel), by decide +kernel⟩
theorem ms_X11_letterOf : MS yX11_letterOf := tb (i := 728) (by decide +kernel)
theorem mk_X11_parent : MK yX11_parent cX11_parent 2 (some .int) 1 := ⟨tb (i := 733) (by decide +kernel), tb (i := 1) (by decide +kernel), by decide +kernel⟩
theorem mi_X11_parent : MI yX11_parent := ⟨tb (i := 731) (by decide +kernel), tb (i := 732) (by decide +kernel)⟩
theorem mk_X11_child : MK yX11_child cX11_child 3 (some .int) 2 := ⟨tb (i := 737) (by decide +kernel), tb (i := 1) (by decide +kernel), by decide +kernel⟩
theorem mi_X11_child : MI yX11_child := ⟨tb (i := 735) (by decide +kernel), tb (i := 736) (by decide +kernel)⟩
theorem mk_X7_childOf : MK yX7_childOf cX7_childOf 5 (some .int) 2 := ⟨tb (i := 741) (by decide +kernel), tb (i := 4) (by decide +kernel), by decide +kernel⟩
theorem mi_X7_childOf : MI yX7_childOf := ⟨tb (i := 739) (by decide +kernel), tb (i := 740) (by decide +kernel)⟩
theorem mk_X11_isLeaf : MK yX11_isLeaf cX11_isLeaf 2 (some .boolean) 1 := ⟨tb (i := 745) (by decide +kernel), tb (i := 1) (by decide +kernel), by decide +kernel⟩
theorem mi_X11_isLeaf : MI yX11_isLeaf := ⟨tb (i := 743) (by decide +kernel), tb (i := 744) (by decide +kernel)⟩
theorem mk_X7_hasLeaf : MK yX7_hasLeaf cX7_hasLeaf 2 (some .boolean) 1 := ⟨tb (i := 749) (by decide +kernel), tb (i := 4) (by decide +kernel), by decide +kernel⟩
theorem mi_X7_hasLeaf : MI yX7_hasLeaf := ⟨tb (i := 747) (by decide +kernel), tb (i := 748) (by decide +kernel)⟩
theorem mk_X11_depth : MK yX11_depth cX11_depth 2 (some .int) 1 := ⟨tb (i := 754) (by decide +kernel), tb (i := 1) (by decide +kernel), by decide +kernel⟩
theorem mi_X11_depth : MI yX11_depth := ⟨tb (i := 752) (by decide +kernel), tb (i := 753) (by decide +kernel)⟩
theorem mk_X11_rate : MK yX11_rate cX11_rate 2 (some .int) 1 := ⟨tb (i := 758) (by decide +kernel), tb (i := 1) (by decide +kernel), by decide +kernel⟩
theorem mi_X11_rate : MI yX11_rate := ⟨tb (i := 756) (by decide +kernel), tb (i := 757) (by decide +kernel)⟩
theorem mk_X11_ceiling : MK yX11_ceiling cX11_ceiling 2 (some .int) 1 := ⟨tb (i := 762) (by decide +kernel), tb (i := 1) (by decide +kernel), by decide +kernel⟩
theorem mi_X11_ceiling : MI yX11_ceiling := ⟨tb (i := 760) (by decide +kernel), tb (i := 761) (by decide +kernel)⟩
theorem mk_X11_burst : MK yX11_burst cX11_burst 2 (some .int) 1 := ⟨tb (i := 766) (by decide +kernel), tb (i := 1) (by decide +kernel), by decide +kernel⟩
theorem mi_X11_burst : MI yX11_burst := ⟨tb (i := 764) (by decide +kernel), tb (i := 765) (by decide +kernel)⟩
theorem mk_X11_creditLimit : MK yX11_creditLimit cX11_creditLimit 2 (some .int) 1 := ⟨tb (i := 770) (by decide +kernel), tb (i := 1) (by decide +kernel), by decide +kernel⟩
theorem mi_X11_creditLimit : MI yX11_creditLimit := ⟨tb (i := 768) (by decide +kernel), tb (i := 769) (by decide +kernel)⟩
theorem mk_X11_weight : MK yX11_weight cX11_weight 2 (some .int) 1 := ⟨tb (i := 774) (by decide +kernel), tb (i := 1) (by decide +kernel), by decide +kernel⟩
theorem mi_X11_weight : MI yX11_weight := ⟨tb (i := 772) (by decide +kernel), tb (i := 773) (by decide +kernel)⟩
theorem mk_X11_priority : MK yX11_priority cX11_priority 2 (some .int) 1 := ⟨tb (i := 778) (by decide +kernel), tb (i := 1) (by decide +kernel), by decide +kernel⟩
theorem mi_X11_priority : MI yX11_priority := ⟨tb (i := 776) (by decide +kernel), tb (i := 777) (by decide +kernel)⟩
theorem mk_X11_mayBorrow : MK yX11_mayBorrow cX11_mayBorrow 2 (some .boolean) 1 := ⟨tb (i := 782) (by decide +kernel), tb (i := 1) (by decide +kernel), by decide +kernel⟩
theorem mi_X11_mayBorrow : MI yX11_mayBorrow := ⟨tb (i := 780) (by decide +kernel), tb (i := 781) (by decide +kernel)⟩
theorem mk_X11_isOversubscribed : MK yX11_isOversubscribed cX11_isOversubscribed 2 (some .boolean) 1 := ⟨tb (i := 786) (by decide +kernel), tb (i := 1) (by decide +kernel), by decide +kernel⟩
theorem mi_X11_isOversubscribed : MI yX11_isOversubscribed := ⟨tb (i := 784) (by decide +kernel), tb (i := 785) (by decide +kernel)⟩
theorem mk_X8_childrenRate : MK yX8_childrenRate cX8_childrenRate 5 (some .int) 2 := ⟨tb (i := 790) (by decide +kernel), tb (i := 8) (by decide +kernel), by decide +kernel⟩
theorem mi_X8_childrenRate : MI yX8_childrenRate := ⟨tb (i := 788) (by decide +kernel), tb (i := 789) (by decide +kernel)⟩
theorem mk_X11_pathCeiling : MK yX11_pathCeiling cX11_pathCeiling 2 (some .int) 1 := ⟨tb (i := 794) (by decide +kernel), tb (i := 1) (by decide +kernel), by decide +kernel⟩
theorem mi_X11_pathCeiling : MI yX11_pathCeiling := ⟨tb (i := 792) (by decide +kernel), tb (i := 793) (by decide +kernel)⟩
theorem mk_X8_leastCeiling : MK yX8_leastCeiling cX8_leastCeiling 6 (some .int) 2 := ⟨tb (i := 798) (by decide +kernel), tb (i := 8) (by decide +kernel), by decide +kernel⟩
theorem mi_X8_leastCeiling : MI yX8_leastCeiling := ⟨tb (i := 796) (by decide +kernel), tb (i := 797) (by decide +kernel)⟩
theorem mk_X11_time : MK yX11_time cX11_time 1 (some .int) 0 := ⟨tb (i := 804) (by decide +kernel), tb (i := 1) (by decide +kernel), by decide +kernel⟩
theorem mi_X11_time : MI yX11_time := ⟨tb (i := 802) (by decide +kernel), tb (i := 803) (by decide +kernel)⟩
theorem mk_X11_tokens : MK yX11_tokens cX11_tokens 2 (some .int) 1 := ⟨tb (i := 808) (by decide +kernel), tb (i := 1) (by decide +kernel), by decide +kernel⟩
theorem mi_X11_tokens : MI yX11_tokens := ⟨tb (i := 806) (by decide +kernel), tb (i := 807) (by decide +kernel)⟩
theorem mk_X11_credit : MK yX11_credit cX11_credit 2 (some .int) 1 := ⟨tb (i := 812) (by decide +kernel), tb (i := 1) (by decide +kernel), by decide +kernel⟩
theorem mi_X11_credit : MI yX11_credit := ⟨tb (i := 810) (by decide +kernel), tb (i := 811) (by decide +kernel)⟩
theorem mk_X11_headroom : MK yX11_headroom cX11_headroom 2 (some .int) 1 := ⟨tb (i := 816) (by decide +kernel), tb (i := 1) (by decide +kernel), by decide +kernel⟩
theorem mi_X11_headroom : MI yX11_headroom := ⟨tb (i := 814) (by decide +kernel), tb (i := 815) (by decide +kernel)⟩
theorem mk_X11_lender : MK yX11_lender cX11_lender 3 (some .int) 2 := ⟨tb (i := 820) (by decide +kernel), tb (i := 1) (by decide +kernel), by decide +kernel⟩
theorem mi_X11_lender : MI yX11_lender := ⟨tb (i := 818) (by decide +kernel), tb (i := 819) (by decide +kernel)⟩
theorem mk_X11_isRequest : MK yX11_isRequest cX11_isRequest 3 (some .boolean) 2 := ⟨tb (i := 824) (by decide +kernel), tb (i := 1) (by decide +kernel), by decide +kernel⟩
theorem mi_X11_isRequest : MI yX11_isRequest := ⟨tb (i := 823) (by decide +kernel), pb (i := 23) (by decide +kernel)⟩
theorem mk_X0_findLender : MK yX0_findLender cX0_findLender 8 (some .int) 3 := ⟨tb (i := 828) (by decide +kernel), tb (i := 9) (by decide +kernel), by decide +kernel⟩
theorem mi_X0_findLender : MI yX0_findLender := ⟨tb (i := 826) (by decide +kernel), tb (i := 827) (by decide +kernel)⟩
theorem mk_X11_greatestCost : MK yX11_greatestCost cX11_greatestCost 3 (some .int) 1 := ⟨tb (i := 833) (by decide +kernel), tb (i := 1) (by decide +kernel), by decide +kernel⟩
theorem mi_X11_greatestCost : MI yX11_greatestCost := ⟨tb (i := 831) (by decide +kernel), tb (i := 832) (by decide +kernel)⟩
theorem mk_X11_acquire : MK yX11_acquire cX11_acquire 4 (some .int) 2 := ⟨tb (i := 837) (by decide +kernel), tb (i := 1) (by decide +kernel), by decide +kernel⟩
theorem mi_X11_acquire : MI yX11_acquire := ⟨tb (i := 835) (by decide +kernel), tb (i := 836) (by decide +kernel)⟩
theorem mk_X8_send : MK yX8_send cX8_send 5 none 4 := ⟨tb (i := 841) (by decide +kernel), tb (i := 8) (by decide +kernel), by decide +kernel⟩
theorem mi_X8_send : MI yX8_send := ⟨tb (i := 839) (by decide +kernel), tb (i := 840) (by decide +kernel)⟩
theorem mk_X0_pay : MK yX0_pay cX0_pay 9 none 4 := ⟨tb (i := 845) (by decide +kernel), tb (i := 9) (by decide +kernel), by decide +kernel⟩
theorem mi_X0_pay : MI yX0_pay := ⟨tb (i := 843) (by decide +kernel), tb (i := 844) (by decide +kernel)⟩
theorem mk_X2_countSent : MK yX2_countSent cX2_countSent 4 none 3 := ⟨tb (i := 850) (by decide +kernel), tb (i := 11) (by decide +kernel), by decide +kernel⟩
theorem mi_X2_countSent : MI yX2_countSent := ⟨tb (i := 848) (by decide +kernel), tb (i := 849) (by decide +kernel)⟩
theorem mk_X3_add : MK yX3_add cX3_add 5 none 4 := ⟨tb (i := 854) (by decide +kernel), tb (i := 12) (by decide +kernel), by decide +kernel⟩
theorem mi_X3_add : MI yX3_add := ⟨tb (i := 852) (by decide +kernel), tb (i := 853) (by decide +kernel)⟩
theorem mk_X3_putFirst : MK yX3_putFirst cX3_putFirst 2 none 2 := ⟨tb (i := 857) (by decide +kernel), tb (i := 12) (by decide +kernel), by decide +kernel⟩
theorem ms_X3_putFirst : MS yX3_putFirst := tb (i := 856) (by decide +kernel)
theorem mk_X7_distance : MK yX7_distance cX7_distance 3 (some .int) 2 := ⟨tb (i := 863) (by decide +kernel), tb (i := 4) (by decide +kernel), by decide +kernel⟩
theorem mi_X7_distance : MI yX7_distance := ⟨tb (i := 861) (by decide +kernel), tb (i := 862) (by decide +kernel)⟩
theorem mk_X11_enqueue : MK yX11_enqueue cX11_enqueue 3 (some .int) 2 := ⟨tb (i := 867) (by decide +kernel), tb (i := 1) (by decide +kernel), by decide +kernel⟩
theorem mi_X11_enqueue : MI yX11_enqueue := ⟨tb (i := 865) (by decide +kernel), tb (i := 866) (by decide +kernel)⟩
theorem mk_X8_putInQueue : MK yX8_putInQueue cX8_putInQueue 3 (some .int) 2 := ⟨tb (i := 871) (by decide +kernel), tb (i := 8) (by decide +kernel), by decide +kernel⟩
theorem mi_X8_putInQueue : MI yX8_putInQueue := ⟨tb (i := 869) (by decide +kernel), tb (i := 870) (by decide +kernel)⟩
theorem mk_X4_isFull : MK yX4_isFull cX4_isFull 2 (some .boolean) 1 := ⟨tb (i := 875) (by decide +kernel), tb (i := 10) (by decide +kernel), by decide +kernel⟩
theorem mi_X4_isFull : MI yX4_isFull := ⟨tb (i := 873) (by decide +kernel), tb (i := 874) (by decide +kernel)⟩
theorem mk_X4_put : MK yX4_put cX4_put 5 (some .int) 3 := ⟨tb (i := 879) (by decide +kernel), tb (i := 10) (by decide +kernel), by decide +kernel⟩
theorem mi_X4_put : MI yX4_put := ⟨tb (i := 877) (by decide +kernel), tb (i := 878) (by decide +kernel)⟩
theorem mk_X11_waitTime : MK yX11_waitTime cX11_waitTime 3 (some .int) 2 := ⟨tb (i := 883) (by decide +kernel), tb (i := 1) (by decide +kernel), by decide +kernel⟩
theorem mi_X11_waitTime : MI yX11_waitTime := ⟨tb (i := 881) (by decide +kernel), tb (i := 882) (by decide +kernel)⟩
theorem mk_X8_ticksUntilLender : MK yX8_ticksUntilLender cX8_ticksUntilLender 13 (some .int) 3 := ⟨tb (i := 887) (by decide +kernel), tb (i := 8) (by decide +kernel), by decide +kernel⟩
theorem mi_X8_ticksUntilLender : MI yX8_ticksUntilLender := ⟨tb (i := 885) (by decide +kernel), tb (i := 886) (by decide +kernel)⟩
theorem mk_X8_ticksUntil : MK yX8_ticksUntil cX8_ticksUntil 4 (some .int) 4 := ⟨tb (i := 890) (by decide +kernel), tb (i := 8) (by decide +kernel), by decide +kernel⟩
theorem ms_X8_ticksUntil : MS yX8_ticksUntil := tb (i := 889) (by decide +kernel)
theorem mk_J9_max_7cf53 : MK yJ9_max_7cf53 cJ9_max_7cf53 2 (some .int) 2 := ⟨tb (i := 893) (by decide +kernel), tb (i := 18) (by decide +kernel), by decide +kernel⟩
theorem ms_J9_max_7cf53 : MS yJ9_max_7cf53 := tb (i := 892) (by decide +kernel)
theorem mk_X11_repeats : MK yX11_repeats cX11_repeats 3 (some .int) 2 := ⟨tb (i := 897) (by decide +kernel), tb (i := 1) (by decide +kernel), by decide +kernel⟩
theorem mi_X11_repeats : MI yX11_repeats := ⟨tb (i := 895) (by decide +kernel), tb (i := 896) (by decide +kernel)⟩
theorem mk_X0_copyFrom : MK yX0_copyFrom cX0_copyFrom 2 none 1 := ⟨tb (i := 901) (by decide +kernel), tb (i := 9) (by decide +kernel), by decide +kernel⟩
theorem mi_X0_copyFrom : MI yX0_copyFrom := ⟨tb (i := 899) (by decide +kernel), tb (i := 900) (by decide +kernel)⟩
theorem mk_X0_payOften : MK yX0_payOften cX0_payOften 6 (some .int) 3 := ⟨tb (i := 905) (by decide +kernel), tb (i := 9) (by decide +kernel), by decide +kernel⟩
theorem mi_X0_payOften : MI yX0_payOften := ⟨tb (i := 903) (by decide +kernel), tb (i := 904) (by decide +kernel)⟩
theorem mk_X11_refusal : MK yX11_refusal cX11_refusal 3 (some .int) 2 := ⟨tb (i := 911) (by decide +kernel), tb (i := 1) (by decide +kernel), by decide +kernel⟩
theorem mi_X11_refusal : MI yX11_refusal := ⟨tb (i := 909) (by decide +kernel), tb (i := 910) (by decide +kernel)⟩
theorem mk_X0_findBlocking : MK yX0_findBlocking cX0_findBlocking 6 (some .int) 3 := ⟨tb (i := 915) (by decide +kernel), tb (i := 9) (by decide +kernel), by decide +kernel⟩
theorem mi_X0_findBlocking : MI yX0_findBlocking := ⟨tb (i := 913) (by decide +kernel), tb (i := 914) (by decide +kernel)⟩
theorem mk_X11_blockingNode : MK yX11_blockingNode cX11_blockingNode 3 (some .int) 2 := ⟨tb (i := 919) (by decide +kernel), tb (i := 1) (by decide +kernel), by decide +kernel⟩
theorem mi_X11_blockingNode : MI yX11_blockingNode := ⟨tb (i := 917) (by decide +kernel), tb (i := 918) (by decide +kernel)⟩
theorem mk_X11_queueLength : MK yX11_queueLength cX11_queueLength 2 (some .int) 1 := ⟨tb (i := 923) (by decide +kernel), tb (i := 1) (by decide +kernel), by decide +kernel⟩
theorem mi_X11_queueLength : MI yX11_queueLength := ⟨tb (i := 921) (by decide +kernel), tb (i := 922) (by decide +kernel)⟩
theorem mk_X11_nextLeaf : MK yX11_nextLeaf cX11_nextLeaf 1 (some .int) 0 := ⟨tb (i := 927) (by decide +kernel), tb (i := 1) (by decide +kernel), by decide +kernel⟩
theorem mi_X11_nextLeaf : MI yX11_nextLeaf := ⟨tb (i := 925) (by decide +kernel), tb (i := 926) (by decide +kernel)⟩
theorem mk_X8_chooseLeaf : MK yX8_chooseLeaf cX8_chooseLeaf 7 (some .int) 1 := ⟨tb (i := 931) (by decide +kernel), tb (i := 8) (by decide +kernel), by decide +kernel⟩
theorem mi_X8_chooseLeaf : MI yX8_chooseLeaf := ⟨tb (i := 929) (by decide +kernel), tb (i := 930) (by decide +kernel)⟩
theorem mk_X8_frontDistance : MK yX8_frontDistance cX8_frontDistance 3 (some .int) 2 := ⟨tb (i := 935) (by decide +kernel), tb (i := 8) (by decide +kernel), by decide +kernel⟩
theorem mi_X8_frontDistance : MI yX8_frontDistance := ⟨tb (i := 934) (by decide +kernel), pb (i := 24) (by decide +kernel)⟩
theorem mk_X8_precedes : MK yX8_precedes cX8_precedes 4 (some .boolean) 3 := ⟨tb (i := 941) (by decide +kernel), tb (i := 8) (by decide +kernel), by decide +kernel⟩
theorem mi_X8_precedes : MI yX8_precedes := ⟨tb (i := 940) (by decide +kernel), pb (i := 25) (by decide +kernel)⟩
theorem mk_X8_compareServed : MK yX8_compareServed cX8_compareServed 7 (some .int) 2 := ⟨tb (i := 945) (by decide +kernel), tb (i := 8) (by decide +kernel), by decide +kernel⟩
theorem mi_X8_compareServed : MI yX8_compareServed := ⟨tb (i := 943) (by decide +kernel), tb (i := 944) (by decide +kernel)⟩
theorem mk_J13_compare_74951 : MK yJ13_compare_74951 cJ13_compare_74951 4 (some .int) 2 := ⟨tb (i := 948) (by decide +kernel), tb (i := 20) (by decide +kernel), by decide +kernel⟩
theorem ms_J13_compare_74951 : MS yJ13_compare_74951 := tb (i := 947) (by decide +kernel)
theorem mk_X11_queuedCost : MK yX11_queuedCost cX11_queuedCost 2 (some .int) 1 := ⟨tb (i := 952) (by decide +kernel), tb (i := 1) (by decide +kernel), by decide +kernel⟩
theorem mi_X11_queuedCost : MI yX11_queuedCost := ⟨tb (i := 950) (by decide +kernel), tb (i := 951) (by decide +kernel)⟩
theorem mk_X4_costSum : MK yX4_costSum cX4_costSum 4 (some .int) 1 := ⟨tb (i := 956) (by decide +kernel), tb (i := 10) (by decide +kernel), by decide +kernel⟩
theorem mi_X4_costSum : MI yX4_costSum := ⟨tb (i := 954) (by decide +kernel), tb (i := 955) (by decide +kernel)⟩
theorem mk_X11_requestAt : MK yX11_requestAt cX11_requestAt 4 (some .int) 2 := ⟨tb (i := 960) (by decide +kernel), tb (i := 1) (by decide +kernel), by decide +kernel⟩
theorem mi_X11_requestAt : MI yX11_requestAt := ⟨tb (i := 958) (by decide +kernel), tb (i := 959) (by decide +kernel)⟩
theorem mk_X11_queueEntry : MK yX11_queueEntry cX11_queueEntry 3 (some .int) 2 := ⟨tb (i := 964) (by decide +kernel), tb (i := 1) (by decide +kernel), by decide +kernel⟩
theorem mi_X11_queueEntry : MI yX11_queueEntry := ⟨tb (i := 963) (by decide +kernel), pb (i := 26) (by decide +kernel)⟩
theorem mk_X11_costAt : MK yX11_costAt cX11_costAt 4 (some .int) 2 := ⟨tb (i := 968) (by decide +kernel), tb (i := 1) (by decide +kernel), by decide +kernel⟩
theorem mi_X11_costAt : MI yX11_costAt := ⟨tb (i := 966) (by decide +kernel), tb (i := 967) (by decide +kernel)⟩
theorem mk_X11_ageAt : MK yX11_ageAt cX11_ageAt 4 (some .int) 2 := ⟨tb (i := 972) (by decide +kernel), tb (i := 1) (by decide +kernel), by decide +kernel⟩
theorem mi_X11_ageAt : MI yX11_ageAt := ⟨tb (i := 970) (by decide +kernel), tb (i := 971) (by decide +kernel)⟩
theorem mk_X11_advance : MK yX11_advance cX11_advance 2 (some .int) 1 := ⟨tb (i := 976) (by decide +kernel), tb (i := 1) (by decide +kernel), by decide +kernel⟩
theorem mi_X11_advance : MI yX11_advance := ⟨tb (i := 974) (by decide +kernel), tb (i := 975) (by decide +kernel)⟩
theorem mk_X11_canAdvance : MK yX11_canAdvance cX11_canAdvance 2 (some .boolean) 1 := ⟨tb (i := 980) (by decide +kernel), tb (i := 1) (by decide +kernel), by decide +kernel⟩
theorem mi_X11_canAdvance : MI yX11_canAdvance := ⟨tb (i := 979) (by decide +kernel), pb (i := 27) (by decide +kernel)⟩
theorem mk_X8_makeTicks : MK yX8_makeTicks cX8_makeTicks 5 (some .int) 2 := ⟨tb (i := 984) (by decide +kernel), tb (i := 8) (by decide +kernel), by decide +kernel⟩
theorem mi_X8_makeTicks : MI yX8_makeTicks := ⟨tb (i := 982) (by decide +kernel), tb (i := 983) (by decide +kernel)⟩
theorem mk_X8_makeTick : MK yX8_makeTick cX8_makeTick 3 (some .int) 1 := ⟨tb (i := 988) (by decide +kernel), tb (i := 8) (by decide +kernel), by decide +kernel⟩
theorem mi_X8_makeTick : MI yX8_makeTick := ⟨tb (i := 986) (by decide +kernel), tb (i := 987) (by decide +kernel)⟩
theorem mk_X8_makeChanges : MK yX8_makeChanges cX8_makeChanges 4 none 1 := ⟨tb (i := 992) (by decide +kernel), tb (i := 8) (by decide +kernel), by decide +kernel⟩
theorem mi_X8_makeChanges : MI yX8_makeChanges := ⟨tb (i := 991) (by decide +kernel), pb (i := 28) (by decide +kernel)⟩
theorem mk_X8_row : MK yX8_row cX8_row 2 (some (.array .int)) 1 := ⟨tb (i := 996) (by decide +kernel), tb (i := 8) (by decide +kernel), by decide +kernel⟩
theorem mi_X8_row : MI yX8_row := ⟨tb (i := 994) (by decide +kernel), tb (i := 995) (by decide +kernel)⟩
theorem mk_X0_refill : MK yX0_refill cX0_refill 7 none 4 := ⟨tb (i := 1000) (by decide +kernel), tb (i := 9) (by decide +kernel), by decide +kernel⟩
theorem mi_X0_refill : MI yX0_refill := ⟨tb (i := 998) (by decide +kernel), tb (i := 999) (by decide +kernel)⟩
theorem mk_X8_dropOld : MK yX8_dropOld cX8_dropOld 4 none 1 := ⟨tb (i := 1005) (by decide +kernel), tb (i := 8) (by decide +kernel), by decide +kernel⟩
theorem mi_X8_dropOld : MI yX8_dropOld := ⟨tb (i := 1004) (by decide +kernel), pb (i := 29) (by decide +kernel)⟩
theorem mk_X8_isFrontOld : MK yX8_isFrontOld cX8_isFrontOld 3 (some .boolean) 2 := ⟨tb (i := 1009) (by decide +kernel), tb (i := 8) (by decide +kernel), by decide +kernel⟩
theorem mi_X8_isFrontOld : MI yX8_isFrontOld := ⟨tb (i := 1008) (by decide +kernel), pb (i := 30) (by decide +kernel)⟩
theorem mk_X4_removeFront : MK yX4_removeFront cX4_removeFront 2 none 1 := ⟨tb (i := 1013) (by decide +kernel), tb (i := 10) (by decide +kernel), by decide +kernel⟩
theorem mi_X4_removeFront : MI yX4_removeFront := ⟨tb (i := 1011) (by decide +kernel), tb (i := 1012) (by decide +kernel)⟩
theorem mk_X4_moveUp : MK yX4_moveUp cX4_moveUp 4 none 2 := ⟨tb (i := 1017) (by decide +kernel), tb (i := 10) (by decide +kernel), by decide +kernel⟩
theorem mi_X4_moveUp : MI yX4_moveUp := ⟨tb (i := 1016) (by decide +kernel), pb (i := 31) (by decide +kernel)⟩
theorem mk_X8_dispatch : MK yX8_dispatch cX8_dispatch 5 (some .int) 1 := ⟨tb (i := 1022) (by decide +kernel), tb (i := 8) (by decide +kernel), by decide +kernel⟩
theorem mi_X8_dispatch : MI yX8_dispatch := ⟨tb (i := 1021) (by decide +kernel), pb (i := 32) (by decide +kernel)⟩
theorem mk_X11_forecast : MK yX11_forecast cX11_forecast 3 (some .int) 2 := ⟨tb (i := 1028) (by decide +kernel), tb (i := 1) (by decide +kernel), by decide +kernel⟩
theorem mi_X11_forecast : MI yX11_forecast := ⟨tb (i := 1026) (by decide +kernel), tb (i := 1027) (by decide +kernel)⟩
theorem mk_X8_copyFrom : MK yX8_copyFrom cX8_copyFrom 2 none 1 := ⟨tb (i := 1032) (by decide +kernel), tb (i := 8) (by decide +kernel), by decide +kernel⟩
theorem mi_X8_copyFrom : MI yX8_copyFrom := ⟨tb (i := 1030) (by decide +kernel), tb (i := 1031) (by decide +kernel)⟩
theorem mk_X4_copyFrom : MK yX4_copyFrom cX4_copyFrom 2 none 1 := ⟨tb (i := 1037) (by decide +kernel), tb (i := 10) (by decide +kernel), by decide +kernel⟩
theorem mi_X4_copyFrom : MI yX4_copyFrom := ⟨tb (i := 1035) (by decide +kernel), tb (i := 1036) (by decide +kernel)⟩
theorem mk_X2_copyFrom : MK yX2_copyFrom cX2_copyFrom 2 none 1 := ⟨tb (i := 1042) (by decide +kernel), tb (i := 11) (by decide +kernel), by decide +kernel⟩
theorem mi_X2_copyFrom : MI yX2_copyFrom := ⟨tb (i := 1040) (by decide +kernel), tb (i := 1041) (by decide +kernel)⟩
theorem mk_X3_copyFrom : MK yX3_copyFrom cX3_copyFrom 2 none 1 := ⟨tb (i := 1047) (by decide +kernel), tb (i := 12) (by decide +kernel), by decide +kernel⟩
theorem mi_X3_copyFrom : MI yX3_copyFrom := ⟨tb (i := 1045) (by decide +kernel), tb (i := 1046) (by decide +kernel)⟩
theorem mk_X11_drainTime : MK yX11_drainTime cX11_drainTime 4 (some .int) 1 := ⟨tb (i := 1052) (by decide +kernel), tb (i := 1) (by decide +kernel), by decide +kernel⟩
theorem mi_X11_drainTime : MI yX11_drainTime := ⟨tb (i := 1050) (by decide +kernel), tb (i := 1051) (by decide +kernel)⟩
theorem mk_X11_sentCost : MK yX11_sentCost cX11_sentCost 2 (some .int) 1 := ⟨tb (i := 1057) (by decide +kernel), tb (i := 1) (by decide +kernel), by decide +kernel⟩
theorem mi_X11_sentCost : MI yX11_sentCost := ⟨tb (i := 1055) (by decide +kernel), tb (i := 1056) (by decide +kernel)⟩
theorem mk_X11_sentCount : MK yX11_sentCount cX11_sentCount 2 (some .int) 1 := ⟨tb (i := 1061) (by decide +kernel), tb (i := 1) (by decide +kernel), by decide +kernel⟩
theorem mi_X11_sentCount : MI yX11_sentCount := ⟨tb (i := 1059) (by decide +kernel), tb (i := 1060) (by decide +kernel)⟩
theorem mk_X11_borrowedCost : MK yX11_borrowedCost cX11_borrowedCost 2 (some .int) 1 := ⟨tb (i := 1065) (by decide +kernel), tb (i := 1) (by decide +kernel), by decide +kernel⟩
theorem mi_X11_borrowedCost : MI yX11_borrowedCost := ⟨tb (i := 1063) (by decide +kernel), tb (i := 1064) (by decide +kernel)⟩
theorem mk_X11_lentCost : MK yX11_lentCost cX11_lentCost 2 (some .int) 1 := ⟨tb (i := 1069) (by decide +kernel), tb (i := 1) (by decide +kernel), by decide +kernel⟩
theorem mi_X11_lentCost : MI yX11_lentCost := ⟨tb (i := 1067) (by decide +kernel), tb (i := 1068) (by decide +kernel)⟩
theorem mk_X11_droppedCount : MK yX11_droppedCount cX11_droppedCount 2 (some .int) 1 := ⟨tb (i := 1073) (by decide +kernel), tb (i := 1) (by decide +kernel), by decide +kernel⟩
theorem mi_X11_droppedCount : MI yX11_droppedCount := ⟨tb (i := 1071) (by decide +kernel), tb (i := 1072) (by decide +kernel)⟩
theorem mk_X11_fairness : MK yX11_fairness cX11_fairness 10 (some .int) 0 := ⟨tb (i := 1077) (by decide +kernel), tb (i := 1) (by decide +kernel), by decide +kernel⟩
theorem mi_X11_fairness : MI yX11_fairness := ⟨tb (i := 1075) (by decide +kernel), tb (i := 1076) (by decide +kernel)⟩
theorem mk_X11_quotient : MK yX11_quotient cX11_quotient 4 (some .long) 2 := ⟨tb (i := 1081) (by decide +kernel), tb (i := 1) (by decide +kernel), by decide +kernel⟩
theorem ms_X11_quotient : MS yX11_quotient := tb (i := 1080) (by decide +kernel)
theorem mk_X11_fairShare : MK yX11_fairShare cX11_fairShare 7 (some .int) 1 := ⟨tb (i := 1086) (by decide +kernel), tb (i := 1) (by decide +kernel), by decide +kernel⟩
theorem mi_X11_fairShare : MI yX11_fairShare := ⟨tb (i := 1084) (by decide +kernel), tb (i := 1085) (by decide +kernel)⟩
theorem mk_X11_mostServed : MK yX11_mostServed cX11_mostServed 3 (some .int) 0 := ⟨tb (i := 1090) (by decide +kernel), tb (i := 1) (by decide +kernel), by decide +kernel⟩
theorem mi_X11_mostServed : MI yX11_mostServed := ⟨tb (i := 1088) (by decide +kernel), tb (i := 1089) (by decide +kernel)⟩
theorem mk_X11_busiestCost : MK yX11_busiestCost cX11_busiestCost 2 (some .int) 1 := ⟨tb (i := 1095) (by decide +kernel), tb (i := 1) (by decide +kernel), by decide +kernel⟩
theorem mi_X11_busiestCost : MI yX11_busiestCost := ⟨tb (i := 1093) (by decide +kernel), tb (i := 1094) (by decide +kernel)⟩
theorem mk_X3_greatestSum : MK yX3_greatestSum cX3_greatestSum 4 (some .int) 1 := ⟨tb (i := 1099) (by decide +kernel), tb (i := 12) (by decide +kernel), by decide +kernel⟩
theorem mi_X3_greatestSum : MI yX3_greatestSum := ⟨tb (i := 1097) (by decide +kernel), tb (i := 1098) (by decide +kernel)⟩
theorem mk_X3_sumSince : MK yX3_sumSince cX3_sumSince 6 (some .int) 2 := ⟨tb (i := 1103) (by decide +kernel), tb (i := 12) (by decide +kernel), by decide +kernel⟩
theorem mi_X3_sumSince : MI yX3_sumSince := ⟨tb (i := 1101) (by decide +kernel), tb (i := 1102) (by decide +kernel)⟩
theorem mk_X11_logCount : MK yX11_logCount cX11_logCount 1 (some .int) 0 := ⟨tb (i := 1108) (by decide +kernel), tb (i := 1) (by decide +kernel), by decide +kernel⟩
theorem mi_X11_logCount : MI yX11_logCount := ⟨tb (i := 1106) (by decide +kernel), tb (i := 1107) (by decide +kernel)⟩
theorem mk_X11_loggedLeaf : MK yX11_loggedLeaf cX11_loggedLeaf 3 (some .int) 1 := ⟨tb (i := 1112) (by decide +kernel), tb (i := 1) (by decide +kernel), by decide +kernel⟩
theorem mi_X11_loggedLeaf : MI yX11_loggedLeaf := ⟨tb (i := 1110) (by decide +kernel), tb (i := 1111) (by decide +kernel)⟩
theorem mk_X11_logEntry : MK yX11_logEntry cX11_logEntry 2 (some .int) 1 := ⟨tb (i := 1116) (by decide +kernel), tb (i := 1) (by decide +kernel), by decide +kernel⟩
theorem mi_X11_logEntry : MI yX11_logEntry := ⟨tb (i := 1115) (by decide +kernel), pb (i := 33) (by decide +kernel)⟩
theorem mk_X11_loggedCost : MK yX11_loggedCost cX11_loggedCost 3 (some .int) 1 := ⟨tb (i := 1120) (by decide +kernel), tb (i := 1) (by decide +kernel), by decide +kernel⟩
theorem mi_X11_loggedCost : MI yX11_loggedCost := ⟨tb (i := 1118) (by decide +kernel), tb (i := 1119) (by decide +kernel)⟩
theorem mk_X11_loggedLender : MK yX11_loggedLender cX11_loggedLender 3 (some .int) 1 := ⟨tb (i := 1124) (by decide +kernel), tb (i := 1) (by decide +kernel), by decide +kernel⟩
theorem mi_X11_loggedLender : MI yX11_loggedLender := ⟨tb (i := 1122) (by decide +kernel), tb (i := 1123) (by decide +kernel)⟩
theorem mk_X11_loggedTime : MK yX11_loggedTime cX11_loggedTime 3 (some .int) 1 := ⟨tb (i := 1128) (by decide +kernel), tb (i := 1) (by decide +kernel), by decide +kernel⟩
theorem mi_X11_loggedTime : MI yX11_loggedTime := ⟨tb (i := 1126) (by decide +kernel), tb (i := 1127) (by decide +kernel)⟩
theorem mk_X11_recentCost : MK yX11_recentCost cX11_recentCost 2 (some .int) 1 := ⟨tb (i := 1132) (by decide +kernel), tb (i := 1) (by decide +kernel), by decide +kernel⟩
theorem mi_X11_recentCost : MI yX11_recentCost := ⟨tb (i := 1130) (by decide +kernel), tb (i := 1131) (by decide +kernel)⟩
theorem mk_X11_setupLength : MK yX11_setupLength cX11_setupLength 1 (some .int) 0 := ⟨tb (i := 1137) (by decide +kernel), tb (i := 1) (by decide +kernel), by decide +kernel⟩
theorem mi_X11_setupLength : MI yX11_setupLength := ⟨tb (i := 1135) (by decide +kernel), tb (i := 1136) (by decide +kernel)⟩
theorem mk_X10_write : MK yX10_write cX10_write 5 none 3 := ⟨tb (i := 1141) (by decide +kernel), tb (i := 7) (by decide +kernel), by decide +kernel⟩
theorem mi_X10_write : MI yX10_write := ⟨tb (i := 1139) (by decide +kernel), tb (i := 1140) (by decide +kernel)⟩
theorem mk_X10_writeNode : MK yX10_writeNode cX10_writeNode 5 none 3 := ⟨tb (i := 1145) (by decide +kernel), tb (i := 7) (by decide +kernel), by decide +kernel⟩
theorem mi_X10_writeNode : MI yX10_writeNode := ⟨tb (i := 1144) (by decide +kernel), pb (i := 34) (by decide +kernel)⟩
theorem mk_X10_putKeyword : MK yX10_putKeyword cX10_putKeyword 4 none 1 := ⟨tb (i := 1149) (by decide +kernel), tb (i := 7) (by decide +kernel), by decide +kernel⟩
theorem mi_X10_putKeyword : MI yX10_putKeyword := ⟨tb (i := 1148) (by decide +kernel), pb (i := 35) (by decide +kernel)⟩
theorem mk_X10_putSpace : MK yX10_putSpace cX10_putSpace 1 none 0 := ⟨tb (i := 1153) (by decide +kernel), tb (i := 7) (by decide +kernel), by decide +kernel⟩
theorem mi_X10_putSpace : MI yX10_putSpace := ⟨tb (i := 1152) (by decide +kernel), pb (i := 36) (by decide +kernel)⟩
theorem mk_X10_put : MK yX10_put cX10_put 2 none 1 := ⟨tb (i := 1157) (by decide +kernel), tb (i := 7) (by decide +kernel), by decide +kernel⟩
theorem mi_X10_put : MI yX10_put := ⟨tb (i := 1156) (by decide +kernel), pb (i := 37) (by decide +kernel)⟩
theorem mk_X10_putName : MK yX10_putName cX10_putName 4 none 1 := ⟨tb (i := 1164) (by decide +kernel), tb (i := 7) (by decide +kernel), by decide +kernel⟩
theorem mi_X10_putName : MI yX10_putName := ⟨tb (i := 1163) (by decide +kernel), pb (i := 38) (by decide +kernel)⟩
theorem mk_X10_canChange : MK yX10_canChange cX10_canChange 1 (some .boolean) 1 := ⟨tb (i := 1169) (by decide +kernel), tb (i := 7) (by decide +kernel), by decide +kernel⟩
theorem ms_X10_canChange : MS yX10_canChange := tb (i := 1168) (by decide +kernel)
theorem mk_X10_putNumber : MK yX10_putNumber cX10_putNumber 3 none 1 := ⟨tb (i := 1175) (by decide +kernel), tb (i := 7) (by decide +kernel), by decide +kernel⟩
theorem mi_X10_putNumber : MI yX10_putNumber := ⟨tb (i := 1174) (by decide +kernel), pb (i := 39) (by decide +kernel)⟩
theorem mk_X10_putSemicolon : MK yX10_putSemicolon cX10_putSemicolon 1 none 0 := ⟨tb (i := 1179) (by decide +kernel), tb (i := 7) (by decide +kernel), by decide +kernel⟩
theorem mi_X10_putSemicolon : MI yX10_putSemicolon := ⟨tb (i := 1178) (by decide +kernel), pb (i := 40) (by decide +kernel)⟩
theorem mk_X10_writeChange : MK yX10_writeChange cX10_writeChange 3 none 2 := ⟨tb (i := 1183) (by decide +kernel), tb (i := 7) (by decide +kernel), by decide +kernel⟩
theorem mi_X10_writeChange : MI yX10_writeChange := ⟨tb (i := 1182) (by decide +kernel), pb (i := 41) (by decide +kernel)⟩
theorem mk_X11_setupByte : MK yX11_setupByte cX11_setupByte 2 (some .int) 1 := ⟨tb (i := 1187) (by decide +kernel), tb (i := 1) (by decide +kernel), by decide +kernel⟩
theorem mi_X11_setupByte : MI yX11_setupByte := ⟨tb (i := 1185) (by decide +kernel), tb (i := 1186) (by decide +kernel)⟩
theorem mk_X11_setRate : MK yX11_setRate cX11_setRate 3 (some .int) 2 := ⟨tb (i := 1191) (by decide +kernel), tb (i := 1) (by decide +kernel), by decide +kernel⟩
theorem mi_X11_setRate : MI yX11_setRate := ⟨tb (i := 1189) (by decide +kernel), tb (i := 1190) (by decide +kernel)⟩
theorem mk_X11_change : MK yX11_change cX11_change 6 (some .int) 3 := ⟨tb (i := 1195) (by decide +kernel), tb (i := 1) (by decide +kernel), by decide +kernel⟩
theorem mi_X11_change : MI yX11_change := ⟨tb (i := 1194) (by decide +kernel), pb (i := 42) (by decide +kernel)⟩
theorem mk_X11_setCeiling : MK yX11_setCeiling cX11_setCeiling 3 (some .int) 2 := ⟨tb (i := 1201) (by decide +kernel), tb (i := 1) (by decide +kernel), by decide +kernel⟩
theorem mi_X11_setCeiling : MI yX11_setCeiling := ⟨tb (i := 1199) (by decide +kernel), tb (i := 1200) (by decide +kernel)⟩
theorem mk_X11_setWeight : MK yX11_setWeight cX11_setWeight 3 (some .int) 2 := ⟨tb (i := 1205) (by decide +kernel), tb (i := 1) (by decide +kernel), by decide +kernel⟩
theorem mi_X11_setWeight : MI yX11_setWeight := ⟨tb (i := 1203) (by decide +kernel), tb (i := 1204) (by decide +kernel)⟩
theorem mk_X11_clearQueue : MK yX11_clearQueue cX11_clearQueue 3 (some .int) 1 := ⟨tb (i := 1209) (by decide +kernel), tb (i := 1) (by decide +kernel), by decide +kernel⟩
theorem mi_X11_clearQueue : MI yX11_clearQueue := ⟨tb (i := 1207) (by decide +kernel), tb (i := 1208) (by decide +kernel)⟩
theorem mk_X11_save : MK yX11_save cX11_save 3 (some .boolean) 1 := ⟨tb (i := 1213) (by decide +kernel), tb (i := 1) (by decide +kernel), by decide +kernel⟩
theorem mi_X11_save : MI yX11_save := ⟨tb (i := 1211) (by decide +kernel), tb (i := 1212) (by decide +kernel)⟩
theorem mk_X11_snapshotAt : MK yX11_snapshotAt cX11_snapshotAt 2 (some (.object "RateLimiter$State")) 1 := ⟨tb (i := 1217) (by decide +kernel), tb (i := 1) (by decide +kernel), by decide +kernel⟩
theorem mi_X11_snapshotAt : MI yX11_snapshotAt := ⟨tb (i := 1216) (by decide +kernel), pb (i := 43) (by decide +kernel)⟩
theorem mk_X11_restore : MK yX11_restore cX11_restore 3 (some .boolean) 1 := ⟨tb (i := 1221) (by decide +kernel), tb (i := 1) (by decide +kernel), by decide +kernel⟩
theorem mi_X11_restore : MI yX11_restore := ⟨tb (i := 1219) (by decide +kernel), tb (i := 1220) (by decide +kernel)⟩
theorem mk_X12_init : MK yX12_init cX12_init 1 none 0 := ⟨tb (i := 1226) (by decide +kernel), tb (i := 13) (by decide +kernel), by decide +kernel⟩
theorem mc_X12_init : MC yX12_init := ⟨tb (i := 1225) (by decide +kernel), rfl⟩
theorem mk_X12_feed : MK yX12_feed cX12_feed 6 (some .int) 5 := ⟨tb (i := 1358) (by decide +kernel), tb (i := 13) (by decide +kernel), by decide +kernel⟩
theorem mi_X12_feed : MI yX12_feed := ⟨tb (i := 1356) (by decide +kernel), tb (i := 1357) (by decide +kernel)⟩
theorem mk_X12_four : MK yX12_four cX12_four 3 none 1 := ⟨tb (i := 1362) (by decide +kernel), tb (i := 13) (by decide +kernel), by decide +kernel⟩
theorem mi_X12_four : MI yX12_four := ⟨tb (i := 1361) (by decide +kernel), pb (i := 44) (by decide +kernel)⟩
theorem mk_X12_truncate : MK yX12_truncate cX12_truncate 2 (some .int) 1 := ⟨tb (i := 1366) (by decide +kernel), tb (i := 13) (by decide +kernel), by decide +kernel⟩
theorem mi_X12_truncate : MI yX12_truncate := ⟨tb (i := 1364) (by decide +kernel), tb (i := 1365) (by decide +kernel)⟩
theorem mk_X12_in : MK yX12_in cX12_in 6 (some .boolean) 3 := ⟨tb (i := 1369) (by decide +kernel), tb (i := 13) (by decide +kernel), by decide +kernel⟩
theorem ms_X12_in : MS yX12_in := tb (i := 1368) (by decide +kernel)
theorem mk_X12_load : MK yX12_load cX12_load 1 (some .int) 0 := ⟨tb (i := 1373) (by decide +kernel), tb (i := 13) (by decide +kernel), by decide +kernel⟩
theorem mi_X12_load : MI yX12_load := ⟨tb (i := 1371) (by decide +kernel), tb (i := 1372) (by decide +kernel)⟩
theorem mk_X12_scans : MK yX12_scans cX12_scans 2 none 0 := ⟨tb (i := 1377) (by decide +kernel), tb (i := 13) (by decide +kernel), by decide +kernel⟩
theorem mi_X12_scans : MI yX12_scans := ⟨tb (i := 1376) (by decide +kernel), pb (i := 45) (by decide +kernel)⟩
theorem mk_X12_isGood : MK yX12_isGood cX12_isGood 1 (some .boolean) 0 := ⟨tb (i := 1381) (by decide +kernel), tb (i := 13) (by decide +kernel), by decide +kernel⟩
theorem mi_X12_isGood : MI yX12_isGood := ⟨tb (i := 1380) (by decide +kernel), pb (i := 46) (by decide +kernel)⟩
theorem mk_X12_byteAt : MK yX12_byteAt cX12_byteAt 2 (some .int) 1 := ⟨tb (i := 1385) (by decide +kernel), tb (i := 13) (by decide +kernel), by decide +kernel⟩
theorem mi_X12_byteAt : MI yX12_byteAt := ⟨tb (i := 1384) (by decide +kernel), pb (i := 47) (by decide +kernel)⟩
theorem mk_X12_isSmall : MK yX12_isSmall cX12_isSmall 1 (some .boolean) 1 := ⟨tb (i := 1388) (by decide +kernel), tb (i := 13) (by decide +kernel), by decide +kernel⟩
theorem ms_X12_isSmall : MS yX12_isSmall := tb (i := 1387) (by decide +kernel)
theorem mk_X12_isDigit : MK yX12_isDigit cX12_isDigit 1 (some .boolean) 1 := ⟨tb (i := 1393) (by decide +kernel), tb (i := 13) (by decide +kernel), by decide +kernel⟩
theorem ms_X12_isDigit : MS yX12_isDigit := tb (i := 1392) (by decide +kernel)
theorem mk_X12_readsStatement : MK yX12_readsStatement cX12_readsStatement 1 none 0 := ⟨tb (i := 1398) (by decide +kernel), tb (i := 13) (by decide +kernel), by decide +kernel⟩
theorem mi_X12_readsStatement : MI yX12_readsStatement := ⟨tb (i := 1397) (by decide +kernel), pb (i := 48) (by decide +kernel)⟩
theorem mk_X12_isWord : MK yX12_isWord cX12_isWord 3 (some .boolean) 1 := ⟨tb (i := 1403) (by decide +kernel), tb (i := 13) (by decide +kernel), by decide +kernel⟩
theorem mi_X12_isWord : MI yX12_isWord := ⟨tb (i := 1402) (by decide +kernel), pb (i := 49) (by decide +kernel)⟩
theorem mk_X12_readsNode : MK yX12_readsNode cX12_readsNode 5 none 0 := ⟨tb (i := 1407) (by decide +kernel), tb (i := 13) (by decide +kernel), by decide +kernel⟩
theorem mi_X12_readsNode : MI yX12_readsNode := ⟨tb (i := 1406) (by decide +kernel), pb (i := 50) (by decide +kernel)⟩
theorem mk_X12_must : MK yX12_must cX12_must 3 none 2 := ⟨tb (i := 1411) (by decide +kernel), tb (i := 13) (by decide +kernel), by decide +kernel⟩
theorem mi_X12_must : MI yX12_must := ⟨tb (i := 1410) (by decide +kernel), pb (i := 51) (by decide +kernel)⟩
theorem mk_X12_isName : MK yX12_isName cX12_isName 1 (some .boolean) 0 := ⟨tb (i := 1415) (by decide +kernel), tb (i := 13) (by decide +kernel), by decide +kernel⟩
theorem mi_X12_isName : MI yX12_isName := ⟨tb (i := 1414) (by decide +kernel), pb (i := 52) (by decide +kernel)⟩
theorem mk_X12_settingHere : MK yX12_settingHere cX12_settingHere 1 (some .int) 0 := ⟨tb (i := 1419) (by decide +kernel), tb (i := 13) (by decide +kernel), by decide +kernel⟩
theorem mi_X12_settingHere : MI yX12_settingHere := ⟨tb (i := 1418) (by decide +kernel), pb (i := 53) (by decide +kernel)⟩
theorem mk_X12_here : MK yX12_here cX12_here 2 (some .int) 0 := ⟨tb (i := 1434) (by decide +kernel), tb (i := 13) (by decide +kernel), by decide +kernel⟩
theorem mi_X12_here : MI yX12_here := ⟨tb (i := 1433) (by decide +kernel), pb (i := 54) (by decide +kernel)⟩
theorem mk_X12_readsParent : MK yX12_readsParent cX12_readsParent 3 none 1 := ⟨tb (i := 1438) (by decide +kernel), tb (i := 13) (by decide +kernel), by decide +kernel⟩
theorem mi_X12_readsParent : MI yX12_readsParent := ⟨tb (i := 1437) (by decide +kernel), pb (i := 55) (by decide +kernel)⟩
theorem mk_X12_readsSetting : MK yX12_readsSetting cX12_readsSetting 5 none 1 := ⟨tb (i := 1442) (by decide +kernel), tb (i := 13) (by decide +kernel), by decide +kernel⟩
theorem mi_X12_readsSetting : MI yX12_readsSetting := ⟨tb (i := 1441) (by decide +kernel), pb (i := 56) (by decide +kernel)⟩
theorem mk_X12_readsNumber : MK yX12_readsNumber cX12_readsNumber 4 (some .int) 2 := ⟨tb (i := 1446) (by decide +kernel), tb (i := 13) (by decide +kernel), by decide +kernel⟩
theorem mi_X12_readsNumber : MI yX12_readsNumber := ⟨tb (i := 1445) (by decide +kernel), pb (i := 57) (by decide +kernel)⟩
theorem mk_X12_readsTimed : MK yX12_readsTimed cX12_readsTimed 5 none 0 := ⟨tb (i := 1450) (by decide +kernel), tb (i := 13) (by decide +kernel), by decide +kernel⟩
theorem mi_X12_readsTimed : MI yX12_readsTimed := ⟨tb (i := 1449) (by decide +kernel), pb (i := 58) (by decide +kernel)⟩
theorem mk_X12_takes : MK yX12_takes cX12_takes 2 none 0 := ⟨tb (i := 1454) (by decide +kernel), tb (i := 13) (by decide +kernel), by decide +kernel⟩
theorem mi_X12_takes : MI yX12_takes := ⟨tb (i := 1453) (by decide +kernel), pb (i := 59) (by decide +kernel)⟩
theorem mk_X12_faultCode : MK yX12_faultCode cX12_faultCode 1 (some .int) 0 := ⟨tb (i := 1458) (by decide +kernel), tb (i := 13) (by decide +kernel), by decide +kernel⟩
theorem mi_X12_faultCode : MI yX12_faultCode := ⟨tb (i := 1456) (by decide +kernel), tb (i := 1457) (by decide +kernel)⟩
theorem mk_X12_faultPosition : MK yX12_faultPosition cX12_faultPosition 1 (some .int) 0 := ⟨tb (i := 1462) (by decide +kernel), tb (i := 13) (by decide +kernel), by decide +kernel⟩
theorem mi_X12_faultPosition : MI yX12_faultPosition := ⟨tb (i := 1460) (by decide +kernel), tb (i := 1461) (by decide +kernel)⟩
theorem mk_X12_nodeCount : MK yX12_nodeCount cX12_nodeCount 1 (some .int) 0 := ⟨tb (i := 1466) (by decide +kernel), tb (i := 13) (by decide +kernel), by decide +kernel⟩
theorem mi_X12_nodeCount : MI yX12_nodeCount := ⟨tb (i := 1464) (by decide +kernel), tb (i := 1465) (by decide +kernel)⟩
theorem mk_X12_nameLetter : MK yX12_nameLetter cX12_nameLetter 3 (some .int) 2 := ⟨tb (i := 1470) (by decide +kernel), tb (i := 13) (by decide +kernel), by decide +kernel⟩
theorem mi_X12_nameLetter : MI yX12_nameLetter := ⟨tb (i := 1468) (by decide +kernel), tb (i := 1469) (by decide +kernel)⟩
theorem mk_X12_isNode : MK yX12_isNode cX12_isNode 2 (some .boolean) 1 := ⟨tb (i := 1474) (by decide +kernel), tb (i := 13) (by decide +kernel), by decide +kernel⟩
theorem mi_X12_isNode : MI yX12_isNode := ⟨tb (i := 1473) (by decide +kernel), pb (i := 60) (by decide +kernel)⟩
theorem mk_X12_letterOf : MK yX12_letterOf cX12_letterOf 6 (some .int) 2 := ⟨tb (i := 1477) (by decide +kernel), tb (i := 13) (by decide +kernel), by decide +kernel⟩
theorem ms_X12_letterOf : MS yX12_letterOf := tb (i := 1476) (by decide +kernel)
theorem mk_X12_lettersOf : MK yX12_lettersOf cX12_lettersOf 5 (some .int) 1 := ⟨tb (i := 1480) (by decide +kernel), tb (i := 13) (by decide +kernel), by decide +kernel⟩
theorem ms_X12_lettersOf : MS yX12_lettersOf := tb (i := 1479) (by decide +kernel)
theorem mk_X12_parent : MK yX12_parent cX12_parent 2 (some .int) 1 := ⟨tb (i := 1484) (by decide +kernel), tb (i := 13) (by decide +kernel), by decide +kernel⟩
theorem mi_X12_parent : MI yX12_parent := ⟨tb (i := 1482) (by decide +kernel), tb (i := 1483) (by decide +kernel)⟩
theorem mk_X12_child : MK yX12_child cX12_child 5 (some .int) 2 := ⟨tb (i := 1488) (by decide +kernel), tb (i := 13) (by decide +kernel), by decide +kernel⟩
theorem mi_X12_child : MI yX12_child := ⟨tb (i := 1486) (by decide +kernel), tb (i := 1487) (by decide +kernel)⟩
theorem mk_X12_isLeaf : MK yX12_isLeaf cX12_isLeaf 2 (some .boolean) 1 := ⟨tb (i := 1492) (by decide +kernel), tb (i := 13) (by decide +kernel), by decide +kernel⟩
theorem mi_X12_isLeaf : MI yX12_isLeaf := ⟨tb (i := 1490) (by decide +kernel), tb (i := 1491) (by decide +kernel)⟩
theorem mk_X12_isBare : MK yX12_isBare cX12_isBare 3 (some .boolean) 1 := ⟨tb (i := 1496) (by decide +kernel), tb (i := 13) (by decide +kernel), by decide +kernel⟩
theorem mi_X12_isBare : MI yX12_isBare := ⟨tb (i := 1495) (by decide +kernel), pb (i := 61) (by decide +kernel)⟩
theorem mk_X12_depth : MK yX12_depth cX12_depth 2 (some .int) 1 := ⟨tb (i := 1500) (by decide +kernel), tb (i := 13) (by decide +kernel), by decide +kernel⟩
theorem mi_X12_depth : MI yX12_depth := ⟨tb (i := 1498) (by decide +kernel), tb (i := 1499) (by decide +kernel)⟩
theorem mk_X12_steps : MK yX12_steps cX12_steps 5 (some .int) 2 := ⟨tb (i := 1504) (by decide +kernel), tb (i := 13) (by decide +kernel), by decide +kernel⟩
theorem mi_X12_steps : MI yX12_steps := ⟨tb (i := 1503) (by decide +kernel), pb (i := 62) (by decide +kernel)⟩
theorem mk_X12_rate : MK yX12_rate cX12_rate 2 (some .int) 1 := ⟨tb (i := 1508) (by decide +kernel), tb (i := 13) (by decide +kernel), by decide +kernel⟩
theorem mi_X12_rate : MI yX12_rate := ⟨tb (i := 1506) (by decide +kernel), tb (i := 1507) (by decide +kernel)⟩
theorem mk_X12_ceiling : MK yX12_ceiling cX12_ceiling 2 (some .int) 1 := ⟨tb (i := 1512) (by decide +kernel), tb (i := 13) (by decide +kernel), by decide +kernel⟩
theorem mi_X12_ceiling : MI yX12_ceiling := ⟨tb (i := 1510) (by decide +kernel), tb (i := 1511) (by decide +kernel)⟩
theorem mk_X12_burst : MK yX12_burst cX12_burst 2 (some .int) 1 := ⟨tb (i := 1516) (by decide +kernel), tb (i := 13) (by decide +kernel), by decide +kernel⟩
theorem mi_X12_burst : MI yX12_burst := ⟨tb (i := 1514) (by decide +kernel), tb (i := 1515) (by decide +kernel)⟩
theorem mk_X12_creditLimit : MK yX12_creditLimit cX12_creditLimit 2 (some .int) 1 := ⟨tb (i := 1520) (by decide +kernel), tb (i := 13) (by decide +kernel), by decide +kernel⟩
theorem mi_X12_creditLimit : MI yX12_creditLimit := ⟨tb (i := 1518) (by decide +kernel), tb (i := 1519) (by decide +kernel)⟩
theorem mk_X12_weight : MK yX12_weight cX12_weight 2 (some .int) 1 := ⟨tb (i := 1524) (by decide +kernel), tb (i := 13) (by decide +kernel), by decide +kernel⟩
theorem mi_X12_weight : MI yX12_weight := ⟨tb (i := 1522) (by decide +kernel), tb (i := 1523) (by decide +kernel)⟩
theorem mk_X12_priority : MK yX12_priority cX12_priority 2 (some .int) 1 := ⟨tb (i := 1528) (by decide +kernel), tb (i := 13) (by decide +kernel), by decide +kernel⟩
theorem mi_X12_priority : MI yX12_priority := ⟨tb (i := 1526) (by decide +kernel), tb (i := 1527) (by decide +kernel)⟩
theorem mk_X12_mayBorrow : MK yX12_mayBorrow cX12_mayBorrow 2 (some .boolean) 1 := ⟨tb (i := 1532) (by decide +kernel), tb (i := 13) (by decide +kernel), by decide +kernel⟩
theorem mi_X12_mayBorrow : MI yX12_mayBorrow := ⟨tb (i := 1530) (by decide +kernel), tb (i := 1531) (by decide +kernel)⟩
theorem mk_X12_isOversubscribed : MK yX12_isOversubscribed cX12_isOversubscribed 4 (some .boolean) 1 := ⟨tb (i := 1536) (by decide +kernel), tb (i := 13) (by decide +kernel), by decide +kernel⟩
theorem mi_X12_isOversubscribed : MI yX12_isOversubscribed := ⟨tb (i := 1534) (by decide +kernel), tb (i := 1535) (by decide +kernel)⟩
theorem mk_X12_pathCeiling : MK yX12_pathCeiling cX12_pathCeiling 4 (some .int) 1 := ⟨tb (i := 1540) (by decide +kernel), tb (i := 13) (by decide +kernel), by decide +kernel⟩
theorem mi_X12_pathCeiling : MI yX12_pathCeiling := ⟨tb (i := 1538) (by decide +kernel), tb (i := 1539) (by decide +kernel)⟩
theorem mk_X12_time : MK yX12_time cX12_time 1 (some .int) 0 := ⟨tb (i := 1544) (by decide +kernel), tb (i := 13) (by decide +kernel), by decide +kernel⟩
theorem mi_X12_time : MI yX12_time := ⟨tb (i := 1542) (by decide +kernel), tb (i := 1543) (by decide +kernel)⟩
theorem mk_X12_tokens : MK yX12_tokens cX12_tokens 2 (some .int) 1 := ⟨tb (i := 1548) (by decide +kernel), tb (i := 13) (by decide +kernel), by decide +kernel⟩
theorem mi_X12_tokens : MI yX12_tokens := ⟨tb (i := 1546) (by decide +kernel), tb (i := 1547) (by decide +kernel)⟩
theorem mk_X12_credit : MK yX12_credit cX12_credit 2 (some .int) 1 := ⟨tb (i := 1552) (by decide +kernel), tb (i := 13) (by decide +kernel), by decide +kernel⟩
theorem mi_X12_credit : MI yX12_credit := ⟨tb (i := 1550) (by decide +kernel), tb (i := 1551) (by decide +kernel)⟩
theorem mk_X12_headroom : MK yX12_headroom cX12_headroom 2 (some .int) 1 := ⟨tb (i := 1556) (by decide +kernel), tb (i := 13) (by decide +kernel), by decide +kernel⟩
theorem mi_X12_headroom : MI yX12_headroom := ⟨tb (i := 1554) (by decide +kernel), tb (i := 1555) (by decide +kernel)⟩
theorem mk_X12_lender : MK yX12_lender cX12_lender 3 (some .int) 2 := ⟨tb (i := 1560) (by decide +kernel), tb (i := 13) (by decide +kernel), by decide +kernel⟩
theorem mi_X12_lender : MI yX12_lender := ⟨tb (i := 1558) (by decide +kernel), tb (i := 1559) (by decide +kernel)⟩
theorem mk_X12_isAsked : MK yX12_isAsked cX12_isAsked 3 (some .boolean) 2 := ⟨tb (i := 1564) (by decide +kernel), tb (i := 13) (by decide +kernel), by decide +kernel⟩
theorem mi_X12_isAsked : MI yX12_isAsked := ⟨tb (i := 1563) (by decide +kernel), pb (i := 63) (by decide +kernel)⟩
theorem mk_X12_lends : MK yX12_lends cX12_lends 4 (some .int) 2 := ⟨tb (i := 1569) (by decide +kernel), tb (i := 13) (by decide +kernel), by decide +kernel⟩
theorem mi_X12_lends : MI yX12_lends := ⟨tb (i := 1568) (by decide +kernel), pb (i := 64) (by decide +kernel)⟩
theorem mk_X12_blocker : MK yX12_blocker cX12_blocker 4 (some .int) 2 := ⟨tb (i := 1573) (by decide +kernel), tb (i := 13) (by decide +kernel), by decide +kernel⟩
theorem mi_X12_blocker : MI yX12_blocker := ⟨tb (i := 1572) (by decide +kernel), pb (i := 65) (by decide +kernel)⟩
theorem mk_X12_greatestCost : MK yX12_greatestCost cX12_greatestCost 4 (some .int) 1 := ⟨tb (i := 1577) (by decide +kernel), tb (i := 13) (by decide +kernel), by decide +kernel⟩
theorem mi_X12_greatestCost : MI yX12_greatestCost := ⟨tb (i := 1575) (by decide +kernel), tb (i := 1576) (by decide +kernel)⟩
theorem mk_X12_acquire : MK yX12_acquire cX12_acquire 4 (some .int) 2 := ⟨tb (i := 1581) (by decide +kernel), tb (i := 13) (by decide +kernel), by decide +kernel⟩
theorem mi_X12_acquire : MI yX12_acquire := ⟨tb (i := 1579) (by decide +kernel), tb (i := 1580) (by decide +kernel)⟩
theorem mk_X12_sends : MK yX12_sends cX12_sends 6 none 3 := ⟨tb (i := 1585) (by decide +kernel), tb (i := 13) (by decide +kernel), by decide +kernel⟩
theorem mi_X12_sends : MI yX12_sends := ⟨tb (i := 1584) (by decide +kernel), pb (i := 66) (by decide +kernel)⟩
theorem mk_X12_logs : MK yX12_logs cX12_logs 5 none 3 := ⟨tb (i := 1589) (by decide +kernel), tb (i := 13) (by decide +kernel), by decide +kernel⟩
theorem mi_X12_logs : MI yX12_logs := ⟨tb (i := 1588) (by decide +kernel), pb (i := 67) (by decide +kernel)⟩
theorem mk_X12_enqueue : MK yX12_enqueue cX12_enqueue 4 (some .int) 2 := ⟨tb (i := 1593) (by decide +kernel), tb (i := 13) (by decide +kernel), by decide +kernel⟩
theorem mi_X12_enqueue : MI yX12_enqueue := ⟨tb (i := 1591) (by decide +kernel), tb (i := 1592) (by decide +kernel)⟩
theorem mk_X12_place : MK yX12_place cX12_place 2 (some .int) 2 := ⟨tb (i := 1596) (by decide +kernel), tb (i := 13) (by decide +kernel), by decide +kernel⟩
theorem ms_X12_place : MS yX12_place := tb (i := 1595) (by decide +kernel)
theorem mk_X12_waitTime : MK yX12_waitTime cX12_waitTime 4 (some .int) 2 := ⟨tb (i := 1600) (by decide +kernel), tb (i := 13) (by decide +kernel), by decide +kernel⟩
theorem mi_X12_waitTime : MI yX12_waitTime := ⟨tb (i := 1598) (by decide +kernel), tb (i := 1599) (by decide +kernel)⟩
theorem mk_X12_copies : MK yX12_copies cX12_copies 4 none 2 := ⟨tb (i := 1604) (by decide +kernel), tb (i := 13) (by decide +kernel), by decide +kernel⟩
theorem mi_X12_copies : MI yX12_copies := ⟨tb (i := 1603) (by decide +kernel), pb (i := 68) (by decide +kernel)⟩
theorem mk_X12_refills : MK yX12_refills cX12_refills 6 none 0 := ⟨tb (i := 1608) (by decide +kernel), tb (i := 13) (by decide +kernel), by decide +kernel⟩
theorem mi_X12_refills : MI yX12_refills := ⟨tb (i := 1607) (by decide +kernel), pb (i := 69) (by decide +kernel)⟩
theorem mk_X12_repeats : MK yX12_repeats cX12_repeats 5 (some .int) 2 := ⟨tb (i := 1612) (by decide +kernel), tb (i := 13) (by decide +kernel), by decide +kernel⟩
theorem mi_X12_repeats : MI yX12_repeats := ⟨tb (i := 1610) (by decide +kernel), tb (i := 1611) (by decide +kernel)⟩
theorem mk_X12_refusal : MK yX12_refusal cX12_refusal 3 (some .int) 2 := ⟨tb (i := 1616) (by decide +kernel), tb (i := 13) (by decide +kernel), by decide +kernel⟩
theorem mi_X12_refusal : MI yX12_refusal := ⟨tb (i := 1614) (by decide +kernel), tb (i := 1615) (by decide +kernel)⟩
theorem mk_X12_blockingNode : MK yX12_blockingNode cX12_blockingNode 3 (some .int) 2 := ⟨tb (i := 1620) (by decide +kernel), tb (i := 13) (by decide +kernel), by decide +kernel⟩
theorem mi_X12_blockingNode : MI yX12_blockingNode := ⟨tb (i := 1618) (by decide +kernel), tb (i := 1619) (by decide +kernel)⟩
theorem mk_X12_queueLength : MK yX12_queueLength cX12_queueLength 2 (some .int) 1 := ⟨tb (i := 1624) (by decide +kernel), tb (i := 13) (by decide +kernel), by decide +kernel⟩
theorem mi_X12_queueLength : MI yX12_queueLength := ⟨tb (i := 1622) (by decide +kernel), tb (i := 1623) (by decide +kernel)⟩
theorem mk_X12_nextLeaf : MK yX12_nextLeaf cX12_nextLeaf 1 (some .int) 0 := ⟨tb (i := 1628) (by decide +kernel), tb (i := 13) (by decide +kernel), by decide +kernel⟩
theorem mi_X12_nextLeaf : MI yX12_nextLeaf := ⟨tb (i := 1626) (by decide +kernel), tb (i := 1627) (by decide +kernel)⟩
theorem mk_X12_chosen : MK yX12_chosen cX12_chosen 3 (some .int) 0 := ⟨tb (i := 1632) (by decide +kernel), tb (i := 13) (by decide +kernel), by decide +kernel⟩
theorem mi_X12_chosen : MI yX12_chosen := ⟨tb (i := 1631) (by decide +kernel), pb (i := 70) (by decide +kernel)⟩
theorem mk_X12_isAhead : MK yX12_isAhead cX12_isAhead 5 (some .boolean) 2 := ⟨tb (i := 1636) (by decide +kernel), tb (i := 13) (by decide +kernel), by decide +kernel⟩
theorem mi_X12_isAhead : MI yX12_isAhead := ⟨tb (i := 1635) (by decide +kernel), pb (i := 71) (by decide +kernel)⟩
theorem mk_X12_queuedCost : MK yX12_queuedCost cX12_queuedCost 4 (some .int) 1 := ⟨tb (i := 1640) (by decide +kernel), tb (i := 13) (by decide +kernel), by decide +kernel⟩
theorem mi_X12_queuedCost : MI yX12_queuedCost := ⟨tb (i := 1638) (by decide +kernel), tb (i := 1639) (by decide +kernel)⟩
theorem mk_X12_requestAt : MK yX12_requestAt cX12_requestAt 3 (some .int) 2 := ⟨tb (i := 1644) (by decide +kernel), tb (i := 13) (by decide +kernel), by decide +kernel⟩
theorem mi_X12_requestAt : MI yX12_requestAt := ⟨tb (i := 1642) (by decide +kernel), tb (i := 1643) (by decide +kernel)⟩
theorem mk_X12_queued : MK yX12_queued cX12_queued 4 (some .int) 3 := ⟨tb (i := 1648) (by decide +kernel), tb (i := 13) (by decide +kernel), by decide +kernel⟩
theorem mi_X12_queued : MI yX12_queued := ⟨tb (i := 1647) (by decide +kernel), pb (i := 72) (by decide +kernel)⟩
theorem mk_X12_costAt : MK yX12_costAt cX12_costAt 3 (some .int) 2 := ⟨tb (i := 1652) (by decide +kernel), tb (i := 13) (by decide +kernel), by decide +kernel⟩
theorem mi_X12_costAt : MI yX12_costAt := ⟨tb (i := 1650) (by decide +kernel), tb (i := 1651) (by decide +kernel)⟩
theorem mk_X12_ageAt : MK yX12_ageAt cX12_ageAt 4 (some .int) 2 := ⟨tb (i := 1656) (by decide +kernel), tb (i := 13) (by decide +kernel), by decide +kernel⟩
theorem mi_X12_ageAt : MI yX12_ageAt := ⟨tb (i := 1654) (by decide +kernel), tb (i := 1655) (by decide +kernel)⟩
theorem mk_X12_advance : MK yX12_advance cX12_advance 4 (some .int) 1 := ⟨tb (i := 1660) (by decide +kernel), tb (i := 13) (by decide +kernel), by decide +kernel⟩
theorem mi_X12_advance : MI yX12_advance := ⟨tb (i := 1658) (by decide +kernel), tb (i := 1659) (by decide +kernel)⟩
theorem mk_X12_mayTick : MK yX12_mayTick cX12_mayTick 2 (some .boolean) 1 := ⟨tb (i := 1664) (by decide +kernel), tb (i := 13) (by decide +kernel), by decide +kernel⟩
theorem mi_X12_mayTick : MI yX12_mayTick := ⟨tb (i := 1663) (by decide +kernel), pb (i := 73) (by decide +kernel)⟩
theorem mk_X12_ticks : MK yX12_ticks cX12_ticks 4 (some .int) 0 := ⟨tb (i := 1669) (by decide +kernel), tb (i := 13) (by decide +kernel), by decide +kernel⟩
theorem mi_X12_ticks : MI yX12_ticks := ⟨tb (i := 1668) (by decide +kernel), pb (i := 74) (by decide +kernel)⟩
theorem mk_X12_timedChanges : MK yX12_timedChanges cX12_timedChanges 2 none 0 := ⟨tb (i := 1673) (by decide +kernel), tb (i := 13) (by decide +kernel), by decide +kernel⟩
theorem mi_X12_timedChanges : MI yX12_timedChanges := ⟨tb (i := 1672) (by decide +kernel), pb (i := 75) (by decide +kernel)⟩
theorem mk_X12_placeOf : MK yX12_placeOf cX12_placeOf 1 (some .int) 1 := ⟨tb (i := 1676) (by decide +kernel), tb (i := 13) (by decide +kernel), by decide +kernel⟩
theorem ms_X12_placeOf : MS yX12_placeOf := tb (i := 1675) (by decide +kernel)
theorem mk_X12_drops : MK yX12_drops cX12_drops 2 none 0 := ⟨tb (i := 1680) (by decide +kernel), tb (i := 13) (by decide +kernel), by decide +kernel⟩
theorem mi_X12_drops : MI yX12_drops := ⟨tb (i := 1679) (by decide +kernel), pb (i := 76) (by decide +kernel)⟩
theorem mk_X12_shifts : MK yX12_shifts cX12_shifts 4 none 1 := ⟨tb (i := 1684) (by decide +kernel), tb (i := 13) (by decide +kernel), by decide +kernel⟩
theorem mi_X12_shifts : MI yX12_shifts := ⟨tb (i := 1683) (by decide +kernel), pb (i := 77) (by decide +kernel)⟩
theorem mk_X12_forecast : MK yX12_forecast cX12_forecast 5 (some .int) 2 := ⟨tb (i := 1688) (by decide +kernel), tb (i := 13) (by decide +kernel), by decide +kernel⟩
theorem mi_X12_forecast : MI yX12_forecast := ⟨tb (i := 1686) (by decide +kernel), tb (i := 1687) (by decide +kernel)⟩
theorem mk_X12_drainTime : MK yX12_drainTime cX12_drainTime 4 (some .int) 1 := ⟨tb (i := 1692) (by decide +kernel), tb (i := 13) (by decide +kernel), by decide +kernel⟩
theorem mi_X12_drainTime : MI yX12_drainTime := ⟨tb (i := 1690) (by decide +kernel), tb (i := 1691) (by decide +kernel)⟩
theorem mk_X12_sentCost : MK yX12_sentCost cX12_sentCost 2 (some .int) 1 := ⟨tb (i := 1696) (by decide +kernel), tb (i := 13) (by decide +kernel), by decide +kernel⟩
theorem mi_X12_sentCost : MI yX12_sentCost := ⟨tb (i := 1694) (by decide +kernel), tb (i := 1695) (by decide +kernel)⟩
theorem mk_X12_sentCount : MK yX12_sentCount cX12_sentCount 2 (some .int) 1 := ⟨tb (i := 1700) (by decide +kernel), tb (i := 13) (by decide +kernel), by decide +kernel⟩
theorem mi_X12_sentCount : MI yX12_sentCount := ⟨tb (i := 1698) (by decide +kernel), tb (i := 1699) (by decide +kernel)⟩
theorem mk_X12_borrowedCost : MK yX12_borrowedCost cX12_borrowedCost 2 (some .int) 1 := ⟨tb (i := 1704) (by decide +kernel), tb (i := 13) (by decide +kernel), by decide +kernel⟩
theorem mi_X12_borrowedCost : MI yX12_borrowedCost := ⟨tb (i := 1702) (by decide +kernel), tb (i := 1703) (by decide +kernel)⟩
theorem mk_X12_lentCost : MK yX12_lentCost cX12_lentCost 2 (some .int) 1 := ⟨tb (i := 1708) (by decide +kernel), tb (i := 13) (by decide +kernel), by decide +kernel⟩
theorem mi_X12_lentCost : MI yX12_lentCost := ⟨tb (i := 1706) (by decide +kernel), tb (i := 1707) (by decide +kernel)⟩
theorem mk_X12_droppedCount : MK yX12_droppedCount cX12_droppedCount 2 (some .int) 1 := ⟨tb (i := 1712) (by decide +kernel), tb (i := 13) (by decide +kernel), by decide +kernel⟩
theorem mi_X12_droppedCount : MI yX12_droppedCount := ⟨tb (i := 1710) (by decide +kernel), tb (i := 1711) (by decide +kernel)⟩
theorem mk_X12_fairness : MK yX12_fairness cX12_fairness 9 (some .int) 0 := ⟨tb (i := 1716) (by decide +kernel), tb (i := 13) (by decide +kernel), by decide +kernel⟩
theorem mi_X12_fairness : MI yX12_fairness := ⟨tb (i := 1714) (by decide +kernel), tb (i := 1715) (by decide +kernel)⟩
theorem mk_X12_fairShare : MK yX12_fairShare cX12_fairShare 6 (some .int) 1 := ⟨tb (i := 1722) (by decide +kernel), tb (i := 13) (by decide +kernel), by decide +kernel⟩
theorem mi_X12_fairShare : MI yX12_fairShare := ⟨tb (i := 1720) (by decide +kernel), tb (i := 1721) (by decide +kernel)⟩
theorem mk_X12_mostServed : MK yX12_mostServed cX12_mostServed 3 (some .int) 0 := ⟨tb (i := 1726) (by decide +kernel), tb (i := 13) (by decide +kernel), by decide +kernel⟩
theorem mi_X12_mostServed : MI yX12_mostServed := ⟨tb (i := 1724) (by decide +kernel), tb (i := 1725) (by decide +kernel)⟩
theorem mk_X12_busiestCost : MK yX12_busiestCost cX12_busiestCost 7 (some .int) 1 := ⟨tb (i := 1730) (by decide +kernel), tb (i := 13) (by decide +kernel), by decide +kernel⟩
theorem mi_X12_busiestCost : MI yX12_busiestCost := ⟨tb (i := 1728) (by decide +kernel), tb (i := 1729) (by decide +kernel)⟩
theorem mk_X12_between : MK yX12_between cX12_between 7 (some .int) 2 := ⟨tb (i := 1734) (by decide +kernel), tb (i := 13) (by decide +kernel), by decide +kernel⟩
theorem mi_X12_between : MI yX12_between := ⟨tb (i := 1733) (by decide +kernel), pb (i := 78) (by decide +kernel)⟩
theorem mk_X12_logCount : MK yX12_logCount cX12_logCount 1 (some .int) 0 := ⟨tb (i := 1738) (by decide +kernel), tb (i := 13) (by decide +kernel), by decide +kernel⟩
theorem mi_X12_logCount : MI yX12_logCount := ⟨tb (i := 1736) (by decide +kernel), tb (i := 1737) (by decide +kernel)⟩
theorem mk_X12_loggedLeaf : MK yX12_loggedLeaf cX12_loggedLeaf 2 (some .int) 1 := ⟨tb (i := 1742) (by decide +kernel), tb (i := 13) (by decide +kernel), by decide +kernel⟩
theorem mi_X12_loggedLeaf : MI yX12_loggedLeaf := ⟨tb (i := 1740) (by decide +kernel), tb (i := 1741) (by decide +kernel)⟩
theorem mk_X12_logged : MK yX12_logged cX12_logged 3 (some .int) 2 := ⟨tb (i := 1746) (by decide +kernel), tb (i := 13) (by decide +kernel), by decide +kernel⟩
theorem mi_X12_logged : MI yX12_logged := ⟨tb (i := 1745) (by decide +kernel), pb (i := 79) (by decide +kernel)⟩
theorem mk_X12_loggedCost : MK yX12_loggedCost cX12_loggedCost 2 (some .int) 1 := ⟨tb (i := 1750) (by decide +kernel), tb (i := 13) (by decide +kernel), by decide +kernel⟩
theorem mi_X12_loggedCost : MI yX12_loggedCost := ⟨tb (i := 1748) (by decide +kernel), tb (i := 1749) (by decide +kernel)⟩
theorem mk_X12_loggedLender : MK yX12_loggedLender cX12_loggedLender 2 (some .int) 1 := ⟨tb (i := 1754) (by decide +kernel), tb (i := 13) (by decide +kernel), by decide +kernel⟩
theorem mi_X12_loggedLender : MI yX12_loggedLender := ⟨tb (i := 1752) (by decide +kernel), tb (i := 1753) (by decide +kernel)⟩
theorem mk_X12_loggedTime : MK yX12_loggedTime cX12_loggedTime 2 (some .int) 1 := ⟨tb (i := 1758) (by decide +kernel), tb (i := 13) (by decide +kernel), by decide +kernel⟩
theorem mi_X12_loggedTime : MI yX12_loggedTime := ⟨tb (i := 1756) (by decide +kernel), tb (i := 1757) (by decide +kernel)⟩
theorem mk_X12_recentCost : MK yX12_recentCost cX12_recentCost 2 (some .int) 1 := ⟨tb (i := 1762) (by decide +kernel), tb (i := 13) (by decide +kernel), by decide +kernel⟩
theorem mi_X12_recentCost : MI yX12_recentCost := ⟨tb (i := 1760) (by decide +kernel), tb (i := 1761) (by decide +kernel)⟩
theorem mk_X12_setupLength : MK yX12_setupLength cX12_setupLength 1 (some .int) 0 := ⟨tb (i := 1767) (by decide +kernel), tb (i := 13) (by decide +kernel), by decide +kernel⟩
theorem mi_X12_setupLength : MI yX12_setupLength := ⟨tb (i := 1765) (by decide +kernel), tb (i := 1766) (by decide +kernel)⟩
theorem mk_X12_writes : MK yX12_writes cX12_writes 2 none 0 := ⟨tb (i := 1771) (by decide +kernel), tb (i := 13) (by decide +kernel), by decide +kernel⟩
theorem mi_X12_writes : MI yX12_writes := ⟨tb (i := 1770) (by decide +kernel), pb (i := 80) (by decide +kernel)⟩
theorem mk_X12_putsNode : MK yX12_putsNode cX12_putsNode 2 none 1 := ⟨tb (i := 1775) (by decide +kernel), tb (i := 13) (by decide +kernel), by decide +kernel⟩
theorem mi_X12_putsNode : MI yX12_putsNode := ⟨tb (i := 1774) (by decide +kernel), pb (i := 81) (by decide +kernel)⟩
theorem mk_X12_putsWord : MK yX12_putsWord cX12_putsWord 4 none 1 := ⟨tb (i := 1779) (by decide +kernel), tb (i := 13) (by decide +kernel), by decide +kernel⟩
theorem mi_X12_putsWord : MI yX12_putsWord := ⟨tb (i := 1778) (by decide +kernel), pb (i := 82) (by decide +kernel)⟩
theorem mk_X12_puts : MK yX12_puts cX12_puts 2 none 1 := ⟨tb (i := 1783) (by decide +kernel), tb (i := 13) (by decide +kernel), by decide +kernel⟩
theorem mi_X12_puts : MI yX12_puts := ⟨tb (i := 1782) (by decide +kernel), pb (i := 83) (by decide +kernel)⟩
theorem mk_X12_putsSpaced : MK yX12_putsSpaced cX12_putsSpaced 3 none 1 := ⟨tb (i := 1787) (by decide +kernel), tb (i := 13) (by decide +kernel), by decide +kernel⟩
theorem mi_X12_putsSpaced : MI yX12_putsSpaced := ⟨tb (i := 1786) (by decide +kernel), pb (i := 84) (by decide +kernel)⟩
theorem mk_X12_putsNumber : MK yX12_putsNumber cX12_putsNumber 3 none 1 := ⟨tb (i := 1791) (by decide +kernel), tb (i := 13) (by decide +kernel), by decide +kernel⟩
theorem mi_X12_putsNumber : MI yX12_putsNumber := ⟨tb (i := 1790) (by decide +kernel), pb (i := 85) (by decide +kernel)⟩
theorem mk_X12_putsTimed : MK yX12_putsTimed cX12_putsTimed 2 none 1 := ⟨tb (i := 1795) (by decide +kernel), tb (i := 13) (by decide +kernel), by decide +kernel⟩
theorem mi_X12_putsTimed : MI yX12_putsTimed := ⟨tb (i := 1794) (by decide +kernel), pb (i := 86) (by decide +kernel)⟩
theorem mk_X12_setupByte : MK yX12_setupByte cX12_setupByte 2 (some .int) 1 := ⟨tb (i := 1799) (by decide +kernel), tb (i := 13) (by decide +kernel), by decide +kernel⟩
theorem mi_X12_setupByte : MI yX12_setupByte := ⟨tb (i := 1797) (by decide +kernel), tb (i := 1798) (by decide +kernel)⟩
theorem mk_X12_setRate : MK yX12_setRate cX12_setRate 3 (some .int) 2 := ⟨tb (i := 1803) (by decide +kernel), tb (i := 13) (by decide +kernel), by decide +kernel⟩
theorem mi_X12_setRate : MI yX12_setRate := ⟨tb (i := 1801) (by decide +kernel), tb (i := 1802) (by decide +kernel)⟩
theorem mk_X12_sets : MK yX12_sets cX12_sets 7 (some .int) 5 := ⟨tb (i := 1807) (by decide +kernel), tb (i := 13) (by decide +kernel), by decide +kernel⟩
theorem mi_X12_sets : MI yX12_sets := ⟨tb (i := 1806) (by decide +kernel), pb (i := 87) (by decide +kernel)⟩
theorem mk_X12_setCeiling : MK yX12_setCeiling cX12_setCeiling 3 (some .int) 2 := ⟨tb (i := 1811) (by decide +kernel), tb (i := 13) (by decide +kernel), by decide +kernel⟩
theorem mi_X12_setCeiling : MI yX12_setCeiling := ⟨tb (i := 1809) (by decide +kernel), tb (i := 1810) (by decide +kernel)⟩
theorem mk_X12_setWeight : MK yX12_setWeight cX12_setWeight 3 (some .int) 2 := ⟨tb (i := 1815) (by decide +kernel), tb (i := 13) (by decide +kernel), by decide +kernel⟩
theorem mi_X12_setWeight : MI yX12_setWeight := ⟨tb (i := 1813) (by decide +kernel), tb (i := 1814) (by decide +kernel)⟩
theorem mk_X12_clearQueue : MK yX12_clearQueue cX12_clearQueue 3 (some .int) 1 := ⟨tb (i := 1819) (by decide +kernel), tb (i := 13) (by decide +kernel), by decide +kernel⟩
theorem mi_X12_clearQueue : MI yX12_clearQueue := ⟨tb (i := 1817) (by decide +kernel), tb (i := 1818) (by decide +kernel)⟩
theorem mk_X12_save : MK yX12_save cX12_save 2 (some .boolean) 1 := ⟨tb (i := 1823) (by decide +kernel), tb (i := 13) (by decide +kernel), by decide +kernel⟩
theorem mi_X12_save : MI yX12_save := ⟨tb (i := 1821) (by decide +kernel), tb (i := 1822) (by decide +kernel)⟩
theorem mk_X12_restore : MK yX12_restore cX12_restore 2 (some .boolean) 1 := ⟨tb (i := 1827) (by decide +kernel), tb (i := 13) (by decide +kernel), by decide +kernel⟩
theorem mi_X12_restore : MI yX12_restore := ⟨tb (i := 1825) (by decide +kernel), tb (i := 1826) (by decide +kernel)⟩
theorem li_L_9 : LK RL 9 yX11_init := tb (i := 23) (by decide +kernel)
theorem li_X11_9 : LN RX11 9 yX9_init "RateLimiter" := nb (i := 31) (by decide +kernel)
theorem li_X11_18 : LN RX11 18 yX5_init "RateLimiter" := nb (i := 47) (by decide +kernel)
theorem li_X5_17 : LN RX5 17 yX7_init "RateLimiter" := nb (i := 53) (by decide +kernel)
theorem li_X7_49 : LN RX7 49 yX1_init "RateLimiter" := nb (i := 59) (by decide +kernel)
theorem li_X5_24 : LN RX5 24 yX6_init "RateLimiter" := nb (i := 180) (by decide +kernel)
theorem li_X11_25 : LN RX11 25 yX10_init "RateLimiter" := nb (i := 247) (by decide +kernel)
theorem li_X11_32 : LN RX11 32 yX7_init "RateLimiter" := nb (i := 267) (by decide +kernel)
theorem li_X11_39 : LN RX11 39 yX8_init "RateLimiter" := nb (i := 270) (by decide +kernel)
theorem li_X8_23 : LN RX8 23 yX0_init "RateLimiter" := nb (i := 276) (by decide +kernel)
theorem li_X8_30 : LN RX8 30 yX4_init "RateLimiter" := nb (i := 298) (by decide +kernel)
theorem li_X8_37 : LN RX8 37 yX2_init "RateLimiter" := nb (i := 327) (by decide +kernel)
theorem li_X8_44 : LN RX8 44 yX3_init "RateLimiter" := nb (i := 356) (by decide +kernel)
theorem li_L_13 : LK RL 13 yX11_feed := tb (i := 444) (by decide +kernel)
theorem li_X11_57 : LK RX11 57 yX9_append := tb (i := 448) (by decide +kernel)
theorem li_L_18 : LK RL 18 yX11_truncate := tb (i := 452) (by decide +kernel)
theorem li_L_23 : LK RL 23 yX11_load := tb (i := 456) (by decide +kernel)
theorem li_X11_61 : LK RX11 61 yX5_read := tb (i := 460) (by decide +kernel)
theorem li_X5_29 : LK RX5 29 yX5_begin := tb (i := 464) (by decide +kernel)
theorem li_X5_52 : LK RX5 52 yX7_clear := tb (i := 468) (by decide +kernel)
theorem li_X5_55 : LK RX5 55 yX6_begin := tb (i := 472) (by decide +kernel)
theorem li_X5_32 : LK RX5 32 yX6_scan := tb (i := 476) (by decide +kernel)
theorem li_X6_15 : LK RX6 15 yX6_skipSpaces := tb (i := 480) (by decide +kernel)
theorem li_X6_25 : LK RX6 25 yX9_byteAt := tb (i := 484) (by decide +kernel)
theorem li_X6_37 : LK RX6 37 yX6_isLetter := tb (i := 488) (by decide +kernel)
theorem li_X6_41 : LK RX6 41 yX6_scanWord := tb (i := 491) (by decide +kernel)
theorem li_X6_54 : LN RX6 54 yX11_withLetter "RateLimiter" := nb (i := 495) (by decide +kernel)
theorem li_X6_58 : LN RX6 58 yX11_keywordOf "RateLimiter" := nb (i := 498) (by decide +kernel)
theorem li_X11_347 : LK RX11 347 yX11_keywordText := tb (i := 501) (by decide +kernel)
theorem li_X11_351 : LK RX11 351 yJ0_length_8abf5 := tb (i := 517) (by decide +kernel)
theorem li_J0_335 : LK RJ0 335 yJ0_coder_7d493 := tb (i := 521) (by decide +kernel)
theorem li_X11_356 : LK RX11 356 yJ0_charAt_5068e := tb (i := 527) (by decide +kernel)
theorem li_J0_492 : LK RJ0 492 yJ0_isLatin1_aae02 := tb (i := 531) (by decide +kernel)
theorem li_J0_495 : LK RJ0 495 yJ1_charAt_3b067 := tb (i := 535) (by decide +kernel)
theorem li_J1_9 : LK RJ1 9 yJ0_checkIndex_df160 := tb (i := 538) (by decide +kernel)
theorem li_J0_1059 : LK RJ0 1059 yJ3_checkIndex_8e157 := tb (i := 543) (by decide +kernel)
theorem li_J0_498 : LK RJ0 498 yJ2_charAt_3b067 := tb (i := 546) (by decide +kernel)
theorem li_J2_67 : LK RJ2 67 yJ2_checkIndex_2214a := tb (i := 549) (by decide +kernel)
theorem li_J2_48 : LK RJ2 48 yJ2_length_9d52b := tb (i := 552) (by decide +kernel)
theorem li_J2_414 : LK RJ2 414 yJ0_checkIndex_df160 := tb (i := 555) (by decide +kernel)
theorem li_J2_71 : LK RJ2 71 yJ2_getChar_3b067 := tb (i := 556) (by decide +kernel)
theorem li_X11_360 : LK RX11 360 yX11_withLetter := tb (i := 565) (by decide +kernel)
theorem li_X6_44 : LK RX6 44 yX6_isDigit := tb (i := 566) (by decide +kernel)
theorem li_X6_47 : LK RX6 47 yX6_scanNumber := tb (i := 569) (by decide +kernel)
theorem li_X5_42 : LK RX5 42 yX5_take := tb (i := 573) (by decide +kernel)
theorem li_X5_60 : LK RX5 60 yX5_takeStatement := tb (i := 577) (by decide +kernel)
theorem li_X5_63 : LK RX5 63 yX5_takeNodeName := tb (i := 581) (by decide +kernel)
theorem li_X5_117 : LK RX5 117 yX5_isName := tb (i := 585) (by decide +kernel)
theorem li_X5_125 : LK RX5 125 yX7_findNode := tb (i := 589) (by decide +kernel)
theorem li_X5_132 : LK RX5 132 yX5_addNode := tb (i := 593) (by decide +kernel)
theorem li_X5_136 : LK RX5 136 yX7_addNode := tb (i := 597) (by decide +kernel)
theorem li_X7_71 : LK RX7 71 yX7_row := tb (i := 601) (by decide +kernel)
theorem li_X5_66 : LK RX5 66 yX5_takeIn := tb (i := 607) (by decide +kernel)
theorem li_X5_69 : LK RX5 69 yX5_takeParentName := tb (i := 611) (by decide +kernel)
theorem li_X5_72 : LK RX5 72 yX5_takeSetting := tb (i := 615) (by decide +kernel)
theorem li_X5_142 : LK RX5 142 yX5_finishNode := tb (i := 619) (by decide +kernel)
theorem li_X5_148 : LK RX5 148 yX7_hasNode := tb (i := 623) (by decide +kernel)
theorem li_X5_75 : LK RX5 75 yX5_takeSettingValue := tb (i := 627) (by decide +kernel)
theorem li_X5_163 : LK RX5 163 yX5_numberFault := tb (i := 631) (by decide +kernel)
theorem li_X5_174 : LN RX5 174 yX11_isInRange "RateLimiter" := nb (i := 635) (by decide +kernel)
theorem li_X5_167 : LK RX5 167 yX7_row := tb (i := 642) (by decide +kernel)
theorem li_X5_78 : LK RX5 78 yX5_takeLimit := tb (i := 643) (by decide +kernel)
theorem li_X5_181 : LK RX5 181 yX5_numberFault_ := tb (i := 647) (by decide +kernel)
theorem li_X5_81 : LK RX5 81 yX5_takeAge := tb (i := 651) (by decide +kernel)
theorem li_X5_84 : LK RX5 84 yX5_takeChangeTime := tb (i := 655) (by decide +kernel)
theorem li_X5_87 : LK RX5 87 yX5_takeChangeName := tb (i := 659) (by decide +kernel)
theorem li_X5_90 : LK RX5 90 yX5_takeChangeSetting := tb (i := 663) (by decide +kernel)
theorem li_X5_93 : LK RX5 93 yX5_takeChangeValue := tb (i := 667) (by decide +kernel)
theorem li_X5_190 : LK RX5 190 yX1_add := tb (i := 671) (by decide +kernel)
theorem li_X5_96 : LK RX5 96 yX5_takeStatementEnd := tb (i := 675) (by decide +kernel)
theorem li_X11_71 : LK RX11 71 yX8_begin := tb (i := 679) (by decide +kernel)
theorem li_X8_56 : LN RX8 56 yX11_copyRow "RateLimiter" := nb (i := 683) (by decide +kernel)
theorem li_X11_235 : LK RX11 235 yJ9_min_7cf53 := tb (i := 686) (by decide +kernel)
theorem li_X8_62 : LK RX8 62 yX0_begin := tb (i := 692) (by decide +kernel)
theorem li_X0_26 : LN RX0 26 yX11_copyRow "RateLimiter" := nb (i := 696) (by decide +kernel)
theorem li_X0_30 : LN RX0 30 yX11_clearRow "RateLimiter" := nb (i := 697) (by decide +kernel)
theorem li_X8_66 : LK RX8 66 yX4_begin := tb (i := 700) (by decide +kernel)
theorem li_X4_24 : LN RX4 24 yX11_clearRow "RateLimiter" := nb (i := 704) (by decide +kernel)
theorem li_X8_68 : LK RX8 68 yX2_begin := tb (i := 705) (by decide +kernel)
theorem li_X2_27 : LN RX2 27 yX11_clearRow "RateLimiter" := nb (i := 709) (by decide +kernel)
theorem li_L_28 : LK RL 28 yX11_faultCode := tb (i := 710) (by decide +kernel)
theorem li_L_32 : LK RL 32 yX11_faultPosition := tb (i := 714) (by decide +kernel)
theorem li_L_36 : LK RL 36 yX11_nodeCount := tb (i := 718) (by decide +kernel)
theorem li_L_40 : LK RL 40 yX11_nameLetter := tb (i := 722) (by decide +kernel)
theorem li_X11_85 : LK RX11 85 yX7_hasNode := tb (i := 726) (by decide +kernel)
theorem li_X11_93 : LK RX11 93 yX11_letterOf := tb (i := 727) (by decide +kernel)
theorem li_L_45 : LK RL 45 yX11_parent := tb (i := 730) (by decide +kernel)
theorem li_L_49 : LK RL 49 yX11_child := tb (i := 734) (by decide +kernel)
theorem li_X11_101 : LK RX11 101 yX7_childOf := tb (i := 738) (by decide +kernel)
theorem li_L_53 : LK RL 53 yX11_isLeaf := tb (i := 742) (by decide +kernel)
theorem li_X11_105 : LK RX11 105 yX7_hasLeaf := tb (i := 746) (by decide +kernel)
theorem li_X7_67 : LK RX7 67 yX7_hasNode := tb (i := 750) (by decide +kernel)
theorem li_L_58 : LK RL 58 yX11_depth := tb (i := 751) (by decide +kernel)
theorem li_L_62 : LK RL 62 yX11_rate := tb (i := 755) (by decide +kernel)
theorem li_L_66 : LK RL 66 yX11_ceiling := tb (i := 759) (by decide +kernel)
theorem li_L_70 : LK RL 70 yX11_burst := tb (i := 763) (by decide +kernel)
theorem li_L_74 : LK RL 74 yX11_creditLimit := tb (i := 767) (by decide +kernel)
theorem li_L_78 : LK RL 78 yX11_weight := tb (i := 771) (by decide +kernel)
theorem li_L_82 : LK RL 82 yX11_priority := tb (i := 775) (by decide +kernel)
theorem li_L_86 : LK RL 86 yX11_mayBorrow := tb (i := 779) (by decide +kernel)
theorem li_L_90 : LK RL 90 yX11_isOversubscribed := tb (i := 783) (by decide +kernel)
theorem li_X11_133 : LK RX11 133 yX8_childrenRate := tb (i := 787) (by decide +kernel)
theorem li_L_94 : LK RL 94 yX11_pathCeiling := tb (i := 791) (by decide +kernel)
theorem li_X11_137 : LK RX11 137 yX8_leastCeiling := tb (i := 795) (by decide +kernel)
theorem li_X8_91 : LK RX8 91 yX7_hasNode := tb (i := 799) (by decide +kernel)
theorem li_X8_95 : LK RX8 95 yJ9_min_7cf53 := tb (i := 800) (by decide +kernel)
theorem li_L_98 : LK RL 98 yX11_time := tb (i := 801) (by decide +kernel)
theorem li_L_102 : LK RL 102 yX11_tokens := tb (i := 805) (by decide +kernel)
theorem li_L_106 : LK RL 106 yX11_credit := tb (i := 809) (by decide +kernel)
theorem li_L_110 : LK RL 110 yX11_headroom := tb (i := 813) (by decide +kernel)
theorem li_L_114 : LK RL 114 yX11_lender := tb (i := 817) (by decide +kernel)
theorem li_X11_158 : LK RX11 158 yX11_isRequest := tb (i := 821) (by decide +kernel)
theorem li_X11_162 : LK RX11 162 yX0_findLender := tb (i := 825) (by decide +kernel)
theorem li_X0_46 : LK RX0 46 yX7_hasNode := tb (i := 829) (by decide +kernel)
theorem li_L_118 : LK RL 118 yX11_greatestCost := tb (i := 830) (by decide +kernel)
theorem li_L_122 : LK RL 122 yX11_acquire := tb (i := 834) (by decide +kernel)
theorem li_X11_166 : LK RX11 166 yX8_send := tb (i := 838) (by decide +kernel)
theorem li_X8_101 : LK RX8 101 yX0_pay := tb (i := 842) (by decide +kernel)
theorem li_X0_43 : LK RX0 43 yJ9_min_7cf53 := tb (i := 846) (by decide +kernel)
theorem li_X8_105 : LK RX8 105 yX2_countSent := tb (i := 847) (by decide +kernel)
theorem li_X8_109 : LK RX8 109 yX3_add := tb (i := 851) (by decide +kernel)
theorem li_X3_32 : LK RX3 32 yX3_putFirst := tb (i := 855) (by decide +kernel)
theorem li_X3_36 : LK RX3 36 yJ9_min_7cf53 := tb (i := 859) (by decide +kernel)
theorem li_X11_170 : LK RX11 170 yX7_distance := tb (i := 860) (by decide +kernel)
theorem li_L_126 : LK RL 126 yX11_enqueue := tb (i := 864) (by decide +kernel)
theorem li_X11_173 : LK RX11 173 yX8_putInQueue := tb (i := 868) (by decide +kernel)
theorem li_X8_113 : LK RX8 113 yX4_isFull := tb (i := 872) (by decide +kernel)
theorem li_X8_119 : LK RX8 119 yX4_put := tb (i := 876) (by decide +kernel)
theorem li_L_130 : LK RL 130 yX11_waitTime := tb (i := 880) (by decide +kernel)
theorem li_X11_176 : LK RX11 176 yX8_ticksUntilLender := tb (i := 884) (by decide +kernel)
theorem li_X8_129 : LK RX8 129 yX8_ticksUntil := tb (i := 888) (by decide +kernel)
theorem li_X8_133 : LK RX8 133 yJ9_max_7cf53 := tb (i := 891) (by decide +kernel)
theorem li_L_134 : LK RL 134 yX11_repeats := tb (i := 894) (by decide +kernel)
theorem li_X11_179 : LK RX11 179 yX0_copyFrom := tb (i := 898) (by decide +kernel)
theorem li_X11_183 : LK RX11 183 yX0_payOften := tb (i := 902) (by decide +kernel)
theorem li_X0_57 : LK RX0 57 yX0_findLender := tb (i := 906) (by decide +kernel)
theorem li_X0_61 : LK RX0 61 yX0_pay := tb (i := 907) (by decide +kernel)
theorem li_L_138 : LK RL 138 yX11_refusal := tb (i := 908) (by decide +kernel)
theorem li_X11_186 : LK RX11 186 yX0_findBlocking := tb (i := 912) (by decide +kernel)
theorem li_L_142 : LK RL 142 yX11_blockingNode := tb (i := 916) (by decide +kernel)
theorem li_L_146 : LK RL 146 yX11_queueLength := tb (i := 920) (by decide +kernel)
theorem li_L_150 : LK RL 150 yX11_nextLeaf := tb (i := 924) (by decide +kernel)
theorem li_X11_197 : LK RX11 197 yX8_chooseLeaf := tb (i := 928) (by decide +kernel)
theorem li_X8_220 : LK RX8 220 yX8_frontDistance := tb (i := 932) (by decide +kernel)
theorem li_X8_213 : LK RX8 213 yX0_findLender := tb (i := 936) (by decide +kernel)
theorem li_X8_228 : LK RX8 228 yX7_distance := tb (i := 937) (by decide +kernel)
theorem li_X8_224 : LK RX8 224 yX8_precedes := tb (i := 938) (by decide +kernel)
theorem li_X8_234 : LK RX8 234 yX8_compareServed := tb (i := 942) (by decide +kernel)
theorem li_X8_240 : LK RX8 240 yJ13_compare_74951 := tb (i := 946) (by decide +kernel)
theorem li_L_154 : LK RL 154 yX11_queuedCost := tb (i := 949) (by decide +kernel)
theorem li_X11_201 : LK RX11 201 yX4_costSum := tb (i := 953) (by decide +kernel)
theorem li_L_158 : LK RL 158 yX11_requestAt := tb (i := 957) (by decide +kernel)
theorem li_X11_205 : LK RX11 205 yX11_queueEntry := tb (i := 961) (by decide +kernel)
theorem li_L_162 : LK RL 162 yX11_costAt := tb (i := 965) (by decide +kernel)
theorem li_L_166 : LK RL 166 yX11_ageAt := tb (i := 969) (by decide +kernel)
theorem li_L_170 : LK RL 170 yX11_advance := tb (i := 973) (by decide +kernel)
theorem li_X11_217 : LK RX11 217 yX11_canAdvance := tb (i := 977) (by decide +kernel)
theorem li_X11_220 : LK RX11 220 yX8_makeTicks := tb (i := 981) (by decide +kernel)
theorem li_X8_149 : LK RX8 149 yX8_makeTick := tb (i := 985) (by decide +kernel)
theorem li_X8_153 : LK RX8 153 yX8_makeChanges := tb (i := 989) (by decide +kernel)
theorem li_X8_180 : LK RX8 180 yX8_row := tb (i := 993) (by decide +kernel)
theorem li_X8_156 : LK RX8 156 yX0_refill := tb (i := 997) (by decide +kernel)
theorem li_X0_34 : LK RX0 34 yJ9_max_7cf53 := tb (i := 1001) (by decide +kernel)
theorem li_X8_159 : LK RX8 159 yX8_dropOld := tb (i := 1002) (by decide +kernel)
theorem li_X8_190 : LK RX8 190 yX8_isFrontOld := tb (i := 1006) (by decide +kernel)
theorem li_X8_194 : LK RX8 194 yX4_removeFront := tb (i := 1010) (by decide +kernel)
theorem li_X4_36 : LK RX4 36 yX4_moveUp := tb (i := 1014) (by decide +kernel)
theorem li_X8_162 : LK RX8 162 yX8_dispatch := tb (i := 1019) (by decide +kernel)
theorem li_X8_207 : LK RX8 207 yX8_chooseLeaf := tb (i := 1023) (by decide +kernel)
theorem li_X8_217 : LK RX8 217 yX8_send := tb (i := 1024) (by decide +kernel)
theorem li_L_174 : LK RL 174 yX11_forecast := tb (i := 1025) (by decide +kernel)
theorem li_X11_223 : LK RX11 223 yX8_copyFrom := tb (i := 1029) (by decide +kernel)
theorem li_X8_72 : LK RX8 72 yX0_copyFrom := tb (i := 1033) (by decide +kernel)
theorem li_X8_76 : LK RX8 76 yX4_copyFrom := tb (i := 1034) (by decide +kernel)
theorem li_X4_32 : LN RX4 32 yX11_copyRow "RateLimiter" := nb (i := 1038) (by decide +kernel)
theorem li_X8_79 : LK RX8 79 yX2_copyFrom := tb (i := 1039) (by decide +kernel)
theorem li_X2_31 : LN RX2 31 yX11_copyRow "RateLimiter" := nb (i := 1043) (by decide +kernel)
theorem li_X8_82 : LK RX8 82 yX3_copyFrom := tb (i := 1044) (by decide +kernel)
theorem li_X3_28 : LN RX3 28 yX11_copyRow "RateLimiter" := nb (i := 1048) (by decide +kernel)
theorem li_L_178 : LK RL 178 yX11_drainTime := tb (i := 1049) (by decide +kernel)
theorem li_X11_240 : LK RX11 240 yX8_makeTick := tb (i := 1053) (by decide +kernel)
theorem li_L_182 : LK RL 182 yX11_sentCost := tb (i := 1054) (by decide +kernel)
theorem li_L_186 : LK RL 186 yX11_sentCount := tb (i := 1058) (by decide +kernel)
theorem li_L_190 : LK RL 190 yX11_borrowedCost := tb (i := 1062) (by decide +kernel)
theorem li_L_194 : LK RL 194 yX11_lentCost := tb (i := 1066) (by decide +kernel)
theorem li_L_198 : LK RL 198 yX11_droppedCount := tb (i := 1070) (by decide +kernel)
theorem li_L_202 : LK RL 202 yX11_fairness := tb (i := 1074) (by decide +kernel)
theorem li_X11_257 : LK RX11 257 yX11_quotient := tb (i := 1079) (by decide +kernel)
theorem li_L_206 : LK RL 206 yX11_fairShare := tb (i := 1083) (by decide +kernel)
theorem li_L_210 : LK RL 210 yX11_mostServed := tb (i := 1087) (by decide +kernel)
theorem li_X11_263 : LK RX11 263 yX8_compareServed := tb (i := 1091) (by decide +kernel)
theorem li_L_214 : LK RL 214 yX11_busiestCost := tb (i := 1092) (by decide +kernel)
theorem li_X11_270 : LK RX11 270 yX3_greatestSum := tb (i := 1096) (by decide +kernel)
theorem li_X3_48 : LK RX3 48 yX3_sumSince := tb (i := 1100) (by decide +kernel)
theorem li_X3_51 : LK RX3 51 yJ9_max_7cf53 := tb (i := 1104) (by decide +kernel)
theorem li_L_218 : LK RL 218 yX11_logCount := tb (i := 1105) (by decide +kernel)
theorem li_L_222 : LK RL 222 yX11_loggedLeaf := tb (i := 1109) (by decide +kernel)
theorem li_X11_278 : LK RX11 278 yX11_logEntry := tb (i := 1113) (by decide +kernel)
theorem li_L_226 : LK RL 226 yX11_loggedCost := tb (i := 1117) (by decide +kernel)
theorem li_L_230 : LK RL 230 yX11_loggedLender := tb (i := 1121) (by decide +kernel)
theorem li_L_234 : LK RL 234 yX11_loggedTime := tb (i := 1125) (by decide +kernel)
theorem li_L_238 : LK RL 238 yX11_recentCost := tb (i := 1129) (by decide +kernel)
theorem li_X11_290 : LK RX11 290 yX3_sumSince := tb (i := 1133) (by decide +kernel)
theorem li_L_242 : LK RL 242 yX11_setupLength := tb (i := 1134) (by decide +kernel)
theorem li_X11_293 : LK RX11 293 yX10_write := tb (i := 1138) (by decide +kernel)
theorem li_X10_30 : LK RX10 30 yX10_writeNode := tb (i := 1142) (by decide +kernel)
theorem li_X10_34 : LK RX10 34 yX10_putKeyword := tb (i := 1146) (by decide +kernel)
theorem li_X10_107 : LK RX10 107 yX10_putSpace := tb (i := 1150) (by decide +kernel)
theorem li_X10_123 : LK RX10 123 yX10_put := tb (i := 1154) (by decide +kernel)
theorem li_X10_110 : LN RX10 110 yX11_keywordText "RateLimiter" := nb (i := 1158) (by decide +kernel)
theorem li_X10_114 : LK RX10 114 yJ0_length_8abf5 := tb (i := 1159) (by decide +kernel)
theorem li_X10_119 : LK RX10 119 yJ0_charAt_5068e := tb (i := 1160) (by decide +kernel)
theorem li_X10_75 : LK RX10 75 yX10_putName := tb (i := 1161) (by decide +kernel)
theorem li_X10_126 : LN RX10 126 yX11_letterOf "RateLimiter" := nb (i := 1165) (by decide +kernel)
theorem li_X10_82 : LK RX10 82 yX7_hasNode := tb (i := 1166) (by decide +kernel)
theorem li_X10_86 : LK RX10 86 yX10_canChange := tb (i := 1167) (by decide +kernel)
theorem li_X10_89 : LK RX10 89 yX8_row := tb (i := 1170) (by decide +kernel)
theorem li_X10_93 : LK RX10 93 yX7_row := tb (i := 1171) (by decide +kernel)
theorem li_X10_41 : LK RX10 41 yX10_putNumber := tb (i := 1172) (by decide +kernel)
theorem li_X10_44 : LK RX10 44 yX10_putSemicolon := tb (i := 1176) (by decide +kernel)
theorem li_X10_67 : LK RX10 67 yX10_writeChange := tb (i := 1180) (by decide +kernel)
theorem li_L_246 : LK RL 246 yX11_setupByte := tb (i := 1184) (by decide +kernel)
theorem li_L_250 : LK RL 250 yX11_setRate := tb (i := 1188) (by decide +kernel)
theorem li_X11_301 : LK RX11 301 yX11_change := tb (i := 1192) (by decide +kernel)
theorem li_X11_309 : LK RX11 309 yX11_isInRange := tb (i := 1196) (by decide +kernel)
theorem li_X11_312 : LK RX11 312 yX8_row := tb (i := 1197) (by decide +kernel)
theorem li_L_254 : LK RL 254 yX11_setCeiling := tb (i := 1198) (by decide +kernel)
theorem li_L_258 : LK RL 258 yX11_setWeight := tb (i := 1202) (by decide +kernel)
theorem li_L_262 : LK RL 262 yX11_clearQueue := tb (i := 1206) (by decide +kernel)
theorem li_L_266 : LK RL 266 yX11_save := tb (i := 1210) (by decide +kernel)
theorem li_X11_305 : LK RX11 305 yX11_snapshotAt := tb (i := 1214) (by decide +kernel)
theorem li_L_270 : LK RL 270 yX11_restore := tb (i := 1218) (by decide +kernel)
theorem li_L_12 : LK RL 12 yX12_init := tb (i := 1224) (by decide +kernel)
theorem li_L_17 : LK RL 17 yX12_feed := tb (i := 1355) (by decide +kernel)
theorem li_X12_105 : LK RX12 105 yX12_four := tb (i := 1359) (by decide +kernel)
theorem li_L_22 : LK RL 22 yX12_truncate := tb (i := 1363) (by decide +kernel)
theorem li_X12_94 : LK RX12 94 yX12_in := tb (i := 1367) (by decide +kernel)
theorem li_L_27 : LK RL 27 yX12_load := tb (i := 1370) (by decide +kernel)
theorem li_X12_179 : LK RX12 179 yX12_scans := tb (i := 1374) (by decide +kernel)
theorem li_X12_112 : LK RX12 112 yX12_isGood := tb (i := 1378) (by decide +kernel)
theorem li_X12_125 : LK RX12 125 yX12_byteAt := tb (i := 1382) (by decide +kernel)
theorem li_X12_136 : LK RX12 136 yX12_isSmall := tb (i := 1386) (by decide +kernel)
theorem li_X12_143 : LK RX12 143 yX12_isDigit := tb (i := 1391) (by decide +kernel)
theorem li_X12_233 : LK RX12 233 yX12_readsStatement := tb (i := 1395) (by decide +kernel)
theorem li_X12_185 : LK RX12 185 yX12_isWord := tb (i := 1400) (by decide +kernel)
theorem li_X12_214 : LK RX12 214 yX12_readsNode := tb (i := 1404) (by decide +kernel)
theorem li_X12_175 : LK RX12 175 yX12_must := tb (i := 1408) (by decide +kernel)
theorem li_X12_189 : LK RX12 189 yX12_isName := tb (i := 1412) (by decide +kernel)
theorem li_X12_161 : LK RX12 161 yX12_settingHere := tb (i := 1416) (by decide +kernel)
theorem li_X12_192 : LK RX12 192 yX12_here := tb (i := 1431) (by decide +kernel)
theorem li_X12_199 : LK RX12 199 yX12_readsParent := tb (i := 1435) (by decide +kernel)
theorem li_X12_202 : LK RX12 202 yX12_readsSetting := tb (i := 1439) (by decide +kernel)
theorem li_X12_195 : LK RX12 195 yX12_readsNumber := tb (i := 1443) (by decide +kernel)
theorem li_X12_230 : LK RX12 230 yX12_readsTimed := tb (i := 1447) (by decide +kernel)
theorem li_X12_236 : LK RX12 236 yX12_takes := tb (i := 1451) (by decide +kernel)
theorem li_L_31 : LK RL 31 yX12_faultCode := tb (i := 1455) (by decide +kernel)
theorem li_L_35 : LK RL 35 yX12_faultPosition := tb (i := 1459) (by decide +kernel)
theorem li_L_39 : LK RL 39 yX12_nodeCount := tb (i := 1463) (by decide +kernel)
theorem li_L_44 : LK RL 44 yX12_nameLetter := tb (i := 1467) (by decide +kernel)
theorem li_X12_98 : LK RX12 98 yX12_isNode := tb (i := 1471) (by decide +kernel)
theorem li_X12_243 : LK RX12 243 yX12_letterOf := tb (i := 1475) (by decide +kernel)
theorem li_X12_239 : LK RX12 239 yX12_lettersOf := tb (i := 1478) (by decide +kernel)
theorem li_L_48 : LK RL 48 yX12_parent := tb (i := 1481) (by decide +kernel)
theorem li_L_52 : LK RL 52 yX12_child := tb (i := 1485) (by decide +kernel)
theorem li_L_57 : LK RL 57 yX12_isLeaf := tb (i := 1489) (by decide +kernel)
theorem li_X12_247 : LK RX12 247 yX12_isBare := tb (i := 1493) (by decide +kernel)
theorem li_L_61 : LK RL 61 yX12_depth := tb (i := 1497) (by decide +kernel)
theorem li_X12_250 : LK RX12 250 yX12_steps := tb (i := 1501) (by decide +kernel)
theorem li_L_65 : LK RL 65 yX12_rate := tb (i := 1505) (by decide +kernel)
theorem li_L_69 : LK RL 69 yX12_ceiling := tb (i := 1509) (by decide +kernel)
theorem li_L_73 : LK RL 73 yX12_burst := tb (i := 1513) (by decide +kernel)
theorem li_L_77 : LK RL 77 yX12_creditLimit := tb (i := 1517) (by decide +kernel)
theorem li_L_81 : LK RL 81 yX12_weight := tb (i := 1521) (by decide +kernel)
theorem li_L_85 : LK RL 85 yX12_priority := tb (i := 1525) (by decide +kernel)
theorem li_L_89 : LK RL 89 yX12_mayBorrow := tb (i := 1529) (by decide +kernel)
theorem li_L_93 : LK RL 93 yX12_isOversubscribed := tb (i := 1533) (by decide +kernel)
theorem li_L_97 : LK RL 97 yX12_pathCeiling := tb (i := 1537) (by decide +kernel)
theorem li_L_101 : LK RL 101 yX12_time := tb (i := 1541) (by decide +kernel)
theorem li_L_105 : LK RL 105 yX12_tokens := tb (i := 1545) (by decide +kernel)
theorem li_L_109 : LK RL 109 yX12_credit := tb (i := 1549) (by decide +kernel)
theorem li_L_113 : LK RL 113 yX12_headroom := tb (i := 1553) (by decide +kernel)
theorem li_L_117 : LK RL 117 yX12_lender := tb (i := 1557) (by decide +kernel)
theorem li_X12_262 : LK RX12 262 yX12_isAsked := tb (i := 1561) (by decide +kernel)
theorem li_X12_266 : LK RX12 266 yX12_lends := tb (i := 1566) (by decide +kernel)
theorem li_X12_255 : LK RX12 255 yX12_blocker := tb (i := 1570) (by decide +kernel)
theorem li_L_121 : LK RL 121 yX12_greatestCost := tb (i := 1574) (by decide +kernel)
theorem li_L_125 : LK RL 125 yX12_acquire := tb (i := 1578) (by decide +kernel)
theorem li_X12_269 : LK RX12 269 yX12_sends := tb (i := 1582) (by decide +kernel)
theorem li_X12_258 : LK RX12 258 yX12_logs := tb (i := 1586) (by decide +kernel)
theorem li_L_129 : LK RL 129 yX12_enqueue := tb (i := 1590) (by decide +kernel)
theorem li_X12_272 : LK RX12 272 yX12_place := tb (i := 1594) (by decide +kernel)
theorem li_L_133 : LK RL 133 yX12_waitTime := tb (i := 1597) (by decide +kernel)
theorem li_X12_275 : LK RX12 275 yX12_copies := tb (i := 1601) (by decide +kernel)
theorem li_X12_279 : LK RX12 279 yX12_refills := tb (i := 1605) (by decide +kernel)
theorem li_L_137 : LK RL 137 yX12_repeats := tb (i := 1609) (by decide +kernel)
theorem li_L_141 : LK RL 141 yX12_refusal := tb (i := 1613) (by decide +kernel)
theorem li_L_145 : LK RL 145 yX12_blockingNode := tb (i := 1617) (by decide +kernel)
theorem li_L_149 : LK RL 149 yX12_queueLength := tb (i := 1621) (by decide +kernel)
theorem li_L_153 : LK RL 153 yX12_nextLeaf := tb (i := 1625) (by decide +kernel)
theorem li_X12_285 : LK RX12 285 yX12_chosen := tb (i := 1629) (by decide +kernel)
theorem li_X12_282 : LK RX12 282 yX12_isAhead := tb (i := 1633) (by decide +kernel)
theorem li_L_157 : LK RL 157 yX12_queuedCost := tb (i := 1637) (by decide +kernel)
theorem li_L_161 : LK RL 161 yX12_requestAt := tb (i := 1641) (by decide +kernel)
theorem li_X12_288 : LK RX12 288 yX12_queued := tb (i := 1645) (by decide +kernel)
theorem li_L_165 : LK RL 165 yX12_costAt := tb (i := 1649) (by decide +kernel)
theorem li_L_169 : LK RL 169 yX12_ageAt := tb (i := 1653) (by decide +kernel)
theorem li_L_173 : LK RL 173 yX12_advance := tb (i := 1657) (by decide +kernel)
theorem li_X12_303 : LK RX12 303 yX12_mayTick := tb (i := 1661) (by decide +kernel)
theorem li_X12_306 : LK RX12 306 yX12_ticks := tb (i := 1666) (by decide +kernel)
theorem li_X12_295 : LK RX12 295 yX12_timedChanges := tb (i := 1670) (by decide +kernel)
theorem li_X12_211 : LK RX12 211 yX12_placeOf := tb (i := 1674) (by decide +kernel)
theorem li_X12_298 : LK RX12 298 yX12_drops := tb (i := 1677) (by decide +kernel)
theorem li_X12_292 : LK RX12 292 yX12_shifts := tb (i := 1681) (by decide +kernel)
theorem li_L_177 : LK RL 177 yX12_forecast := tb (i := 1685) (by decide +kernel)
theorem li_L_181 : LK RL 181 yX12_drainTime := tb (i := 1689) (by decide +kernel)
theorem li_L_185 : LK RL 185 yX12_sentCost := tb (i := 1693) (by decide +kernel)
theorem li_L_189 : LK RL 189 yX12_sentCount := tb (i := 1697) (by decide +kernel)
theorem li_L_193 : LK RL 193 yX12_borrowedCost := tb (i := 1701) (by decide +kernel)
theorem li_L_197 : LK RL 197 yX12_lentCost := tb (i := 1705) (by decide +kernel)
theorem li_L_201 : LK RL 201 yX12_droppedCount := tb (i := 1709) (by decide +kernel)
theorem li_L_205 : LK RL 205 yX12_fairness := tb (i := 1713) (by decide +kernel)
theorem li_L_209 : LK RL 209 yX12_fairShare := tb (i := 1719) (by decide +kernel)
theorem li_L_213 : LK RL 213 yX12_mostServed := tb (i := 1723) (by decide +kernel)
theorem li_L_217 : LK RL 217 yX12_busiestCost := tb (i := 1727) (by decide +kernel)
theorem li_X12_313 : LK RX12 313 yX12_between := tb (i := 1731) (by decide +kernel)
theorem li_L_221 : LK RL 221 yX12_logCount := tb (i := 1735) (by decide +kernel)
theorem li_L_225 : LK RL 225 yX12_loggedLeaf := tb (i := 1739) (by decide +kernel)
theorem li_X12_317 : LK RX12 317 yX12_logged := tb (i := 1743) (by decide +kernel)
theorem li_L_229 : LK RL 229 yX12_loggedCost := tb (i := 1747) (by decide +kernel)
theorem li_L_233 : LK RL 233 yX12_loggedLender := tb (i := 1751) (by decide +kernel)
theorem li_L_237 : LK RL 237 yX12_loggedTime := tb (i := 1755) (by decide +kernel)
theorem li_L_241 : LK RL 241 yX12_recentCost := tb (i := 1759) (by decide +kernel)
theorem li_L_245 : LK RL 245 yX12_setupLength := tb (i := 1764) (by decide +kernel)
theorem li_X12_344 : LK RX12 344 yX12_writes := tb (i := 1768) (by decide +kernel)
theorem li_X12_338 : LK RX12 338 yX12_putsNode := tb (i := 1772) (by decide +kernel)
theorem li_X12_328 : LK RX12 328 yX12_putsWord := tb (i := 1776) (by decide +kernel)
theorem li_X12_325 : LK RX12 325 yX12_puts := tb (i := 1780) (by decide +kernel)
theorem li_X12_332 : LK RX12 332 yX12_putsSpaced := tb (i := 1784) (by decide +kernel)
theorem li_X12_335 : LK RX12 335 yX12_putsNumber := tb (i := 1788) (by decide +kernel)
theorem li_X12_341 : LK RX12 341 yX12_putsTimed := tb (i := 1792) (by decide +kernel)
theorem li_L_249 : LK RL 249 yX12_setupByte := tb (i := 1796) (by decide +kernel)
theorem li_L_253 : LK RL 253 yX12_setRate := tb (i := 1800) (by decide +kernel)
theorem li_X12_347 : LK RX12 347 yX12_sets := tb (i := 1804) (by decide +kernel)
theorem li_L_257 : LK RL 257 yX12_setCeiling := tb (i := 1808) (by decide +kernel)
theorem li_L_261 : LK RL 261 yX12_setWeight := tb (i := 1812) (by decide +kernel)
theorem li_L_265 : LK RL 265 yX12_clearQueue := tb (i := 1816) (by decide +kernel)
theorem li_L_269 : LK RL 269 yX12_save := tb (i := 1820) (by decide +kernel)
theorem li_L_273 : LK RL 273 yX12_restore := tb (i := 1824) (by decide +kernel)
theorem in_RateLimiterLaw : Cond.initialized "RateLimiterLaw" ∈ gwt := tb (i := 0) (by decide +kernel)
theorem in_RateLimiter : Cond.initialized "RateLimiter" ∈ gwt := tb (i := 1) (by decide +kernel)
theorem in_RateLimiter_Text : Cond.initialized "RateLimiter$Text" ∈ gwt := tb (i := 2) (by decide +kernel)
theorem in_RateLimiter_Reader : Cond.initialized "RateLimiter$Reader" ∈ gwt := tb (i := 3) (by decide +kernel)
theorem in_RateLimiter_Setup : Cond.initialized "RateLimiter$Setup" ∈ gwt := tb (i := 4) (by decide +kernel)
theorem in_RateLimiter_Changes : Cond.initialized "RateLimiter$Changes" ∈ gwt := tb (i := 5) (by decide +kernel)
theorem in_RateLimiter_Scanner : Cond.initialized "RateLimiter$Scanner" ∈ gwt := tb (i := 6) (by decide +kernel)
theorem in_RateLimiter_Writer : Cond.initialized "RateLimiter$Writer" ∈ gwt := tb (i := 7) (by decide +kernel)
theorem in_RateLimiter_State : Cond.initialized "RateLimiter$State" ∈ gwt := tb (i := 8) (by decide +kernel)
theorem in_RateLimiter_Accounts : Cond.initialized "RateLimiter$Accounts" ∈ gwt := tb (i := 9) (by decide +kernel)
theorem in_RateLimiter_Queues : Cond.initialized "RateLimiter$Queues" ∈ gwt := tb (i := 10) (by decide +kernel)
theorem in_RateLimiter_Counts : Cond.initialized "RateLimiter$Counts" ∈ gwt := tb (i := 11) (by decide +kernel)
theorem in_RateLimiter_Log : Cond.initialized "RateLimiter$Log" ∈ gwt := tb (i := 12) (by decide +kernel)
theorem in_RateLimiterModel : Cond.initialized "RateLimiterModel" ∈ gwt := tb (i := 13) (by decide +kernel)
theorem in_java_lang_String : Cond.initialized "java/lang/String" ∈ gwt := tb (i := 14) (by decide +kernel)
theorem in_java_lang_StringLatin1 : Cond.initialized "java/lang/StringLatin1" ∈ gwt := tb (i := 15) (by decide +kernel)
theorem in_jdk_internal_util_Preconditions : Cond.initialized "jdk/internal/util/Preconditions" ∈ gwt := tb (i := 16) (by decide +kernel)
theorem in_java_lang_StringUTF16 : Cond.initialized "java/lang/StringUTF16" ∈ gwt := tb (i := 17) (by decide +kernel)
theorem in_java_lang_Math : Cond.initialized "java/lang/Math" ∈ gwt := tb (i := 18) (by decide +kernel)
theorem in_java_lang_System : Cond.initialized "java/lang/System" ∈ gwt := tb (i := 19) (by decide +kernel)
theorem in_java_lang_Long : Cond.initialized "java/lang/Long" ∈ gwt := tb (i := 20) (by decide +kernel)
theorem cl_L_7 : Cond.classLink RL 7 RX11 ∈ gwt := tb (i := 21) (by decide +kernel)
theorem is_X11 : Cond.instantiable RX11 8 ∈ gwt := tb (i := 22) (by decide +kernel)
theorem cl_X11_7 : Cond.classLink RX11 7 RX9 ∈ gwt := tb (i := 29) (by decide +kernel)
theorem is_X9 : Cond.instantiable RX9 2 ∈ gwt := tb (i := 30) (by decide +kernel)
theorem ac_byte : Cond.arrayClass .byte ∈ gwt := tb (i := 44) (by decide +kernel)
theorem cl_X11_16 : Cond.classLink RX11 16 RX5 ∈ gwt := tb (i := 45) (by decide +kernel)
theorem is_X5 : Cond.instantiable RX5 11 ∈ gwt := tb (i := 46) (by decide +kernel)
theorem cl_X5_15 : Cond.classLink RX5 15 RX7 ∈ gwt := tb (i := 51) (by decide +kernel)
theorem is_X7 : Cond.instantiable RX7 15 ∈ gwt := tb (i := 52) (by decide +kernel)
theorem cl_X7_47 : Cond.classLink RX7 47 RX1 ∈ gwt := tb (i := 57) (by decide +kernel)
theorem is_X1 : Cond.instantiable RX1 5 ∈ gwt := tb (i := 58) (by decide +kernel)
theorem ac_long : Cond.arrayClass .long ∈ gwt := tb (i := 91) (by decide +kernel)
theorem ac_int : Cond.arrayClass .int ∈ gwt := tb (i := 92) (by decide +kernel)
theorem ac_boolean : Cond.arrayClass .boolean ∈ gwt := tb (i := 93) (by decide +kernel)
theorem cl_X5_22 : Cond.classLink RX5 22 RX6 ∈ gwt := tb (i := 178) (by decide +kernel)
theorem is_X6 : Cond.instantiable RX6 6 ∈ gwt := tb (i := 179) (by decide +kernel)
theorem cl_X11_23 : Cond.classLink RX11 23 RX10 ∈ gwt := tb (i := 245) (by decide +kernel)
theorem is_X10 : Cond.instantiable RX10 4 ∈ gwt := tb (i := 246) (by decide +kernel)
theorem cl_X11_30 : Cond.classLink RX11 30 RX7 ∈ gwt := tb (i := 266) (by decide +kernel)
theorem cl_X11_37 : Cond.classLink RX11 37 RX8 ∈ gwt := tb (i := 268) (by decide +kernel)
theorem is_X8 : Cond.instantiable RX8 9 ∈ gwt := tb (i := 269) (by decide +kernel)
theorem cl_X8_21 : Cond.classLink RX8 21 RX0 ∈ gwt := tb (i := 274) (by decide +kernel)
theorem is_X0 : Cond.instantiable RX0 3 ∈ gwt := tb (i := 275) (by decide +kernel)
theorem cl_X8_28 : Cond.classLink RX8 28 RX4 ∈ gwt := tb (i := 296) (by decide +kernel)
theorem is_X4 : Cond.instantiable RX4 5 ∈ gwt := tb (i := 297) (by decide +kernel)
theorem cl_X8_35 : Cond.classLink RX8 35 RX2 ∈ gwt := tb (i := 325) (by decide +kernel)
theorem is_X2 : Cond.instantiable RX2 5 ∈ gwt := tb (i := 326) (by decide +kernel)
theorem cl_X8_42 : Cond.classLink RX8 42 RX3 ∈ gwt := tb (i := 354) (by decide +kernel)
theorem is_X3 : Cond.instantiable RX3 5 ∈ gwt := tb (i := 355) (by decide +kernel)
theorem k2_X11_255 : Cond.constantLong RX11 255 (10) ∈ gwt := tb (i := 1078) (by decide +kernel)
theorem k2_X11_261 : Cond.constantLong RX11 261 (1000) ∈ gwt := tb (i := 1082) (by decide +kernel)
theorem cl_L_10 : Cond.classLink RL 10 RX12 ∈ gwt := tb (i := 1222) (by decide +kernel)
theorem is_X12 : Cond.instantiable RX12 42 ∈ gwt := tb (i := 1223) (by decide +kernel)
theorem k2_X12_139 : Cond.constantLong RX12 139 (32) ∈ gwt := tb (i := 1389) (by decide +kernel)
theorem k2_X12_141 : Cond.constantLong RX12 141 (96) ∈ gwt := tb (i := 1390) (by decide +kernel)
theorem k1_X12_146 : Cond.constant RX12 146 (99999) ∈ gwt := tb (i := 1394) (by decide +kernel)
theorem k2_X12_165 : Cond.constantLong RX12 165 (474245) ∈ gwt := tb (i := 1399) (by decide +kernel)
theorem k2_X12_147 : Cond.constantLong RX12 147 (591493) ∈ gwt := tb (i := 1420) (by decide +kernel)
theorem k2_X12_149 : Cond.constantLong RX12 149 (3398837703) ∈ gwt := tb (i := 1421) (by decide +kernel)
theorem k2_X12_151 : Cond.constantLong RX12 151 (2804340) ∈ gwt := tb (i := 1422) (by decide +kernel)
theorem k2_X12_153 : Cond.constantLong RX12 153 (119705908) ∈ gwt := tb (i := 1423) (by decide +kernel)
theorem k2_X12_155 : Cond.constantLong RX12 155 (777297172) ∈ gwt := tb (i := 1424) (by decide +kernel)
theorem k2_X12_157 : Cond.constantLong RX12 157 (569401484953) ∈ gwt := tb (i := 1425) (by decide +kernel)
theorem k2_X12_159 : Cond.constantLong RX12 159 (1457605) ∈ gwt := tb (i := 1426) (by decide +kernel)
theorem k2_X12_167 : Cond.constantLong RX12 167 (302) ∈ gwt := tb (i := 1427) (by decide +kernel)
theorem k2_X12_169 : Cond.constantLong RX12 169 (12891444) ∈ gwt := tb (i := 1428) (by decide +kernel)
theorem k2_X12_171 : Cond.constantLong RX12 171 (1253) ∈ gwt := tb (i := 1429) (by decide +kernel)
theorem k2_X12_173 : Cond.constantLong RX12 173 (52) ∈ gwt := tb (i := 1430) (by decide +kernel)
theorem k2_X12_253 : Cond.constantLong RX12 253 (99) ∈ gwt := tb (i := 1565) (by decide +kernel)
theorem k2_X12_301 : Cond.constantLong RX12 301 (500) ∈ gwt := tb (i := 1665) (by decide +kernel)
theorem k2_X12_309 : Cond.constantLong RX12 309 (10) ∈ gwt := tb (i := 1717) (by decide +kernel)
theorem k2_X12_311 : Cond.constantLong RX12 311 (1000) ∈ gwt := tb (i := 1718) (by decide +kernel)
theorem k2_X12_320 : Cond.constantLong RX12 320 (5000) ∈ gwt := tb (i := 1763) (by decide +kernel)
theorem oi_X11_1 : Cond.methodLink RX11 1 objectInit ∈ gwt := tb (i := 26) (by decide +kernel)
theorem oi_X9_3 : Cond.methodLink RX9 3 objectInit ∈ gwt := tb (i := 34) (by decide +kernel)
theorem oi_X5_3 : Cond.methodLink RX5 3 objectInit ∈ gwt := tb (i := 50) (by decide +kernel)
theorem oi_X7_3 : Cond.methodLink RX7 3 objectInit ∈ gwt := tb (i := 56) (by decide +kernel)
theorem oi_X1_3 : Cond.methodLink RX1 3 objectInit ∈ gwt := tb (i := 62) (by decide +kernel)
theorem oi_X6_3 : Cond.methodLink RX6 3 objectInit ∈ gwt := tb (i := 183) (by decide +kernel)
theorem oi_X10_3 : Cond.methodLink RX10 3 objectInit ∈ gwt := tb (i := 250) (by decide +kernel)
theorem oi_X8_3 : Cond.methodLink RX8 3 objectInit ∈ gwt := tb (i := 273) (by decide +kernel)
theorem oi_X0_3 : Cond.methodLink RX0 3 objectInit ∈ gwt := tb (i := 279) (by decide +kernel)
theorem oi_X4_3 : Cond.methodLink RX4 3 objectInit ∈ gwt := tb (i := 301) (by decide +kernel)
theorem oi_X2_3 : Cond.methodLink RX2 3 objectInit ∈ gwt := tb (i := 330) (by decide +kernel)
theorem oi_X3_3 : Cond.methodLink RX3 3 objectInit ∈ gwt := tb (i := 359) (by decide +kernel)
theorem mm_X11_235 : Cond.methodLink RX11 235 Lib.Math.min.name ∈ gwt := tb (i := 686) (by decide +kernel)
theorem ay_X11_322 : Cond.methodLink RX11 322 arraycopyName ∈ gwt := tb (i := 689) (by decide +kernel)
theorem mm_X8_95 : Cond.methodLink RX8 95 Lib.Math.min.name ∈ gwt := tb (i := 800) (by decide +kernel)
theorem mm_X0_43 : Cond.methodLink RX0 43 Lib.Math.min.name ∈ gwt := tb (i := 846) (by decide +kernel)
theorem ay_X3_42 : Cond.methodLink RX3 42 arraycopyName ∈ gwt := tb (i := 858) (by decide +kernel)
theorem mm_X3_36 : Cond.methodLink RX3 36 Lib.Math.min.name ∈ gwt := tb (i := 859) (by decide +kernel)
theorem mm_X8_133 : Cond.methodLink RX8 133 Lib.Math.max.name ∈ gwt := tb (i := 891) (by decide +kernel)
theorem mm_X0_34 : Cond.methodLink RX0 34 Lib.Math.max.name ∈ gwt := tb (i := 1001) (by decide +kernel)
theorem ay_X4_40 : Cond.methodLink RX4 40 arraycopyName ∈ gwt := tb (i := 1018) (by decide +kernel)
theorem mm_X3_51 : Cond.methodLink RX3 51 Lib.Math.max.name ∈ gwt := tb (i := 1104) (by decide +kernel)
theorem oi_X12_1 : Cond.methodLink RX12 1 objectInit ∈ gwt := tb (i := 1227) (by decide +kernel)
theorem mm_s_min : Cond.static Lib.Math.min.name ∈ gwt := tb (i := 687) (by decide +kernel)
theorem mm_c_min : Cond.code Lib.Math.min.name Lib.Math.min.code 2 (some .int) ∈ gwt := tb (i := 688) (by decide +kernel)
theorem mm_s_max : Cond.static Lib.Math.max.name ∈ gwt := tb (i := 892) (by decide +kernel)
theorem mm_c_max : Cond.code Lib.Math.max.name Lib.Math.max.code 2 (some .int) ∈ gwt := tb (i := 893) (by decide +kernel)
theorem ay_s : Cond.static arraycopyName ∈ gwt := tb (i := 690) (by decide +kernel)
theorem ay_n : Cond.native arraycopyName ∈ gwt := tb (i := 691) (by decide +kernel)
theorem oi_i : Cond.instanceMethod objectInit ∈ gwt := tb (i := 27) (by decide +kernel)
theorem oi_c : Cond.code objectInit ⟨#[0xb1]⟩ 1 none ∈ gwt := tb (i := 28) (by decide +kernel)
theorem gs_DEFAULTS : Cond.fieldLinkNest RX7 75 "RateLimiter" "DEFAULTS" "[I" "RateLimiter" ∈ nst := nb (i := 605) (by decide +kernel)
theorem gs_LEAST : Cond.fieldLink RX11 316 "RateLimiter" "LEAST" "[I" ∈ gwt := tb (i := 638) (by decide +kernel)
theorem gs_GREATEST : Cond.fieldLink RX11 319 "RateLimiter" "GREATEST" "[I" ∈ gwt := tb (i := 640) (by decide +kernel)
