/-- the cells behind the constructors -/
def SH : Shp := [.inl (11, [1, 3, 22, -1, 40, 64, 88, 112]), .inl (9, [2]), .inr (.byte, 900), .inl (5, [-1, -1, -1, 21]), .inl (7, [-1, 5, 6, 7, 8, 9, 10, 11, 12, 13, 14, 15, 16]), .inr (.long, 12), .inr (.int, 12), .inr (.int, 12), .inr (.int, 12), .inr (.int, 12), .inr (.int, 12), .inr (.int, 12), .inr (.int, 12), .inr (.int, 12), .inr (.int, 12), .inr (.boolean, 12), .inl (1, [-1, 17, 18, 19, 20]), .inr (.int, 12), .inr (.int, 12), .inr (.int, 12), .inr (.int, 12), .inl (6, []), .inl (10, []), .inl (7, [-1, 24, 25, 26, 27, 28, 29, 30, 31, 32, 33, 34, 35]), .inr (.long, 12), .inr (.int, 12), .inr (.int, 12), .inr (.int, 12), .inr (.int, 12), .inr (.int, 12), .inr (.int, 12), .inr (.int, 12), .inr (.int, 12), .inr (.int, 12), .inr (.boolean, 12), .inl (1, [-1, 36, 37, 38, 39]), .inr (.int, 12), .inr (.int, 12), .inr (.int, 12), .inr (.int, 12), .inl (8, [-1, -1, 41, 42, 43, 44, 48, 53, 59]), .inr (.int, 12), .inr (.int, 12), .inr (.int, 12), .inl (0, [45, 46, 47]), .inr (.int, 12), .inr (.int, 12), .inr (.int, 12), .inl (4, [49, 50, 51, 52]), .inr (.int, 12), .inr (.int, 192), .inr (.int, 192), .inr (.int, 192), .inl (2, [54, 55, 56, 57, 58]), .inr (.int, 12), .inr (.int, 12), .inr (.int, 12), .inr (.int, 12), .inr (.int, 12), .inl (3, [-1, 60, 61, 62, 63]), .inr (.int, 24), .inr (.int, 24), .inr (.int, 24), .inr (.int, 24), .inl (8, [-1, -1, 65, 66, 67, 68, 72, 77, 83]), .inr (.int, 12), .inr (.int, 12), .inr (.int, 12), .inl (0, [69, 70, 71]), .inr (.int, 12), .inr (.int, 12), .inr (.int, 12), .inl (4, [73, 74, 75, 76]), .inr (.int, 12), .inr (.int, 192), .inr (.int, 192), .inr (.int, 192), .inl (2, [78, 79, 80, 81, 82]), .inr (.int, 12), .inr (.int, 12), .inr (.int, 12), .inr (.int, 12), .inr (.int, 12), .inl (3, [-1, 84, 85, 86, 87]), .inr (.int, 24), .inr (.int, 24), .inr (.int, 24), .inr (.int, 24), .inl (8, [-1, -1, 89, 90, 91, 92, 96, 101, 107]), .inr (.int, 12), .inr (.int, 12), .inr (.int, 12), .inl (0, [93, 94, 95]), .inr (.int, 12), .inr (.int, 12), .inr (.int, 12), .inl (4, [97, 98, 99, 100]), .inr (.int, 12), .inr (.int, 192), .inr (.int, 192), .inr (.int, 192), .inl (2, [102, 103, 104, 105, 106]), .inr (.int, 12), .inr (.int, 12), .inr (.int, 12), .inr (.int, 12), .inr (.int, 12), .inl (3, [-1, 108, 109, 110, 111]), .inr (.int, 24), .inr (.int, 24), .inr (.int, 24), .inr (.int, 24), .inl (8, [-1, -1, 113, 114, 115, 116, 120, 125, 131]), .inr (.int, 12), .inr (.int, 12), .inr (.int, 12), .inl (0, [117, 118, 119]), .inr (.int, 12), .inr (.int, 12), .inr (.int, 12), .inl (4, [121, 122, 123, 124]), .inr (.int, 12), .inr (.int, 192), .inr (.int, 192), .inr (.int, 192), .inl (2, [126, 127, 128, 129, 130]), .inr (.int, 12), .inr (.int, 12), .inr (.int, 12), .inr (.int, 12), .inr (.int, 12), .inl (3, [-1, 132, 133, 134, 135]), .inr (.int, 24), .inr (.int, 24), .inr (.int, 24), .inr (.int, 24), .inl (12, [-1, 137, 138, -1, -1, -1, 139, 140, 141, 142, 143, 144, 145, 146, -1, -1, -1, -1, -1, -1, -1, -1, -1, -1, -1, -1, -1, 147, 148, 149, 150, 151, 152, 153, 154, 155, 156, 157, -1, -1, 158]), .inr (.int, 3276), .inr (.boolean, 2), .inr (.long, 12), .inr (.long, 12), .inr (.int, 12), .inr (.int, 12), .inr (.int, 12), .inr (.int, 12), .inr (.boolean, 12), .inr (.int, 900), .inr (.int, 12), .inr (.int, 84), .inr (.boolean, 84), .inr (.int, 12), .inr (.int, 12), .inr (.int, 12), .inr (.int, 12), .inr (.int, 12), .inr (.int, 12), .inr (.int, 12), .inr (.int, 12), .inr (.int, 2000)]
set_option maxRecDepth 100000 in
theorem SH_len : SH.length = 159 := rfl
theorem o_0 : isO SH 0 11 [1, 3, 22, -1, 40, 64, 88, 112] := ⟨by decide, rfl⟩
theorem o_1 : isO SH 1 9 [2] := ⟨by decide, rfl⟩
theorem a_2 : isA SH 2 .byte 900 := ⟨by decide, rfl, by decide⟩
theorem o_3 : isO SH 3 5 [-1, -1, -1, 21] := ⟨by decide, rfl⟩
theorem o_4 : isO SH 4 7 [-1, 5, 6, 7, 8, 9, 10, 11, 12, 13, 14, 15, 16] := ⟨by decide, rfl⟩
theorem a_5 : isA SH 5 .long 12 := ⟨by decide, rfl, by decide⟩
theorem a_6 : isA SH 6 .int 12 := ⟨by decide, rfl, by decide⟩
theorem a_7 : isA SH 7 .int 12 := ⟨by decide, rfl, by decide⟩
theorem a_8 : isA SH 8 .int 12 := ⟨by decide, rfl, by decide⟩
theorem a_9 : isA SH 9 .int 12 := ⟨by decide, rfl, by decide⟩
theorem a_10 : isA SH 10 .int 12 := ⟨by decide, rfl, by decide⟩
theorem a_11 : isA SH 11 .int 12 := ⟨by decide, rfl, by decide⟩
theorem a_12 : isA SH 12 .int 12 := ⟨by decide, rfl, by decide⟩
theorem a_13 : isA SH 13 .int 12 := ⟨by decide, rfl, by decide⟩
theorem a_14 : isA SH 14 .int 12 := ⟨by decide, rfl, by decide⟩
theorem a_15 : isA SH 15 .boolean 12 := ⟨by decide, rfl, by decide⟩
theorem o_16 : isO SH 16 1 [-1, 17, 18, 19, 20] := ⟨by decide, rfl⟩
theorem a_17 : isA SH 17 .int 12 := ⟨by decide, rfl, by decide⟩
theorem a_18 : isA SH 18 .int 12 := ⟨by decide, rfl, by decide⟩
theorem a_19 : isA SH 19 .int 12 := ⟨by decide, rfl, by decide⟩
theorem a_20 : isA SH 20 .int 12 := ⟨by decide, rfl, by decide⟩
theorem o_21 : isO SH 21 6 [] := ⟨by decide, rfl⟩
theorem o_22 : isO SH 22 10 [] := ⟨by decide, rfl⟩
theorem o_23 : isO SH 23 7 [-1, 24, 25, 26, 27, 28, 29, 30, 31, 32, 33, 34, 35] := ⟨by decide, rfl⟩
theorem a_24 : isA SH 24 .long 12 := ⟨by decide, rfl, by decide⟩
theorem a_25 : isA SH 25 .int 12 := ⟨by decide, rfl, by decide⟩
theorem a_26 : isA SH 26 .int 12 := ⟨by decide, rfl, by decide⟩
theorem a_27 : isA SH 27 .int 12 := ⟨by decide, rfl, by decide⟩
theorem a_28 : isA SH 28 .int 12 := ⟨by decide, rfl, by decide⟩
theorem a_29 : isA SH 29 .int 12 := ⟨by decide, rfl, by decide⟩
theorem a_30 : isA SH 30 .int 12 := ⟨by decide, rfl, by decide⟩
theorem a_31 : isA SH 31 .int 12 := ⟨by decide, rfl, by decide⟩
theorem a_32 : isA SH 32 .int 12 := ⟨by decide, rfl, by decide⟩
theorem a_33 : isA SH 33 .int 12 := ⟨by decide, rfl, by decide⟩
theorem a_34 : isA SH 34 .boolean 12 := ⟨by decide, rfl, by decide⟩
theorem o_35 : isO SH 35 1 [-1, 36, 37, 38, 39] := ⟨by decide, rfl⟩
theorem a_36 : isA SH 36 .int 12 := ⟨by decide, rfl, by decide⟩
theorem a_37 : isA SH 37 .int 12 := ⟨by decide, rfl, by decide⟩
theorem a_38 : isA SH 38 .int 12 := ⟨by decide, rfl, by decide⟩
theorem a_39 : isA SH 39 .int 12 := ⟨by decide, rfl, by decide⟩
theorem o_40 : isO SH 40 8 [-1, -1, 41, 42, 43, 44, 48, 53, 59] := ⟨by decide, rfl⟩
theorem a_41 : isA SH 41 .int 12 := ⟨by decide, rfl, by decide⟩
theorem a_42 : isA SH 42 .int 12 := ⟨by decide, rfl, by decide⟩
theorem a_43 : isA SH 43 .int 12 := ⟨by decide, rfl, by decide⟩
theorem o_44 : isO SH 44 0 [45, 46, 47] := ⟨by decide, rfl⟩
theorem a_45 : isA SH 45 .int 12 := ⟨by decide, rfl, by decide⟩
theorem a_46 : isA SH 46 .int 12 := ⟨by decide, rfl, by decide⟩
theorem a_47 : isA SH 47 .int 12 := ⟨by decide, rfl, by decide⟩
theorem o_48 : isO SH 48 4 [49, 50, 51, 52] := ⟨by decide, rfl⟩
theorem a_49 : isA SH 49 .int 12 := ⟨by decide, rfl, by decide⟩
theorem a_50 : isA SH 50 .int 192 := ⟨by decide, rfl, by decide⟩
theorem a_51 : isA SH 51 .int 192 := ⟨by decide, rfl, by decide⟩
theorem a_52 : isA SH 52 .int 192 := ⟨by decide, rfl, by decide⟩
theorem o_53 : isO SH 53 2 [54, 55, 56, 57, 58] := ⟨by decide, rfl⟩
theorem a_54 : isA SH 54 .int 12 := ⟨by decide, rfl, by decide⟩
theorem a_55 : isA SH 55 .int 12 := ⟨by decide, rfl, by decide⟩
theorem a_56 : isA SH 56 .int 12 := ⟨by decide, rfl, by decide⟩
theorem a_57 : isA SH 57 .int 12 := ⟨by decide, rfl, by decide⟩
theorem a_58 : isA SH 58 .int 12 := ⟨by decide, rfl, by decide⟩
theorem o_59 : isO SH 59 3 [-1, 60, 61, 62, 63] := ⟨by decide, rfl⟩
theorem a_60 : isA SH 60 .int 24 := ⟨by decide, rfl, by decide⟩
theorem a_61 : isA SH 61 .int 24 := ⟨by decide, rfl, by decide⟩
theorem a_62 : isA SH 62 .int 24 := ⟨by decide, rfl, by decide⟩
theorem a_63 : isA SH 63 .int 24 := ⟨by decide, rfl, by decide⟩
theorem o_64 : isO SH 64 8 [-1, -1, 65, 66, 67, 68, 72, 77, 83] := ⟨by decide, rfl⟩
theorem a_65 : isA SH 65 .int 12 := ⟨by decide, rfl, by decide⟩
theorem a_66 : isA SH 66 .int 12 := ⟨by decide, rfl, by decide⟩
theorem a_67 : isA SH 67 .int 12 := ⟨by decide, rfl, by decide⟩
theorem o_68 : isO SH 68 0 [69, 70, 71] := ⟨by decide, rfl⟩
theorem a_69 : isA SH 69 .int 12 := ⟨by decide, rfl, by decide⟩
theorem a_70 : isA SH 70 .int 12 := ⟨by decide, rfl, by decide⟩
theorem a_71 : isA SH 71 .int 12 := ⟨by decide, rfl, by decide⟩
theorem o_72 : isO SH 72 4 [73, 74, 75, 76] := ⟨by decide, rfl⟩
theorem a_73 : isA SH 73 .int 12 := ⟨by decide, rfl, by decide⟩
theorem a_74 : isA SH 74 .int 192 := ⟨by decide, rfl, by decide⟩
theorem a_75 : isA SH 75 .int 192 := ⟨by decide, rfl, by decide⟩
theorem a_76 : isA SH 76 .int 192 := ⟨by decide, rfl, by decide⟩
theorem o_77 : isO SH 77 2 [78, 79, 80, 81, 82] := ⟨by decide, rfl⟩
theorem a_78 : isA SH 78 .int 12 := ⟨by decide, rfl, by decide⟩
theorem a_79 : isA SH 79 .int 12 := ⟨by decide, rfl, by decide⟩
theorem a_80 : isA SH 80 .int 12 := ⟨by decide, rfl, by decide⟩
theorem a_81 : isA SH 81 .int 12 := ⟨by decide, rfl, by decide⟩
theorem a_82 : isA SH 82 .int 12 := ⟨by decide, rfl, by decide⟩
theorem o_83 : isO SH 83 3 [-1, 84, 85, 86, 87] := ⟨by decide, rfl⟩
theorem a_84 : isA SH 84 .int 24 := ⟨by decide, rfl, by decide⟩
theorem a_85 : isA SH 85 .int 24 := ⟨by decide, rfl, by decide⟩
theorem a_86 : isA SH 86 .int 24 := ⟨by decide, rfl, by decide⟩
theorem a_87 : isA SH 87 .int 24 := ⟨by decide, rfl, by decide⟩
theorem o_88 : isO SH 88 8 [-1, -1, 89, 90, 91, 92, 96, 101, 107] := ⟨by decide, rfl⟩
theorem a_89 : isA SH 89 .int 12 := ⟨by decide, rfl, by decide⟩
theorem a_90 : isA SH 90 .int 12 := ⟨by decide, rfl, by decide⟩
theorem a_91 : isA SH 91 .int 12 := ⟨by decide, rfl, by decide⟩
theorem o_92 : isO SH 92 0 [93, 94, 95] := ⟨by decide, rfl⟩
theorem a_93 : isA SH 93 .int 12 := ⟨by decide, rfl, by decide⟩
theorem a_94 : isA SH 94 .int 12 := ⟨by decide, rfl, by decide⟩
theorem a_95 : isA SH 95 .int 12 := ⟨by decide, rfl, by decide⟩
theorem o_96 : isO SH 96 4 [97, 98, 99, 100] := ⟨by decide, rfl⟩
theorem a_97 : isA SH 97 .int 12 := ⟨by decide, rfl, by decide⟩
theorem a_98 : isA SH 98 .int 192 := ⟨by decide, rfl, by decide⟩
theorem a_99 : isA SH 99 .int 192 := ⟨by decide, rfl, by decide⟩
theorem a_100 : isA SH 100 .int 192 := ⟨by decide, rfl, by decide⟩
theorem o_101 : isO SH 101 2 [102, 103, 104, 105, 106] := ⟨by decide, rfl⟩
theorem a_102 : isA SH 102 .int 12 := ⟨by decide, rfl, by decide⟩
theorem a_103 : isA SH 103 .int 12 := ⟨by decide, rfl, by decide⟩
theorem a_104 : isA SH 104 .int 12 := ⟨by decide, rfl, by decide⟩
theorem a_105 : isA SH 105 .int 12 := ⟨by decide, rfl, by decide⟩
theorem a_106 : isA SH 106 .int 12 := ⟨by decide, rfl, by decide⟩
theorem o_107 : isO SH 107 3 [-1, 108, 109, 110, 111] := ⟨by decide, rfl⟩
theorem a_108 : isA SH 108 .int 24 := ⟨by decide, rfl, by decide⟩
theorem a_109 : isA SH 109 .int 24 := ⟨by decide, rfl, by decide⟩
theorem a_110 : isA SH 110 .int 24 := ⟨by decide, rfl, by decide⟩
theorem a_111 : isA SH 111 .int 24 := ⟨by decide, rfl, by decide⟩
theorem o_112 : isO SH 112 8 [-1, -1, 113, 114, 115, 116, 120, 125, 131] := ⟨by decide, rfl⟩
theorem a_113 : isA SH 113 .int 12 := ⟨by decide, rfl, by decide⟩
theorem a_114 : isA SH 114 .int 12 := ⟨by decide, rfl, by decide⟩
theorem a_115 : isA SH 115 .int 12 := ⟨by decide, rfl, by decide⟩
theorem o_116 : isO SH 116 0 [117, 118, 119] := ⟨by decide, rfl⟩
theorem a_117 : isA SH 117 .int 12 := ⟨by decide, rfl, by decide⟩
theorem a_118 : isA SH 118 .int 12 := ⟨by decide, rfl, by decide⟩
theorem a_119 : isA SH 119 .int 12 := ⟨by decide, rfl, by decide⟩
theorem o_120 : isO SH 120 4 [121, 122, 123, 124] := ⟨by decide, rfl⟩
theorem a_121 : isA SH 121 .int 12 := ⟨by decide, rfl, by decide⟩
theorem a_122 : isA SH 122 .int 192 := ⟨by decide, rfl, by decide⟩
theorem a_123 : isA SH 123 .int 192 := ⟨by decide, rfl, by decide⟩
theorem a_124 : isA SH 124 .int 192 := ⟨by decide, rfl, by decide⟩
theorem o_125 : isO SH 125 2 [126, 127, 128, 129, 130] := ⟨by decide, rfl⟩
theorem a_126 : isA SH 126 .int 12 := ⟨by decide, rfl, by decide⟩
theorem a_127 : isA SH 127 .int 12 := ⟨by decide, rfl, by decide⟩
theorem a_128 : isA SH 128 .int 12 := ⟨by decide, rfl, by decide⟩
theorem a_129 : isA SH 129 .int 12 := ⟨by decide, rfl, by decide⟩
theorem a_130 : isA SH 130 .int 12 := ⟨by decide, rfl, by decide⟩
theorem o_131 : isO SH 131 3 [-1, 132, 133, 134, 135] := ⟨by decide, rfl⟩
theorem a_132 : isA SH 132 .int 24 := ⟨by decide, rfl, by decide⟩
theorem a_133 : isA SH 133 .int 24 := ⟨by decide, rfl, by decide⟩
theorem a_134 : isA SH 134 .int 24 := ⟨by decide, rfl, by decide⟩
theorem a_135 : isA SH 135 .int 24 := ⟨by decide, rfl, by decide⟩
theorem o_136 : isO SH 136 12 [-1, 137, 138, -1, -1, -1, 139, 140, 141, 142, 143, 144, 145, 146, -1, -1, -1, -1, -1, -1, -1, -1, -1, -1, -1, -1, -1, 147, 148, 149, 150, 151, 152, 153, 154, 155, 156, 157, -1, -1, 158] := ⟨by decide, rfl⟩
theorem a_137 : isA SH 137 .int 3276 := ⟨by decide, rfl, by decide⟩
theorem a_138 : isA SH 138 .boolean 2 := ⟨by decide, rfl, by decide⟩
theorem a_139 : isA SH 139 .long 12 := ⟨by decide, rfl, by decide⟩
theorem a_140 : isA SH 140 .long 12 := ⟨by decide, rfl, by decide⟩
theorem a_141 : isA SH 141 .int 12 := ⟨by decide, rfl, by decide⟩
theorem a_142 : isA SH 142 .int 12 := ⟨by decide, rfl, by decide⟩
theorem a_143 : isA SH 143 .int 12 := ⟨by decide, rfl, by decide⟩
theorem a_144 : isA SH 144 .int 12 := ⟨by decide, rfl, by decide⟩
theorem a_145 : isA SH 145 .boolean 12 := ⟨by decide, rfl, by decide⟩
theorem a_146 : isA SH 146 .int 900 := ⟨by decide, rfl, by decide⟩
theorem a_147 : isA SH 147 .int 12 := ⟨by decide, rfl, by decide⟩
theorem a_148 : isA SH 148 .int 84 := ⟨by decide, rfl, by decide⟩
theorem a_149 : isA SH 149 .boolean 84 := ⟨by decide, rfl, by decide⟩
theorem a_150 : isA SH 150 .int 12 := ⟨by decide, rfl, by decide⟩
theorem a_151 : isA SH 151 .int 12 := ⟨by decide, rfl, by decide⟩
theorem a_152 : isA SH 152 .int 12 := ⟨by decide, rfl, by decide⟩
theorem a_153 : isA SH 153 .int 12 := ⟨by decide, rfl, by decide⟩
theorem a_154 : isA SH 154 .int 12 := ⟨by decide, rfl, by decide⟩
theorem a_155 : isA SH 155 .int 12 := ⟨by decide, rfl, by decide⟩
theorem a_156 : isA SH 156 .int 12 := ⟨by decide, rfl, by decide⟩
theorem a_157 : isA SH 157 .int 12 := ⟨by decide, rfl, by decide⟩
theorem a_158 : isA SH 158 .int 2000 := ⟨by decide, rfl, by decide⟩
abbrev isSt (b : Int) : Prop := b = 40 ∨ b = 64 ∨ b = 88 ∨ b = 112
abbrev isSu (u : Int) : Prop := u = 4 ∨ u = 23
theorem so_0 {b : Int} (h : isSt b) : isO SH (b) 8 [-1, -1, b + 1, b + 2, b + 3, b + 4, b + 8, b + 13, b + 19] := by
  rcases h with rfl | rfl | rfl | rfl <;> exact ⟨by decide, rfl⟩
theorem sa_1 {b : Int} (h : isSt b) : isA SH (b + 1) .int 12 := by
  rcases h with rfl | rfl | rfl | rfl <;> exact ⟨by decide, rfl, by decide⟩
theorem sa_2 {b : Int} (h : isSt b) : isA SH (b + 2) .int 12 := by
  rcases h with rfl | rfl | rfl | rfl <;> exact ⟨by decide, rfl, by decide⟩
theorem sa_3 {b : Int} (h : isSt b) : isA SH (b + 3) .int 12 := by
  rcases h with rfl | rfl | rfl | rfl <;> exact ⟨by decide, rfl, by decide⟩
theorem so_4 {b : Int} (h : isSt b) : isO SH (b + 4) 0 [b + 5, b + 6, b + 7] := by
  rcases h with rfl | rfl | rfl | rfl <;> exact ⟨by decide, rfl⟩
theorem sa_5 {b : Int} (h : isSt b) : isA SH (b + 5) .int 12 := by
  rcases h with rfl | rfl | rfl | rfl <;> exact ⟨by decide, rfl, by decide⟩
theorem sa_6 {b : Int} (h : isSt b) : isA SH (b + 6) .int 12 := by
  rcases h with rfl | rfl | rfl | rfl <;> exact ⟨by decide, rfl, by decide⟩
theorem sa_7 {b : Int} (h : isSt b) : isA SH (b + 7) .int 12 := by
  rcases h with rfl | rfl | rfl | rfl <;> exact ⟨by decide, rfl, by decide⟩
theorem so_8 {b : Int} (h : isSt b) : isO SH (b + 8) 4 [b + 9, b + 10, b + 11, b + 12] := by
  rcases h with rfl | rfl | rfl | rfl <;> exact ⟨by decide, rfl⟩
theorem sa_9 {b : Int} (h : isSt b) : isA SH (b + 9) .int 12 := by
  rcases h with rfl | rfl | rfl | rfl <;> exact ⟨by decide, rfl, by decide⟩
theorem sa_10 {b : Int} (h : isSt b) : isA SH (b + 10) .int 192 := by
  rcases h with rfl | rfl | rfl | rfl <;> exact ⟨by decide, rfl, by decide⟩
theorem sa_11 {b : Int} (h : isSt b) : isA SH (b + 11) .int 192 := by
  rcases h with rfl | rfl | rfl | rfl <;> exact ⟨by decide, rfl, by decide⟩
theorem sa_12 {b : Int} (h : isSt b) : isA SH (b + 12) .int 192 := by
  rcases h with rfl | rfl | rfl | rfl <;> exact ⟨by decide, rfl, by decide⟩
theorem so_13 {b : Int} (h : isSt b) : isO SH (b + 13) 2 [b + 14, b + 15, b + 16, b + 17, b + 18] := by
  rcases h with rfl | rfl | rfl | rfl <;> exact ⟨by decide, rfl⟩
theorem sa_14 {b : Int} (h : isSt b) : isA SH (b + 14) .int 12 := by
  rcases h with rfl | rfl | rfl | rfl <;> exact ⟨by decide, rfl, by decide⟩
theorem sa_15 {b : Int} (h : isSt b) : isA SH (b + 15) .int 12 := by
  rcases h with rfl | rfl | rfl | rfl <;> exact ⟨by decide, rfl, by decide⟩
theorem sa_16 {b : Int} (h : isSt b) : isA SH (b + 16) .int 12 := by
  rcases h with rfl | rfl | rfl | rfl <;> exact ⟨by decide, rfl, by decide⟩
theorem sa_17 {b : Int} (h : isSt b) : isA SH (b + 17) .int 12 := by
  rcases h with rfl | rfl | rfl | rfl <;> exact ⟨by decide, rfl, by decide⟩
theorem sa_18 {b : Int} (h : isSt b) : isA SH (b + 18) .int 12 := by
  rcases h with rfl | rfl | rfl | rfl <;> exact ⟨by decide, rfl, by decide⟩
theorem so_19 {b : Int} (h : isSt b) : isO SH (b + 19) 3 [-1, b + 20, b + 21, b + 22, b + 23] := by
  rcases h with rfl | rfl | rfl | rfl <;> exact ⟨by decide, rfl⟩
theorem sa_20 {b : Int} (h : isSt b) : isA SH (b + 20) .int 24 := by
  rcases h with rfl | rfl | rfl | rfl <;> exact ⟨by decide, rfl, by decide⟩
theorem sa_21 {b : Int} (h : isSt b) : isA SH (b + 21) .int 24 := by
  rcases h with rfl | rfl | rfl | rfl <;> exact ⟨by decide, rfl, by decide⟩
theorem sa_22 {b : Int} (h : isSt b) : isA SH (b + 22) .int 24 := by
  rcases h with rfl | rfl | rfl | rfl <;> exact ⟨by decide, rfl, by decide⟩
theorem sa_23 {b : Int} (h : isSt b) : isA SH (b + 23) .int 24 := by
  rcases h with rfl | rfl | rfl | rfl <;> exact ⟨by decide, rfl, by decide⟩
theorem to_0 {u : Int} (h : isSu u) : isO SH (u) 7 [-1, u + 1, u + 2, u + 3, u + 4, u + 5, u + 6, u + 7, u + 8, u + 9, u + 10, u + 11, u + 12] := by
  rcases h with rfl | rfl <;> exact ⟨by decide, rfl⟩
theorem ta_1 {u : Int} (h : isSu u) : isA SH (u + 1) .long 12 := by
  rcases h with rfl | rfl <;> exact ⟨by decide, rfl, by decide⟩
theorem ta_2 {u : Int} (h : isSu u) : isA SH (u + 2) .int 12 := by
  rcases h with rfl | rfl <;> exact ⟨by decide, rfl, by decide⟩
theorem ta_3 {u : Int} (h : isSu u) : isA SH (u + 3) .int 12 := by
  rcases h with rfl | rfl <;> exact ⟨by decide, rfl, by decide⟩
theorem ta_4 {u : Int} (h : isSu u) : isA SH (u + 4) .int 12 := by
  rcases h with rfl | rfl <;> exact ⟨by decide, rfl, by decide⟩
theorem ta_5 {u : Int} (h : isSu u) : isA SH (u + 5) .int 12 := by
  rcases h with rfl | rfl <;> exact ⟨by decide, rfl, by decide⟩
theorem ta_6 {u : Int} (h : isSu u) : isA SH (u + 6) .int 12 := by
  rcases h with rfl | rfl <;> exact ⟨by decide, rfl, by decide⟩
theorem ta_7 {u : Int} (h : isSu u) : isA SH (u + 7) .int 12 := by
  rcases h with rfl | rfl <;> exact ⟨by decide, rfl, by decide⟩
theorem ta_8 {u : Int} (h : isSu u) : isA SH (u + 8) .int 12 := by
  rcases h with rfl | rfl <;> exact ⟨by decide, rfl, by decide⟩
theorem ta_9 {u : Int} (h : isSu u) : isA SH (u + 9) .int 12 := by
  rcases h with rfl | rfl <;> exact ⟨by decide, rfl, by decide⟩
theorem ta_10 {u : Int} (h : isSu u) : isA SH (u + 10) .int 12 := by
  rcases h with rfl | rfl <;> exact ⟨by decide, rfl, by decide⟩
theorem ta_11 {u : Int} (h : isSu u) : isA SH (u + 11) .boolean 12 := by
  rcases h with rfl | rfl <;> exact ⟨by decide, rfl, by decide⟩
theorem to_12 {u : Int} (h : isSu u) : isO SH (u + 12) 1 [-1, u + 13, u + 14, u + 15, u + 16] := by
  rcases h with rfl | rfl <;> exact ⟨by decide, rfl⟩
theorem ta_13 {u : Int} (h : isSu u) : isA SH (u + 13) .int 12 := by
  rcases h with rfl | rfl <;> exact ⟨by decide, rfl, by decide⟩
theorem ta_14 {u : Int} (h : isSu u) : isA SH (u + 14) .int 12 := by
  rcases h with rfl | rfl <;> exact ⟨by decide, rfl, by decide⟩
theorem ta_15 {u : Int} (h : isSu u) : isA SH (u + 15) .int 12 := by
  rcases h with rfl | rfl <;> exact ⟨by decide, rfl, by decide⟩
theorem ta_16 {u : Int} (h : isSu u) : isA SH (u + 16) .int 12 := by
  rcases h with rfl | rfl <;> exact ⟨by decide, rfl, by decide⟩
section RQ
variable {X : KX} {sh : Shp} {cs ss pc : Nat} {L : List (Option Value)} {st : List Value} {F : Hp} {Z : State → Prop} {own : String} {cc : ByteArray} {nL : Nat} {ret : Option FieldType} {fr lo mc ms : Nat}
theorem R_getoE (hX : Ok X own cc nL ret fr lo mc ms) {idx ci : Nat} {j k v : Int} {fin : Bool} {n : String} (hd : decode cc pc = .ok (.getfield idx, 3)) (hf : FLk own idx ci j (.object n) fin) {rs : List Int} (ho : isO sh k ci rs) (hz0 : rs.getD j.toNat (-1) = -1) (he : F k j = v) (kk : R X sh cs ss (pc + 3) L (vr (xV X) v :: st) F Z) : R X sh cs ss pc L (vr (xV X) k :: st) F Z := R_geto hX hd hf ho hz0 (by rw [he]; exact kk)

theorem R_drop_0 {a : Option Value} {T : List (Option Value)} (k : R X sh cs ss pc (none :: T) st F Z) : R X sh cs ss pc (a :: T) st F Z := R.drop (none :: T) (by simp only [List.length_cons]) (fun i v h => by
  rcases Nat.lt_trichotomy i 0 with q | q | q
  · rcases i with _ <;> first | exact h | omega
  · subst q; cases h
  · obtain ⟨j, rfl⟩ : ∃ j, i = j + 1 := ⟨i - 1, by omega⟩
    exact h) k
theorem R_drop_1 {a0 : Option Value} {a : Option Value} {T : List (Option Value)} (k : R X sh cs ss pc (a0 :: none :: T) st F Z) : R X sh cs ss pc (a0 :: a :: T) st F Z := R.drop (a0 :: none :: T) (by simp only [List.length_cons]) (fun i v h => by
  rcases Nat.lt_trichotomy i 1 with q | q | q
  · rcases i with _ | _ <;> first | exact h | omega
  · subst q; cases h
  · obtain ⟨j, rfl⟩ : ∃ j, i = j + 2 := ⟨i - 2, by omega⟩
    exact h) k
theorem R_drop_2 {a0 a1 : Option Value} {a : Option Value} {T : List (Option Value)} (k : R X sh cs ss pc (a0 :: a1 :: none :: T) st F Z) : R X sh cs ss pc (a0 :: a1 :: a :: T) st F Z := R.drop (a0 :: a1 :: none :: T) (by simp only [List.length_cons]) (fun i v h => by
  rcases Nat.lt_trichotomy i 2 with q | q | q
  · rcases i with _ | _ | _ <;> first | exact h | omega
  · subst q; cases h
  · obtain ⟨j, rfl⟩ : ∃ j, i = j + 3 := ⟨i - 3, by omega⟩
    exact h) k
theorem R_drop_3 {a0 a1 a2 : Option Value} {a : Option Value} {T : List (Option Value)} (k : R X sh cs ss pc (a0 :: a1 :: a2 :: none :: T) st F Z) : R X sh cs ss pc (a0 :: a1 :: a2 :: a :: T) st F Z := R.drop (a0 :: a1 :: a2 :: none :: T) (by simp only [List.length_cons]) (fun i v h => by
  rcases Nat.lt_trichotomy i 3 with q | q | q
  · rcases i with _ | _ | _ | _ <;> first | exact h | omega
  · subst q; cases h
  · obtain ⟨j, rfl⟩ : ∃ j, i = j + 4 := ⟨i - 4, by omega⟩
    exact h) k
theorem R_drop_4 {a0 a1 a2 a3 : Option Value} {a : Option Value} {T : List (Option Value)} (k : R X sh cs ss pc (a0 :: a1 :: a2 :: a3 :: none :: T) st F Z) : R X sh cs ss pc (a0 :: a1 :: a2 :: a3 :: a :: T) st F Z := R.drop (a0 :: a1 :: a2 :: a3 :: none :: T) (by simp only [List.length_cons]) (fun i v h => by
  rcases Nat.lt_trichotomy i 4 with q | q | q
  · rcases i with _ | _ | _ | _ | _ <;> first | exact h | omega
  · subst q; cases h
  · obtain ⟨j, rfl⟩ : ∃ j, i = j + 5 := ⟨i - 5, by omega⟩
    exact h) k
theorem R_drop_5 {a0 a1 a2 a3 a4 : Option Value} {a : Option Value} {T : List (Option Value)} (k : R X sh cs ss pc (a0 :: a1 :: a2 :: a3 :: a4 :: none :: T) st F Z) : R X sh cs ss pc (a0 :: a1 :: a2 :: a3 :: a4 :: a :: T) st F Z := R.drop (a0 :: a1 :: a2 :: a3 :: a4 :: none :: T) (by simp only [List.length_cons]) (fun i v h => by
  rcases Nat.lt_trichotomy i 5 with q | q | q
  · rcases i with _ | _ | _ | _ | _ | _ <;> first | exact h | omega
  · subst q; cases h
  · obtain ⟨j, rfl⟩ : ∃ j, i = j + 6 := ⟨i - 6, by omega⟩
    exact h) k
theorem R_drop_6 {a0 a1 a2 a3 a4 a5 : Option Value} {a : Option Value} {T : List (Option Value)} (k : R X sh cs ss pc (a0 :: a1 :: a2 :: a3 :: a4 :: a5 :: none :: T) st F Z) : R X sh cs ss pc (a0 :: a1 :: a2 :: a3 :: a4 :: a5 :: a :: T) st F Z := R.drop (a0 :: a1 :: a2 :: a3 :: a4 :: a5 :: none :: T) (by simp only [List.length_cons]) (fun i v h => by
  rcases Nat.lt_trichotomy i 6 with q | q | q
  · rcases i with _ | _ | _ | _ | _ | _ | _ <;> first | exact h | omega
  · subst q; cases h
  · obtain ⟨j, rfl⟩ : ∃ j, i = j + 7 := ⟨i - 7, by omega⟩
    exact h) k
theorem R_drop_7 {a0 a1 a2 a3 a4 a5 a6 : Option Value} {a : Option Value} {T : List (Option Value)} (k : R X sh cs ss pc (a0 :: a1 :: a2 :: a3 :: a4 :: a5 :: a6 :: none :: T) st F Z) : R X sh cs ss pc (a0 :: a1 :: a2 :: a3 :: a4 :: a5 :: a6 :: a :: T) st F Z := R.drop (a0 :: a1 :: a2 :: a3 :: a4 :: a5 :: a6 :: none :: T) (by simp only [List.length_cons]) (fun i v h => by
  rcases Nat.lt_trichotomy i 7 with q | q | q
  · rcases i with _ | _ | _ | _ | _ | _ | _ | _ <;> first | exact h | omega
  · subst q; cases h
  · obtain ⟨j, rfl⟩ : ∃ j, i = j + 8 := ⟨i - 8, by omega⟩
    exact h) k
theorem R_drop_8 {a0 a1 a2 a3 a4 a5 a6 a7 : Option Value} {a : Option Value} {T : List (Option Value)} (k : R X sh cs ss pc (a0 :: a1 :: a2 :: a3 :: a4 :: a5 :: a6 :: a7 :: none :: T) st F Z) : R X sh cs ss pc (a0 :: a1 :: a2 :: a3 :: a4 :: a5 :: a6 :: a7 :: a :: T) st F Z := R.drop (a0 :: a1 :: a2 :: a3 :: a4 :: a5 :: a6 :: a7 :: none :: T) (by simp only [List.length_cons]) (fun i v h => by
  rcases Nat.lt_trichotomy i 8 with q | q | q
  · rcases i with _ | _ | _ | _ | _ | _ | _ | _ | _ <;> first | exact h | omega
  · subst q; cases h
  · obtain ⟨j, rfl⟩ : ∃ j, i = j + 9 := ⟨i - 9, by omega⟩
    exact h) k
theorem R_drop_9 {a0 a1 a2 a3 a4 a5 a6 a7 a8 : Option Value} {a : Option Value} {T : List (Option Value)} (k : R X sh cs ss pc (a0 :: a1 :: a2 :: a3 :: a4 :: a5 :: a6 :: a7 :: a8 :: none :: T) st F Z) : R X sh cs ss pc (a0 :: a1 :: a2 :: a3 :: a4 :: a5 :: a6 :: a7 :: a8 :: a :: T) st F Z := R.drop (a0 :: a1 :: a2 :: a3 :: a4 :: a5 :: a6 :: a7 :: a8 :: none :: T) (by simp only [List.length_cons]) (fun i v h => by
  rcases Nat.lt_trichotomy i 9 with q | q | q
  · rcases i with _ | _ | _ | _ | _ | _ | _ | _ | _ | _ <;> first | exact h | omega
  · subst q; cases h
  · obtain ⟨j, rfl⟩ : ∃ j, i = j + 10 := ⟨i - 10, by omega⟩
    exact h) k
theorem R_drop_10 {a0 a1 a2 a3 a4 a5 a6 a7 a8 a9 : Option Value} {a : Option Value} {T : List (Option Value)} (k : R X sh cs ss pc (a0 :: a1 :: a2 :: a3 :: a4 :: a5 :: a6 :: a7 :: a8 :: a9 :: none :: T) st F Z) : R X sh cs ss pc (a0 :: a1 :: a2 :: a3 :: a4 :: a5 :: a6 :: a7 :: a8 :: a9 :: a :: T) st F Z := R.drop (a0 :: a1 :: a2 :: a3 :: a4 :: a5 :: a6 :: a7 :: a8 :: a9 :: none :: T) (by simp only [List.length_cons]) (fun i v h => by
  rcases Nat.lt_trichotomy i 10 with q | q | q
  · rcases i with _ | _ | _ | _ | _ | _ | _ | _ | _ | _ | _ <;> first | exact h | omega
  · subst q; cases h
  · obtain ⟨j, rfl⟩ : ∃ j, i = j + 11 := ⟨i - 11, by omega⟩
    exact h) k
theorem R_drop_11 {a0 a1 a2 a3 a4 a5 a6 a7 a8 a9 a10 : Option Value} {a : Option Value} {T : List (Option Value)} (k : R X sh cs ss pc (a0 :: a1 :: a2 :: a3 :: a4 :: a5 :: a6 :: a7 :: a8 :: a9 :: a10 :: none :: T) st F Z) : R X sh cs ss pc (a0 :: a1 :: a2 :: a3 :: a4 :: a5 :: a6 :: a7 :: a8 :: a9 :: a10 :: a :: T) st F Z := R.drop (a0 :: a1 :: a2 :: a3 :: a4 :: a5 :: a6 :: a7 :: a8 :: a9 :: a10 :: none :: T) (by simp only [List.length_cons]) (fun i v h => by
  rcases Nat.lt_trichotomy i 11 with q | q | q
  · rcases i with _ | _ | _ | _ | _ | _ | _ | _ | _ | _ | _ | _ <;> first | exact h | omega
  · subst q; cases h
  · obtain ⟨j, rfl⟩ : ∃ j, i = j + 12 := ⟨i - 12, by omega⟩
    exact h) k
theorem R_drop_12 {a0 a1 a2 a3 a4 a5 a6 a7 a8 a9 a10 a11 : Option Value} {a : Option Value} {T : List (Option Value)} (k : R X sh cs ss pc (a0 :: a1 :: a2 :: a3 :: a4 :: a5 :: a6 :: a7 :: a8 :: a9 :: a10 :: a11 :: none :: T) st F Z) : R X sh cs ss pc (a0 :: a1 :: a2 :: a3 :: a4 :: a5 :: a6 :: a7 :: a8 :: a9 :: a10 :: a11 :: a :: T) st F Z := R.drop (a0 :: a1 :: a2 :: a3 :: a4 :: a5 :: a6 :: a7 :: a8 :: a9 :: a10 :: a11 :: none :: T) (by simp only [List.length_cons]) (fun i v h => by
  rcases Nat.lt_trichotomy i 12 with q | q | q
  · rcases i with _ | _ | _ | _ | _ | _ | _ | _ | _ | _ | _ | _ | _ <;> first | exact h | omega
  · subst q; cases h
  · obtain ⟨j, rfl⟩ : ∃ j, i = j + 13 := ⟨i - 13, by omega⟩
    exact h) k
end RQ
