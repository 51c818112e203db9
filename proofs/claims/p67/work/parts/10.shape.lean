/-- the cells behind the constructors -/
def SH (T : Shp) : Shp := .inl (11, [1, 3, 22, -1, 40, 64, 88, 112]) :: .inl (9, [2]) :: .inr (.byte, 900) :: .inl (5, [-1, -1, -1, 21]) :: .inl (7, [-1, 5, 6, 7, 8, 9, 10, 11, 12, 13, 14, 15, 16]) :: .inr (.long, 12) :: .inr (.int, 12) :: .inr (.int, 12) :: .inr (.int, 12) :: .inr (.int, 12) :: .inr (.int, 12) :: .inr (.int, 12) :: .inr (.int, 12) :: .inr (.int, 12) :: .inr (.int, 12) :: .inr (.boolean, 12) :: .inl (1, [-1, 17, 18, 19, 20]) :: .inr (.int, 12) :: .inr (.int, 12) :: .inr (.int, 12) :: .inr (.int, 12) :: .inl (6, []) :: .inl (10, []) :: .inl (7, [-1, 24, 25, 26, 27, 28, 29, 30, 31, 32, 33, 34, 35]) :: .inr (.long, 12) :: .inr (.int, 12) :: .inr (.int, 12) :: .inr (.int, 12) :: .inr (.int, 12) :: .inr (.int, 12) :: .inr (.int, 12) :: .inr (.int, 12) :: .inr (.int, 12) :: .inr (.int, 12) :: .inr (.boolean, 12) :: .inl (1, [-1, 36, 37, 38, 39]) :: .inr (.int, 12) :: .inr (.int, 12) :: .inr (.int, 12) :: .inr (.int, 12) :: .inl (8, [-1, -1, 41, 42, 43, 44, 48, 53, 59]) :: .inr (.int, 12) :: .inr (.int, 12) :: .inr (.int, 12) :: .inl (0, [45, 46, 47]) :: .inr (.int, 12) :: .inr (.int, 12) :: .inr (.int, 12) :: .inl (4, [49, 50, 51, 52]) :: .inr (.int, 12) :: .inr (.int, 192) :: .inr (.int, 192) :: .inr (.int, 192) :: .inl (2, [54, 55, 56, 57, 58]) :: .inr (.int, 12) :: .inr (.int, 12) :: .inr (.int, 12) :: .inr (.int, 12) :: .inr (.int, 12) :: .inl (3, [-1, 60, 61, 62, 63]) :: .inr (.int, 24) :: .inr (.int, 24) :: .inr (.int, 24) :: .inr (.int, 24) :: .inl (8, [-1, -1, 65, 66, 67, 68, 72, 77, 83]) :: .inr (.int, 12) :: .inr (.int, 12) :: .inr (.int, 12) :: .inl (0, [69, 70, 71]) :: .inr (.int, 12) :: .inr (.int, 12) :: .inr (.int, 12) :: .inl (4, [73, 74, 75, 76]) :: .inr (.int, 12) :: .inr (.int, 192) :: .inr (.int, 192) :: .inr (.int, 192) :: .inl (2, [78, 79, 80, 81, 82]) :: .inr (.int, 12) :: .inr (.int, 12) :: .inr (.int, 12) :: .inr (.int, 12) :: .inr (.int, 12) :: .inl (3, [-1, 84, 85, 86, 87]) :: .inr (.int, 24) :: .inr (.int, 24) :: .inr (.int, 24) :: .inr (.int, 24) :: .inl (8, [-1, -1, 89, 90, 91, 92, 96, 101, 107]) :: .inr (.int, 12) :: .inr (.int, 12) :: .inr (.int, 12) :: .inl (0, [93, 94, 95]) :: .inr (.int, 12) :: .inr (.int, 12) :: .inr (.int, 12) :: .inl (4, [97, 98, 99, 100]) :: .inr (.int, 12) :: .inr (.int, 192) :: .inr (.int, 192) :: .inr (.int, 192) :: .inl (2, [102, 103, 104, 105, 106]) :: .inr (.int, 12) :: .inr (.int, 12) :: .inr (.int, 12) :: .inr (.int, 12) :: .inr (.int, 12) :: .inl (3, [-1, 108, 109, 110, 111]) :: .inr (.int, 24) :: .inr (.int, 24) :: .inr (.int, 24) :: .inr (.int, 24) :: .inl (8, [-1, -1, 113, 114, 115, 116, 120, 125, 131]) :: .inr (.int, 12) :: .inr (.int, 12) :: .inr (.int, 12) :: .inl (0, [117, 118, 119]) :: .inr (.int, 12) :: .inr (.int, 12) :: .inr (.int, 12) :: .inl (4, [121, 122, 123, 124]) :: .inr (.int, 12) :: .inr (.int, 192) :: .inr (.int, 192) :: .inr (.int, 192) :: .inl (2, [126, 127, 128, 129, 130]) :: .inr (.int, 12) :: .inr (.int, 12) :: .inr (.int, 12) :: .inr (.int, 12) :: .inr (.int, 12) :: .inl (3, [-1, 132, 133, 134, 135]) :: .inr (.int, 24) :: .inr (.int, 24) :: .inr (.int, 24) :: .inr (.int, 24) :: T
set_option maxRecDepth 100000 in
theorem SH_len {T : Shp} : (SH T).length = 136 + T.length := by
  unfold SH
  simp only [List.length_cons]
  omega
theorem o_0 {T : Shp} : isO (SH T) 0 11 [1, 3, 22, -1, 40, 64, 88, 112] := ⟨by decide, rfl⟩
theorem o_1 {T : Shp} : isO (SH T) 1 9 [2] := ⟨by decide, rfl⟩
theorem a_2 {T : Shp} : isA (SH T) 2 .byte 900 := ⟨by decide, rfl, by decide⟩
theorem o_3 {T : Shp} : isO (SH T) 3 5 [-1, -1, -1, 21] := ⟨by decide, rfl⟩
theorem o_4 {T : Shp} : isO (SH T) 4 7 [-1, 5, 6, 7, 8, 9, 10, 11, 12, 13, 14, 15, 16] := ⟨by decide, rfl⟩
theorem a_5 {T : Shp} : isA (SH T) 5 .long 12 := ⟨by decide, rfl, by decide⟩
theorem a_6 {T : Shp} : isA (SH T) 6 .int 12 := ⟨by decide, rfl, by decide⟩
theorem a_7 {T : Shp} : isA (SH T) 7 .int 12 := ⟨by decide, rfl, by decide⟩
theorem a_8 {T : Shp} : isA (SH T) 8 .int 12 := ⟨by decide, rfl, by decide⟩
theorem a_9 {T : Shp} : isA (SH T) 9 .int 12 := ⟨by decide, rfl, by decide⟩
theorem a_10 {T : Shp} : isA (SH T) 10 .int 12 := ⟨by decide, rfl, by decide⟩
theorem a_11 {T : Shp} : isA (SH T) 11 .int 12 := ⟨by decide, rfl, by decide⟩
theorem a_12 {T : Shp} : isA (SH T) 12 .int 12 := ⟨by decide, rfl, by decide⟩
theorem a_13 {T : Shp} : isA (SH T) 13 .int 12 := ⟨by decide, rfl, by decide⟩
theorem a_14 {T : Shp} : isA (SH T) 14 .int 12 := ⟨by decide, rfl, by decide⟩
theorem a_15 {T : Shp} : isA (SH T) 15 .boolean 12 := ⟨by decide, rfl, by decide⟩
theorem o_16 {T : Shp} : isO (SH T) 16 1 [-1, 17, 18, 19, 20] := ⟨by decide, rfl⟩
theorem a_17 {T : Shp} : isA (SH T) 17 .int 12 := ⟨by decide, rfl, by decide⟩
theorem a_18 {T : Shp} : isA (SH T) 18 .int 12 := ⟨by decide, rfl, by decide⟩
theorem a_19 {T : Shp} : isA (SH T) 19 .int 12 := ⟨by decide, rfl, by decide⟩
theorem a_20 {T : Shp} : isA (SH T) 20 .int 12 := ⟨by decide, rfl, by decide⟩
theorem o_21 {T : Shp} : isO (SH T) 21 6 [] := ⟨by decide, rfl⟩
theorem o_22 {T : Shp} : isO (SH T) 22 10 [] := ⟨by decide, rfl⟩
theorem o_23 {T : Shp} : isO (SH T) 23 7 [-1, 24, 25, 26, 27, 28, 29, 30, 31, 32, 33, 34, 35] := ⟨by decide, rfl⟩
theorem a_24 {T : Shp} : isA (SH T) 24 .long 12 := ⟨by decide, rfl, by decide⟩
theorem a_25 {T : Shp} : isA (SH T) 25 .int 12 := ⟨by decide, rfl, by decide⟩
theorem a_26 {T : Shp} : isA (SH T) 26 .int 12 := ⟨by decide, rfl, by decide⟩
theorem a_27 {T : Shp} : isA (SH T) 27 .int 12 := ⟨by decide, rfl, by decide⟩
theorem a_28 {T : Shp} : isA (SH T) 28 .int 12 := ⟨by decide, rfl, by decide⟩
theorem a_29 {T : Shp} : isA (SH T) 29 .int 12 := ⟨by decide, rfl, by decide⟩
theorem a_30 {T : Shp} : isA (SH T) 30 .int 12 := ⟨by decide, rfl, by decide⟩
theorem a_31 {T : Shp} : isA (SH T) 31 .int 12 := ⟨by decide, rfl, by decide⟩
theorem a_32 {T : Shp} : isA (SH T) 32 .int 12 := ⟨by decide, rfl, by decide⟩
theorem a_33 {T : Shp} : isA (SH T) 33 .int 12 := ⟨by decide, rfl, by decide⟩
theorem a_34 {T : Shp} : isA (SH T) 34 .boolean 12 := ⟨by decide, rfl, by decide⟩
theorem o_35 {T : Shp} : isO (SH T) 35 1 [-1, 36, 37, 38, 39] := ⟨by decide, rfl⟩
theorem a_36 {T : Shp} : isA (SH T) 36 .int 12 := ⟨by decide, rfl, by decide⟩
theorem a_37 {T : Shp} : isA (SH T) 37 .int 12 := ⟨by decide, rfl, by decide⟩
theorem a_38 {T : Shp} : isA (SH T) 38 .int 12 := ⟨by decide, rfl, by decide⟩
theorem a_39 {T : Shp} : isA (SH T) 39 .int 12 := ⟨by decide, rfl, by decide⟩
theorem o_40 {T : Shp} : isO (SH T) 40 8 [-1, -1, 41, 42, 43, 44, 48, 53, 59] := ⟨by decide, rfl⟩
theorem a_41 {T : Shp} : isA (SH T) 41 .int 12 := ⟨by decide, rfl, by decide⟩
theorem a_42 {T : Shp} : isA (SH T) 42 .int 12 := ⟨by decide, rfl, by decide⟩
theorem a_43 {T : Shp} : isA (SH T) 43 .int 12 := ⟨by decide, rfl, by decide⟩
theorem o_44 {T : Shp} : isO (SH T) 44 0 [45, 46, 47] := ⟨by decide, rfl⟩
theorem a_45 {T : Shp} : isA (SH T) 45 .int 12 := ⟨by decide, rfl, by decide⟩
theorem a_46 {T : Shp} : isA (SH T) 46 .int 12 := ⟨by decide, rfl, by decide⟩
theorem a_47 {T : Shp} : isA (SH T) 47 .int 12 := ⟨by decide, rfl, by decide⟩
theorem o_48 {T : Shp} : isO (SH T) 48 4 [49, 50, 51, 52] := ⟨by decide, rfl⟩
theorem a_49 {T : Shp} : isA (SH T) 49 .int 12 := ⟨by decide, rfl, by decide⟩
theorem a_50 {T : Shp} : isA (SH T) 50 .int 192 := ⟨by decide, rfl, by decide⟩
theorem a_51 {T : Shp} : isA (SH T) 51 .int 192 := ⟨by decide, rfl, by decide⟩
theorem a_52 {T : Shp} : isA (SH T) 52 .int 192 := ⟨by decide, rfl, by decide⟩
theorem o_53 {T : Shp} : isO (SH T) 53 2 [54, 55, 56, 57, 58] := ⟨by decide, rfl⟩
theorem a_54 {T : Shp} : isA (SH T) 54 .int 12 := ⟨by decide, rfl, by decide⟩
theorem a_55 {T : Shp} : isA (SH T) 55 .int 12 := ⟨by decide, rfl, by decide⟩
theorem a_56 {T : Shp} : isA (SH T) 56 .int 12 := ⟨by decide, rfl, by decide⟩
theorem a_57 {T : Shp} : isA (SH T) 57 .int 12 := ⟨by decide, rfl, by decide⟩
theorem a_58 {T : Shp} : isA (SH T) 58 .int 12 := ⟨by decide, rfl, by decide⟩
theorem o_59 {T : Shp} : isO (SH T) 59 3 [-1, 60, 61, 62, 63] := ⟨by decide, rfl⟩
theorem a_60 {T : Shp} : isA (SH T) 60 .int 24 := ⟨by decide, rfl, by decide⟩
theorem a_61 {T : Shp} : isA (SH T) 61 .int 24 := ⟨by decide, rfl, by decide⟩
theorem a_62 {T : Shp} : isA (SH T) 62 .int 24 := ⟨by decide, rfl, by decide⟩
theorem a_63 {T : Shp} : isA (SH T) 63 .int 24 := ⟨by decide, rfl, by decide⟩
theorem o_64 {T : Shp} : isO (SH T) 64 8 [-1, -1, 65, 66, 67, 68, 72, 77, 83] := ⟨by decide, rfl⟩
theorem a_65 {T : Shp} : isA (SH T) 65 .int 12 := ⟨by decide, rfl, by decide⟩
theorem a_66 {T : Shp} : isA (SH T) 66 .int 12 := ⟨by decide, rfl, by decide⟩
theorem a_67 {T : Shp} : isA (SH T) 67 .int 12 := ⟨by decide, rfl, by decide⟩
theorem o_68 {T : Shp} : isO (SH T) 68 0 [69, 70, 71] := ⟨by decide, rfl⟩
theorem a_69 {T : Shp} : isA (SH T) 69 .int 12 := ⟨by decide, rfl, by decide⟩
theorem a_70 {T : Shp} : isA (SH T) 70 .int 12 := ⟨by decide, rfl, by decide⟩
theorem a_71 {T : Shp} : isA (SH T) 71 .int 12 := ⟨by decide, rfl, by decide⟩
theorem o_72 {T : Shp} : isO (SH T) 72 4 [73, 74, 75, 76] := ⟨by decide, rfl⟩
theorem a_73 {T : Shp} : isA (SH T) 73 .int 12 := ⟨by decide, rfl, by decide⟩
theorem a_74 {T : Shp} : isA (SH T) 74 .int 192 := ⟨by decide, rfl, by decide⟩
theorem a_75 {T : Shp} : isA (SH T) 75 .int 192 := ⟨by decide, rfl, by decide⟩
theorem a_76 {T : Shp} : isA (SH T) 76 .int 192 := ⟨by decide, rfl, by decide⟩
theorem o_77 {T : Shp} : isO (SH T) 77 2 [78, 79, 80, 81, 82] := ⟨by decide, rfl⟩
theorem a_78 {T : Shp} : isA (SH T) 78 .int 12 := ⟨by decide, rfl, by decide⟩
theorem a_79 {T : Shp} : isA (SH T) 79 .int 12 := ⟨by decide, rfl, by decide⟩
theorem a_80 {T : Shp} : isA (SH T) 80 .int 12 := ⟨by decide, rfl, by decide⟩
theorem a_81 {T : Shp} : isA (SH T) 81 .int 12 := ⟨by decide, rfl, by decide⟩
theorem a_82 {T : Shp} : isA (SH T) 82 .int 12 := ⟨by decide, rfl, by decide⟩
theorem o_83 {T : Shp} : isO (SH T) 83 3 [-1, 84, 85, 86, 87] := ⟨by decide, rfl⟩
theorem a_84 {T : Shp} : isA (SH T) 84 .int 24 := ⟨by decide, rfl, by decide⟩
theorem a_85 {T : Shp} : isA (SH T) 85 .int 24 := ⟨by decide, rfl, by decide⟩
theorem a_86 {T : Shp} : isA (SH T) 86 .int 24 := ⟨by decide, rfl, by decide⟩
theorem a_87 {T : Shp} : isA (SH T) 87 .int 24 := ⟨by decide, rfl, by decide⟩
theorem o_88 {T : Shp} : isO (SH T) 88 8 [-1, -1, 89, 90, 91, 92, 96, 101, 107] := ⟨by decide, rfl⟩
theorem a_89 {T : Shp} : isA (SH T) 89 .int 12 := ⟨by decide, rfl, by decide⟩
theorem a_90 {T : Shp} : isA (SH T) 90 .int 12 := ⟨by decide, rfl, by decide⟩
theorem a_91 {T : Shp} : isA (SH T) 91 .int 12 := ⟨by decide, rfl, by decide⟩
theorem o_92 {T : Shp} : isO (SH T) 92 0 [93, 94, 95] := ⟨by decide, rfl⟩
theorem a_93 {T : Shp} : isA (SH T) 93 .int 12 := ⟨by decide, rfl, by decide⟩
theorem a_94 {T : Shp} : isA (SH T) 94 .int 12 := ⟨by decide, rfl, by decide⟩
theorem a_95 {T : Shp} : isA (SH T) 95 .int 12 := ⟨by decide, rfl, by decide⟩
theorem o_96 {T : Shp} : isO (SH T) 96 4 [97, 98, 99, 100] := ⟨by decide, rfl⟩
theorem a_97 {T : Shp} : isA (SH T) 97 .int 12 := ⟨by decide, rfl, by decide⟩
theorem a_98 {T : Shp} : isA (SH T) 98 .int 192 := ⟨by decide, rfl, by decide⟩
theorem a_99 {T : Shp} : isA (SH T) 99 .int 192 := ⟨by decide, rfl, by decide⟩
theorem a_100 {T : Shp} : isA (SH T) 100 .int 192 := ⟨by decide, rfl, by decide⟩
theorem o_101 {T : Shp} : isO (SH T) 101 2 [102, 103, 104, 105, 106] := ⟨by decide, rfl⟩
theorem a_102 {T : Shp} : isA (SH T) 102 .int 12 := ⟨by decide, rfl, by decide⟩
theorem a_103 {T : Shp} : isA (SH T) 103 .int 12 := ⟨by decide, rfl, by decide⟩
theorem a_104 {T : Shp} : isA (SH T) 104 .int 12 := ⟨by decide, rfl, by decide⟩
theorem a_105 {T : Shp} : isA (SH T) 105 .int 12 := ⟨by decide, rfl, by decide⟩
theorem a_106 {T : Shp} : isA (SH T) 106 .int 12 := ⟨by decide, rfl, by decide⟩
theorem o_107 {T : Shp} : isO (SH T) 107 3 [-1, 108, 109, 110, 111] := ⟨by decide, rfl⟩
theorem a_108 {T : Shp} : isA (SH T) 108 .int 24 := ⟨by decide, rfl, by decide⟩
theorem a_109 {T : Shp} : isA (SH T) 109 .int 24 := ⟨by decide, rfl, by decide⟩
theorem a_110 {T : Shp} : isA (SH T) 110 .int 24 := ⟨by decide, rfl, by decide⟩
theorem a_111 {T : Shp} : isA (SH T) 111 .int 24 := ⟨by decide, rfl, by decide⟩
theorem o_112 {T : Shp} : isO (SH T) 112 8 [-1, -1, 113, 114, 115, 116, 120, 125, 131] := ⟨by decide, rfl⟩
theorem a_113 {T : Shp} : isA (SH T) 113 .int 12 := ⟨by decide, rfl, by decide⟩
theorem a_114 {T : Shp} : isA (SH T) 114 .int 12 := ⟨by decide, rfl, by decide⟩
theorem a_115 {T : Shp} : isA (SH T) 115 .int 12 := ⟨by decide, rfl, by decide⟩
theorem o_116 {T : Shp} : isO (SH T) 116 0 [117, 118, 119] := ⟨by decide, rfl⟩
theorem a_117 {T : Shp} : isA (SH T) 117 .int 12 := ⟨by decide, rfl, by decide⟩
theorem a_118 {T : Shp} : isA (SH T) 118 .int 12 := ⟨by decide, rfl, by decide⟩
theorem a_119 {T : Shp} : isA (SH T) 119 .int 12 := ⟨by decide, rfl, by decide⟩
theorem o_120 {T : Shp} : isO (SH T) 120 4 [121, 122, 123, 124] := ⟨by decide, rfl⟩
theorem a_121 {T : Shp} : isA (SH T) 121 .int 12 := ⟨by decide, rfl, by decide⟩
theorem a_122 {T : Shp} : isA (SH T) 122 .int 192 := ⟨by decide, rfl, by decide⟩
theorem a_123 {T : Shp} : isA (SH T) 123 .int 192 := ⟨by decide, rfl, by decide⟩
theorem a_124 {T : Shp} : isA (SH T) 124 .int 192 := ⟨by decide, rfl, by decide⟩
theorem o_125 {T : Shp} : isO (SH T) 125 2 [126, 127, 128, 129, 130] := ⟨by decide, rfl⟩
theorem a_126 {T : Shp} : isA (SH T) 126 .int 12 := ⟨by decide, rfl, by decide⟩
theorem a_127 {T : Shp} : isA (SH T) 127 .int 12 := ⟨by decide, rfl, by decide⟩
theorem a_128 {T : Shp} : isA (SH T) 128 .int 12 := ⟨by decide, rfl, by decide⟩
theorem a_129 {T : Shp} : isA (SH T) 129 .int 12 := ⟨by decide, rfl, by decide⟩
theorem a_130 {T : Shp} : isA (SH T) 130 .int 12 := ⟨by decide, rfl, by decide⟩
theorem o_131 {T : Shp} : isO (SH T) 131 3 [-1, 132, 133, 134, 135] := ⟨by decide, rfl⟩
theorem a_132 {T : Shp} : isA (SH T) 132 .int 24 := ⟨by decide, rfl, by decide⟩
theorem a_133 {T : Shp} : isA (SH T) 133 .int 24 := ⟨by decide, rfl, by decide⟩
theorem a_134 {T : Shp} : isA (SH T) 134 .int 24 := ⟨by decide, rfl, by decide⟩
theorem a_135 {T : Shp} : isA (SH T) 135 .int 24 := ⟨by decide, rfl, by decide⟩
abbrev isSt (b : Int) : Prop := b = 40 ∨ b = 64 ∨ b = 88 ∨ b = 112
abbrev isSu (u : Int) : Prop := u = 4 ∨ u = 23
theorem so_0 {T : Shp} {b : Int} (h : isSt b) : isO (SH T) (b) 8 [-1, -1, b + 1, b + 2, b + 3, b + 4, b + 8, b + 13, b + 19] := by
  rcases h with rfl | rfl | rfl | rfl <;> exact ⟨by decide, rfl⟩
theorem sa_1 {T : Shp} {b : Int} (h : isSt b) : isA (SH T) (b + 1) .int 12 := by
  rcases h with rfl | rfl | rfl | rfl <;> exact ⟨by decide, rfl, by decide⟩
theorem sa_2 {T : Shp} {b : Int} (h : isSt b) : isA (SH T) (b + 2) .int 12 := by
  rcases h with rfl | rfl | rfl | rfl <;> exact ⟨by decide, rfl, by decide⟩
theorem sa_3 {T : Shp} {b : Int} (h : isSt b) : isA (SH T) (b + 3) .int 12 := by
  rcases h with rfl | rfl | rfl | rfl <;> exact ⟨by decide, rfl, by decide⟩
theorem so_4 {T : Shp} {b : Int} (h : isSt b) : isO (SH T) (b + 4) 0 [b + 5, b + 6, b + 7] := by
  rcases h with rfl | rfl | rfl | rfl <;> exact ⟨by decide, rfl⟩
theorem sa_5 {T : Shp} {b : Int} (h : isSt b) : isA (SH T) (b + 5) .int 12 := by
  rcases h with rfl | rfl | rfl | rfl <;> exact ⟨by decide, rfl, by decide⟩
theorem sa_6 {T : Shp} {b : Int} (h : isSt b) : isA (SH T) (b + 6) .int 12 := by
  rcases h with rfl | rfl | rfl | rfl <;> exact ⟨by decide, rfl, by decide⟩
theorem sa_7 {T : Shp} {b : Int} (h : isSt b) : isA (SH T) (b + 7) .int 12 := by
  rcases h with rfl | rfl | rfl | rfl <;> exact ⟨by decide, rfl, by decide⟩
theorem so_8 {T : Shp} {b : Int} (h : isSt b) : isO (SH T) (b + 8) 4 [b + 9, b + 10, b + 11, b + 12] := by
  rcases h with rfl | rfl | rfl | rfl <;> exact ⟨by decide, rfl⟩
theorem sa_9 {T : Shp} {b : Int} (h : isSt b) : isA (SH T) (b + 9) .int 12 := by
  rcases h with rfl | rfl | rfl | rfl <;> exact ⟨by decide, rfl, by decide⟩
theorem sa_10 {T : Shp} {b : Int} (h : isSt b) : isA (SH T) (b + 10) .int 192 := by
  rcases h with rfl | rfl | rfl | rfl <;> exact ⟨by decide, rfl, by decide⟩
theorem sa_11 {T : Shp} {b : Int} (h : isSt b) : isA (SH T) (b + 11) .int 192 := by
  rcases h with rfl | rfl | rfl | rfl <;> exact ⟨by decide, rfl, by decide⟩
theorem sa_12 {T : Shp} {b : Int} (h : isSt b) : isA (SH T) (b + 12) .int 192 := by
  rcases h with rfl | rfl | rfl | rfl <;> exact ⟨by decide, rfl, by decide⟩
theorem so_13 {T : Shp} {b : Int} (h : isSt b) : isO (SH T) (b + 13) 2 [b + 14, b + 15, b + 16, b + 17, b + 18] := by
  rcases h with rfl | rfl | rfl | rfl <;> exact ⟨by decide, rfl⟩
theorem sa_14 {T : Shp} {b : Int} (h : isSt b) : isA (SH T) (b + 14) .int 12 := by
  rcases h with rfl | rfl | rfl | rfl <;> exact ⟨by decide, rfl, by decide⟩
theorem sa_15 {T : Shp} {b : Int} (h : isSt b) : isA (SH T) (b + 15) .int 12 := by
  rcases h with rfl | rfl | rfl | rfl <;> exact ⟨by decide, rfl, by decide⟩
theorem sa_16 {T : Shp} {b : Int} (h : isSt b) : isA (SH T) (b + 16) .int 12 := by
  rcases h with rfl | rfl | rfl | rfl <;> exact ⟨by decide, rfl, by decide⟩
theorem sa_17 {T : Shp} {b : Int} (h : isSt b) : isA (SH T) (b + 17) .int 12 := by
  rcases h with rfl | rfl | rfl | rfl <;> exact ⟨by decide, rfl, by decide⟩
theorem sa_18 {T : Shp} {b : Int} (h : isSt b) : isA (SH T) (b + 18) .int 12 := by
  rcases h with rfl | rfl | rfl | rfl <;> exact ⟨by decide, rfl, by decide⟩
theorem so_19 {T : Shp} {b : Int} (h : isSt b) : isO (SH T) (b + 19) 3 [-1, b + 20, b + 21, b + 22, b + 23] := by
  rcases h with rfl | rfl | rfl | rfl <;> exact ⟨by decide, rfl⟩
theorem sa_20 {T : Shp} {b : Int} (h : isSt b) : isA (SH T) (b + 20) .int 24 := by
  rcases h with rfl | rfl | rfl | rfl <;> exact ⟨by decide, rfl, by decide⟩
theorem sa_21 {T : Shp} {b : Int} (h : isSt b) : isA (SH T) (b + 21) .int 24 := by
  rcases h with rfl | rfl | rfl | rfl <;> exact ⟨by decide, rfl, by decide⟩
theorem sa_22 {T : Shp} {b : Int} (h : isSt b) : isA (SH T) (b + 22) .int 24 := by
  rcases h with rfl | rfl | rfl | rfl <;> exact ⟨by decide, rfl, by decide⟩
theorem sa_23 {T : Shp} {b : Int} (h : isSt b) : isA (SH T) (b + 23) .int 24 := by
  rcases h with rfl | rfl | rfl | rfl <;> exact ⟨by decide, rfl, by decide⟩
theorem to_0 {T : Shp} {u : Int} (h : isSu u) : isO (SH T) (u) 7 [-1, u + 1, u + 2, u + 3, u + 4, u + 5, u + 6, u + 7, u + 8, u + 9, u + 10, u + 11, u + 12] := by
  rcases h with rfl | rfl <;> exact ⟨by decide, rfl⟩
theorem ta_1 {T : Shp} {u : Int} (h : isSu u) : isA (SH T) (u + 1) .long 12 := by
  rcases h with rfl | rfl <;> exact ⟨by decide, rfl, by decide⟩
theorem ta_2 {T : Shp} {u : Int} (h : isSu u) : isA (SH T) (u + 2) .int 12 := by
  rcases h with rfl | rfl <;> exact ⟨by decide, rfl, by decide⟩
theorem ta_3 {T : Shp} {u : Int} (h : isSu u) : isA (SH T) (u + 3) .int 12 := by
  rcases h with rfl | rfl <;> exact ⟨by decide, rfl, by decide⟩
theorem ta_4 {T : Shp} {u : Int} (h : isSu u) : isA (SH T) (u + 4) .int 12 := by
  rcases h with rfl | rfl <;> exact ⟨by decide, rfl, by decide⟩
theorem ta_5 {T : Shp} {u : Int} (h : isSu u) : isA (SH T) (u + 5) .int 12 := by
  rcases h with rfl | rfl <;> exact ⟨by decide, rfl, by decide⟩
theorem ta_6 {T : Shp} {u : Int} (h : isSu u) : isA (SH T) (u + 6) .int 12 := by
  rcases h with rfl | rfl <;> exact ⟨by decide, rfl, by decide⟩
theorem ta_7 {T : Shp} {u : Int} (h : isSu u) : isA (SH T) (u + 7) .int 12 := by
  rcases h with rfl | rfl <;> exact ⟨by decide, rfl, by decide⟩
theorem ta_8 {T : Shp} {u : Int} (h : isSu u) : isA (SH T) (u + 8) .int 12 := by
  rcases h with rfl | rfl <;> exact ⟨by decide, rfl, by decide⟩
theorem ta_9 {T : Shp} {u : Int} (h : isSu u) : isA (SH T) (u + 9) .int 12 := by
  rcases h with rfl | rfl <;> exact ⟨by decide, rfl, by decide⟩
theorem ta_10 {T : Shp} {u : Int} (h : isSu u) : isA (SH T) (u + 10) .int 12 := by
  rcases h with rfl | rfl <;> exact ⟨by decide, rfl, by decide⟩
theorem ta_11 {T : Shp} {u : Int} (h : isSu u) : isA (SH T) (u + 11) .boolean 12 := by
  rcases h with rfl | rfl <;> exact ⟨by decide, rfl, by decide⟩
theorem to_12 {T : Shp} {u : Int} (h : isSu u) : isO (SH T) (u + 12) 1 [-1, u + 13, u + 14, u + 15, u + 16] := by
  rcases h with rfl | rfl <;> exact ⟨by decide, rfl⟩
theorem ta_13 {T : Shp} {u : Int} (h : isSu u) : isA (SH T) (u + 13) .int 12 := by
  rcases h with rfl | rfl <;> exact ⟨by decide, rfl, by decide⟩
theorem ta_14 {T : Shp} {u : Int} (h : isSu u) : isA (SH T) (u + 14) .int 12 := by
  rcases h with rfl | rfl <;> exact ⟨by decide, rfl, by decide⟩
theorem ta_15 {T : Shp} {u : Int} (h : isSu u) : isA (SH T) (u + 15) .int 12 := by
  rcases h with rfl | rfl <;> exact ⟨by decide, rfl, by decide⟩
theorem ta_16 {T : Shp} {u : Int} (h : isSu u) : isA (SH T) (u + 16) .int 12 := by
  rcases h with rfl | rfl <;> exact ⟨by decide, rfl, by decide⟩
section RQ
variable {X : KX} {sh : Shp} {cs ss pc : Nat} {L : List (Option Value)} {st : List Value} {F : Hp} {Z : State → Prop} {own : String} {cc : ByteArray} {nL : Nat} {ret : Option FieldType} {fr lo mc ms : Nat}
theorem R_getoE (hX : Ok X own cc nL ret fr lo mc ms) {idx ci : Nat} {j k v : Int} {fin : Bool} {n : String} (hd : decode cc pc = .ok (.getfield idx, 3)) (hf : FLk own idx ci j (.object n) fin) {rs : List Int} (ho : isO sh k ci rs) (hz0 : rs.getD j.toNat (-1) = -1) (he : F k j = v) (kk : R X sh cs ss (pc + 3) L (vr (xV X) v :: st) F Z) : R X sh cs ss pc L (vr (xV X) k :: st) F Z := R_geto hX hd hf ho hz0 (by rw [he]; exact kk)

theorem R_drop_0 {a : Option Value} {T : List (Option Value)} (k : R X sh cs ss pc (none :: T) st F Z) : R X sh cs ss pc (a :: T) st F Z := R.drop (none :: T) (by simp only [List.length_cons]) (fun i v h => by
  rcases Nat.lt_trichotomy i 0 with q | q | q
  · rcases i with _ <;> first | exact h | omega
  · subst q; cases h
  · obtain ⟨j, rfl⟩ : ∃ j, i = j + 1 := ⟨i - 1, by omega⟩
    exact h) k
theorem R_drop_1 {a0 : Option Value} {a : Option Value} {T : List (Option Value)} (k : R X sh cs ss pc (a0 :: none :: T) st F Z) : R X sh cs ss pc (a0 :: a :: T) st F Z := R.drop (a0 :: none :: T) (by simp only [List.length_cons]) (fun i v h => by
  rcases Nat.lt_trichotomy i 1 with q | q | q
  · rcases i with _ | _ <;> first | exact h | omega
  · subst q; cases h
  · obtain ⟨j, rfl⟩ : ∃ j, i = j + 2 := ⟨i - 2, by omega⟩
    exact h) k
theorem R_drop_2 {a0 a1 : Option Value} {a : Option Value} {T : List (Option Value)} (k : R X sh cs ss pc (a0 :: a1 :: none :: T) st F Z) : R X sh cs ss pc (a0 :: a1 :: a :: T) st F Z := R.drop (a0 :: a1 :: none :: T) (by simp only [List.length_cons]) (fun i v h => by
  rcases Nat.lt_trichotomy i 2 with q | q | q
  · rcases i with _ | _ | _ <;> first | exact h | omega
  · subst q; cases h
  · obtain ⟨j, rfl⟩ : ∃ j, i = j + 3 := ⟨i - 3, by omega⟩
    exact h) k
theorem R_drop_3 {a0 a1 a2 : Option Value} {a : Option Value} {T : List (Option Value)} (k : R X sh cs ss pc (a0 :: a1 :: a2 :: none :: T) st F Z) : R X sh cs ss pc (a0 :: a1 :: a2 :: a :: T) st F Z := R.drop (a0 :: a1 :: a2 :: none :: T) (by simp only [List.length_cons]) (fun i v h => by
  rcases Nat.lt_trichotomy i 3 with q | q | q
  · rcases i with _ | _ | _ | _ <;> first | exact h | omega
  · subst q; cases h
  · obtain ⟨j, rfl⟩ : ∃ j, i = j + 4 := ⟨i - 4, by omega⟩
    exact h) k
theorem R_drop_4 {a0 a1 a2 a3 : Option Value} {a : Option Value} {T : List (Option Value)} (k : R X sh cs ss pc (a0 :: a1 :: a2 :: a3 :: none :: T) st F Z) : R X sh cs ss pc (a0 :: a1 :: a2 :: a3 :: a :: T) st F Z := R.drop (a0 :: a1 :: a2 :: a3 :: none :: T) (by simp only [List.length_cons]) (fun i v h => by
  rcases Nat.lt_trichotomy i 4 with q | q | q
  · rcases i with _ | _ | _ | _ | _ <;> first | exact h | omega
  · subst q; cases h
  · obtain ⟨j, rfl⟩ : ∃ j, i = j + 5 := ⟨i - 5, by omega⟩
    exact h) k
theorem R_drop_5 {a0 a1 a2 a3 a4 : Option Value} {a : Option Value} {T : List (Option Value)} (k : R X sh cs ss pc (a0 :: a1 :: a2 :: a3 :: a4 :: none :: T) st F Z) : R X sh cs ss pc (a0 :: a1 :: a2 :: a3 :: a4 :: a :: T) st F Z := R.drop (a0 :: a1 :: a2 :: a3 :: a4 :: none :: T) (by simp only [List.length_cons]) (fun i v h => by
  rcases Nat.lt_trichotomy i 5 with q | q | q
  · rcases i with _ | _ | _ | _ | _ | _ <;> first | exact h | omega
  · subst q; cases h
  · obtain ⟨j, rfl⟩ : ∃ j, i = j + 6 := ⟨i - 6, by omega⟩
    exact h) k
theorem R_drop_6 {a0 a1 a2 a3 a4 a5 : Option Value} {a : Option Value} {T : List (Option Value)} (k : R X sh cs ss pc (a0 :: a1 :: a2 :: a3 :: a4 :: a5 :: none :: T) st F Z) : R X sh cs ss pc (a0 :: a1 :: a2 :: a3 :: a4 :: a5 :: a :: T) st F Z := R.drop (a0 :: a1 :: a2 :: a3 :: a4 :: a5 :: none :: T) (by simp only [List.length_cons]) (fun i v h => by
  rcases Nat.lt_trichotomy i 6 with q | q | q
  · rcases i with _ | _ | _ | _ | _ | _ | _ <;> first | exact h | omega
  · subst q; cases h
  · obtain ⟨j, rfl⟩ : ∃ j, i = j + 7 := ⟨i - 7, by omega⟩
    exact h) k
theorem R_drop_7 {a0 a1 a2 a3 a4 a5 a6 : Option Value} {a : Option Value} {T : List (Option Value)} (k : R X sh cs ss pc (a0 :: a1 :: a2 :: a3 :: a4 :: a5 :: a6 :: none :: T) st F Z) : R X sh cs ss pc (a0 :: a1 :: a2 :: a3 :: a4 :: a5 :: a6 :: a :: T) st F Z := R.drop (a0 :: a1 :: a2 :: a3 :: a4 :: a5 :: a6 :: none :: T) (by simp only [List.length_cons]) (fun i v h => by
  rcases Nat.lt_trichotomy i 7 with q | q | q
  · rcases i with _ | _ | _ | _ | _ | _ | _ | _ <;> first | exact h | omega
  · subst q; cases h
  · obtain ⟨j, rfl⟩ : ∃ j, i = j + 8 := ⟨i - 8, by omega⟩
    exact h) k
theorem R_drop_8 {a0 a1 a2 a3 a4 a5 a6 a7 : Option Value} {a : Option Value} {T : List (Option Value)} (k : R X sh cs ss pc (a0 :: a1 :: a2 :: a3 :: a4 :: a5 :: a6 :: a7 :: none :: T) st F Z) : R X sh cs ss pc (a0 :: a1 :: a2 :: a3 :: a4 :: a5 :: a6 :: a7 :: a :: T) st F Z := R.drop (a0 :: a1 :: a2 :: a3 :: a4 :: a5 :: a6 :: a7 :: none :: T) (by simp only [List.length_cons]) (fun i v h => by
  rcases Nat.lt_trichotomy i 8 with q | q | q
  · rcases i with _ | _ | _ | _ | _ | _ | _ | _ | _ <;> first | exact h | omega
  · subst q; cases h
  · obtain ⟨j, rfl⟩ : ∃ j, i = j + 9 := ⟨i - 9, by omega⟩
    exact h) k
theorem R_drop_9 {a0 a1 a2 a3 a4 a5 a6 a7 a8 : Option Value} {a : Option Value} {T : List (Option Value)} (k : R X sh cs ss pc (a0 :: a1 :: a2 :: a3 :: a4 :: a5 :: a6 :: a7 :: a8 :: none :: T) st F Z) : R X sh cs ss pc (a0 :: a1 :: a2 :: a3 :: a4 :: a5 :: a6 :: a7 :: a8 :: a :: T) st F Z := R.drop (a0 :: a1 :: a2 :: a3 :: a4 :: a5 :: a6 :: a7 :: a8 :: none :: T) (by simp only [List.length_cons]) (fun i v h => by
  rcases Nat.lt_trichotomy i 9 with q | q | q
  · rcases i with _ | _ | _ | _ | _ | _ | _ | _ | _ | _ <;> first | exact h | omega
  · subst q; cases h
  · obtain ⟨j, rfl⟩ : ∃ j, i = j + 10 := ⟨i - 10, by omega⟩
    exact h) k
theorem R_drop_10 {a0 a1 a2 a3 a4 a5 a6 a7 a8 a9 : Option Value} {a : Option Value} {T : List (Option Value)} (k : R X sh cs ss pc (a0 :: a1 :: a2 :: a3 :: a4 :: a5 :: a6 :: a7 :: a8 :: a9 :: none :: T) st F Z) : R X sh cs ss pc (a0 :: a1 :: a2 :: a3 :: a4 :: a5 :: a6 :: a7 :: a8 :: a9 :: a :: T) st F Z := R.drop (a0 :: a1 :: a2 :: a3 :: a4 :: a5 :: a6 :: a7 :: a8 :: a9 :: none :: T) (by simp only [List.length_cons]) (fun i v h => by
  rcases Nat.lt_trichotomy i 10 with q | q | q
  · rcases i with _ | _ | _ | _ | _ | _ | _ | _ | _ | _ | _ <;> first | exact h | omega
  · subst q; cases h
  · obtain ⟨j, rfl⟩ : ∃ j, i = j + 11 := ⟨i - 11, by omega⟩
    exact h) k
theorem R_drop_11 {a0 a1 a2 a3 a4 a5 a6 a7 a8 a9 a10 : Option Value} {a : Option Value} {T : List (Option Value)} (k : R X sh cs ss pc (a0 :: a1 :: a2 :: a3 :: a4 :: a5 :: a6 :: a7 :: a8 :: a9 :: a10 :: none :: T) st F Z) : R X sh cs ss pc (a0 :: a1 :: a2 :: a3 :: a4 :: a5 :: a6 :: a7 :: a8 :: a9 :: a10 :: a :: T) st F Z := R.drop (a0 :: a1 :: a2 :: a3 :: a4 :: a5 :: a6 :: a7 :: a8 :: a9 :: a10 :: none :: T) (by simp only [List.length_cons]) (fun i v h => by
  rcases Nat.lt_trichotomy i 11 with q | q | q
  · rcases i with _ | _ | _ | _ | _ | _ | _ | _ | _ | _ | _ | _ <;> first | exact h | omega
  · subst q; cases h
  · obtain ⟨j, rfl⟩ : ∃ j, i = j + 12 := ⟨i - 12, by omega⟩
    exact h) k
theorem R_drop_12 {a0 a1 a2 a3 a4 a5 a6 a7 a8 a9 a10 a11 : Option Value} {a : Option Value} {T : List (Option Value)} (k : R X sh cs ss pc (a0 :: a1 :: a2 :: a3 :: a4 :: a5 :: a6 :: a7 :: a8 :: a9 :: a10 :: a11 :: none :: T) st F Z) : R X sh cs ss pc (a0 :: a1 :: a2 :: a3 :: a4 :: a5 :: a6 :: a7 :: a8 :: a9 :: a10 :: a11 :: a :: T) st F Z := R.drop (a0 :: a1 :: a2 :: a3 :: a4 :: a5 :: a6 :: a7 :: a8 :: a9 :: a10 :: a11 :: none :: T) (by simp only [List.length_cons]) (fun i v h => by
  rcases Nat.lt_trichotomy i 12 with q | q | q
  · rcases i with _ | _ | _ | _ | _ | _ | _ | _ | _ | _ | _ | _ | _ <;> first | exact h | omega
  · subst q; cases h
  · obtain ⟨j, rfl⟩ : ∃ j, i = j + 13 := ⟨i - 13, by omega⟩
    exact h) k
end RQ
