theorem dL_mixed_0 : decode cL_mixed 0 = .ok (.iload_n 0, 1) := by decide +kernel
theorem dL_mixed_1 : decode cL_mixed 1 = .ok (.ldc 7, 2) := by decide +kernel
theorem dL_mixed_3 : decode cL_mixed 3 = .ok (.imul, 1) := by decide +kernel
theorem dL_mixed_4 : decode cL_mixed 4 = .ok (.sipush 12345, 3) := by decide +kernel
theorem dL_mixed_7 : decode cL_mixed 7 = .ok (.iadd, 1) := by decide +kernel
theorem dL_mixed_8 : decode cL_mixed 8 = .ok (.bipush 9, 2) := by decide +kernel
theorem dL_mixed_10 : decode cL_mixed 10 = .ok (.iushr, 1) := by decide +kernel
theorem dL_mixed_11 : decode cL_mixed 11 = .ok (.ireturn, 1) := by decide +kernel
theorem dL_draw_0 : decode cL_draw 0 = .ok (.aload_n 0, 1) := by decide +kernel
theorem dL_draw_1 : decode cL_draw 1 = .ok (.iconst 0, 1) := by decide +kernel
theorem dL_draw_2 : decode cL_draw 2 = .ok (.aload_n 0, 1) := by decide +kernel
theorem dL_draw_3 : decode cL_draw 3 = .ok (.iconst 0, 1) := by decide +kernel
theorem dL_draw_4 : decode cL_draw 4 = .ok (.iaload, 1) := by decide +kernel
theorem dL_draw_5 : decode cL_draw 5 = .ok (.bipush 77, 2) := by decide +kernel
theorem dL_draw_7 : decode cL_draw 7 = .ok (.iadd, 1) := by decide +kernel
theorem dL_draw_8 : decode cL_draw 8 = .ok (.invokestatic 8, 3) := by decide +kernel
theorem dL_draw_11 : decode cL_draw 11 = .ok (.iastore, 1) := by decide +kernel
theorem dL_draw_12 : decode cL_draw 12 = .ok (.aload_n 0, 1) := by decide +kernel
theorem dL_draw_13 : decode cL_draw 13 = .ok (.iconst 0, 1) := by decide +kernel
theorem dL_draw_14 : decode cL_draw 14 = .ok (.iaload, 1) := by decide +kernel
theorem dL_draw_15 : decode cL_draw 15 = .ok (.iconst 3, 1) := by decide +kernel
theorem dL_draw_16 : decode cL_draw 16 = .ok (.iushr, 1) := by decide +kernel
theorem dL_draw_17 : decode cL_draw 17 = .ok (.iload_n 1, 1) := by decide +kernel
theorem dL_draw_18 : decode cL_draw 18 = .ok (.irem, 1) := by decide +kernel
theorem dL_draw_19 : decode cL_draw 19 = .ok (.ireturn, 1) := by decide +kernel
theorem dL_fill_0 : decode cL_fill 0 = .ok (.iconst 5, 1) := by decide +kernel
theorem dL_fill_1 : decode cL_fill 1 = .ok (.newarray .int, 2) := by decide +kernel
theorem dL_fill_3 : decode cL_fill 3 = .ok (.astore_n 2, 1) := by decide +kernel
theorem dL_fill_4 : decode cL_fill 4 = .ok (.iconst 0, 1) := by decide +kernel
theorem dL_fill_5 : decode cL_fill 5 = .ok (.istore_n 3, 1) := by decide +kernel
theorem dL_fill_6 : decode cL_fill 6 = .ok (.iload_n 3, 1) := by decide +kernel
theorem dL_fill_7 : decode cL_fill 7 = .ok (.aload_n 1, 1) := by decide +kernel
theorem dL_fill_8 : decode cL_fill 8 = .ok (.invokevirtual 14, 3) := by decide +kernel
theorem dL_fill_11 : decode cL_fill 11 = .ok (.if_icmp .ge 88, 3) := by decide +kernel
theorem dL_fill_14 : decode cL_fill 14 = .ok (.iconst 0, 1) := by decide +kernel
theorem dL_fill_15 : decode cL_fill 15 = .ok (.istore 4, 2) := by decide +kernel
theorem dL_fill_17 : decode cL_fill 17 = .ok (.iload 4, 2) := by decide +kernel
theorem dL_fill_19 : decode cL_fill 19 = .ok (.bipush 20, 2) := by decide +kernel
theorem dL_fill_21 : decode cL_fill 21 = .ok (.if_icmp .ge 52, 3) := by decide +kernel
theorem dL_fill_24 : decode cL_fill 24 = .ok (.aload_n 2, 1) := by decide +kernel
theorem dL_fill_25 : decode cL_fill 25 = .ok (.iload 4, 2) := by decide +kernel
theorem dL_fill_27 : decode cL_fill 27 = .ok (.iconst 4, 1) := by decide +kernel
theorem dL_fill_28 : decode cL_fill 28 = .ok (.idiv, 1) := by decide +kernel
theorem dL_fill_29 : decode cL_fill 29 = .ok (.aload_n 2, 1) := by decide +kernel
theorem dL_fill_30 : decode cL_fill 30 = .ok (.iload 4, 2) := by decide +kernel
theorem dL_fill_32 : decode cL_fill 32 = .ok (.iconst 4, 1) := by decide +kernel
theorem dL_fill_33 : decode cL_fill 33 = .ok (.idiv, 1) := by decide +kernel
theorem dL_fill_34 : decode cL_fill 34 = .ok (.iaload, 1) := by decide +kernel
theorem dL_fill_35 : decode cL_fill 35 = .ok (.bipush 8, 2) := by decide +kernel
theorem dL_fill_37 : decode cL_fill 37 = .ok (.ishl, 1) := by decide +kernel
theorem dL_fill_38 : decode cL_fill 38 = .ok (.iload_n 3, 1) := by decide +kernel
theorem dL_fill_39 : decode cL_fill 39 = .ok (.iload 4, 2) := by decide +kernel
theorem dL_fill_41 : decode cL_fill 41 = .ok (.iadd, 1) := by decide +kernel
theorem dL_fill_42 : decode cL_fill 42 = .ok (.aload_n 1, 1) := by decide +kernel
theorem dL_fill_43 : decode cL_fill 43 = .ok (.invokevirtual 14, 3) := by decide +kernel
theorem dL_fill_46 : decode cL_fill 46 = .ok (.if_icmp .ge 18, 3) := by decide +kernel
theorem dL_fill_49 : decode cL_fill 49 = .ok (.aload_n 1, 1) := by decide +kernel
theorem dL_fill_50 : decode cL_fill 50 = .ok (.iload_n 3, 1) := by decide +kernel
theorem dL_fill_51 : decode cL_fill 51 = .ok (.iload 4, 2) := by decide +kernel
theorem dL_fill_53 : decode cL_fill 53 = .ok (.iadd, 1) := by decide +kernel
theorem dL_fill_54 : decode cL_fill 54 = .ok (.invokevirtual 20, 3) := by decide +kernel
theorem dL_fill_57 : decode cL_fill 57 = .ok (.sipush 255, 3) := by decide +kernel
theorem dL_fill_60 : decode cL_fill 60 = .ok (.iand, 1) := by decide +kernel
theorem dL_fill_61 : decode cL_fill 61 = .ok (.goto 4, 3) := by decide +kernel
theorem dL_fill_64 : decode cL_fill 64 = .ok (.iconst 0, 1) := by decide +kernel
theorem dL_fill_65 : decode cL_fill 65 = .ok (.ior, 1) := by decide +kernel
theorem dL_fill_66 : decode cL_fill 66 = .ok (.iastore, 1) := by decide +kernel
theorem dL_fill_67 : decode cL_fill 67 = .ok (.iinc 4 1, 3) := by decide +kernel
theorem dL_fill_70 : decode cL_fill 70 = .ok (.goto (-53), 3) := by decide +kernel
theorem dL_fill_73 : decode cL_fill 73 = .ok (.aload_n 0, 1) := by decide +kernel
theorem dL_fill_74 : decode cL_fill 74 = .ok (.aload_n 2, 1) := by decide +kernel
theorem dL_fill_75 : decode cL_fill 75 = .ok (.iconst 0, 1) := by decide +kernel
theorem dL_fill_76 : decode cL_fill 76 = .ok (.iaload, 1) := by decide +kernel
theorem dL_fill_77 : decode cL_fill 77 = .ok (.aload_n 2, 1) := by decide +kernel
theorem dL_fill_78 : decode cL_fill 78 = .ok (.iconst 1, 1) := by decide +kernel
theorem dL_fill_79 : decode cL_fill 79 = .ok (.iaload, 1) := by decide +kernel
theorem dL_fill_80 : decode cL_fill 80 = .ok (.aload_n 2, 1) := by decide +kernel
theorem dL_fill_81 : decode cL_fill 81 = .ok (.iconst 2, 1) := by decide +kernel
theorem dL_fill_82 : decode cL_fill 82 = .ok (.iaload, 1) := by decide +kernel
theorem dL_fill_83 : decode cL_fill 83 = .ok (.aload_n 2, 1) := by decide +kernel
theorem dL_fill_84 : decode cL_fill 84 = .ok (.iconst 3, 1) := by decide +kernel
theorem dL_fill_85 : decode cL_fill 85 = .ok (.iaload, 1) := by decide +kernel
theorem dL_fill_86 : decode cL_fill 86 = .ok (.aload_n 2, 1) := by decide +kernel
theorem dL_fill_87 : decode cL_fill 87 = .ok (.iconst 4, 1) := by decide +kernel
theorem dL_fill_88 : decode cL_fill 88 = .ok (.iaload, 1) := by decide +kernel
theorem dL_fill_89 : decode cL_fill 89 = .ok (.invokevirtual 24, 3) := by decide +kernel
theorem dL_fill_92 : decode cL_fill 92 = .ok (.pop, 1) := by decide +kernel
theorem dL_fill_93 : decode cL_fill 93 = .ok (.iinc 3 20, 3) := by decide +kernel
theorem dL_fill_96 : decode cL_fill 96 = .ok (.goto (-90), 3) := by decide +kernel
theorem dL_fill_99 : decode cL_fill 99 = .ok (.aload_n 0, 1) := by decide +kernel
theorem dL_fill_100 : decode cL_fill 100 = .ok (.aload_n 1, 1) := by decide +kernel
theorem dL_fill_101 : decode cL_fill 101 = .ok (.invokevirtual 14, 3) := by decide +kernel
theorem dL_fill_104 : decode cL_fill 104 = .ok (.invokevirtual 30, 3) := by decide +kernel
theorem dL_fill_107 : decode cL_fill 107 = .ok (.aload_n 1, 1) := by decide +kernel
theorem dL_fill_108 : decode cL_fill 108 = .ok (.invokevirtual 14, 3) := by decide +kernel
theorem dL_fill_111 : decode cL_fill 111 = .ok (.if_icmp .ne 7, 3) := by decide +kernel
theorem dL_fill_114 : decode cL_fill 114 = .ok (.iconst 1, 1) := by decide +kernel
theorem dL_fill_115 : decode cL_fill 115 = .ok (.goto 4, 3) := by decide +kernel
theorem dL_fill_118 : decode cL_fill 118 = .ok (.iconst 0, 1) := by decide +kernel
theorem dL_fill_119 : decode cL_fill 119 = .ok (.ireturn, 1) := by decide +kernel
theorem dL_stands_0 : decode cL_stands 0 = .ok (.aload_n 0, 1) := by decide +kernel
theorem dL_stands_1 : decode cL_stands 1 = .ok (.aload_n 1, 1) := by decide +kernel
theorem dL_stands_2 : decode cL_stands 2 = .ok (.invokevirtual 33, 3) := by decide +kernel
theorem dL_stands_5 : decode cL_stands 5 = .ok (.invokestatic 39, 3) := by decide +kernel
theorem dL_stands_8 : decode cL_stands 8 = .ok (.ifCond .eq 34, 3) := by decide +kernel
theorem dL_stands_11 : decode cL_stands 11 = .ok (.aload_n 0, 1) := by decide +kernel
theorem dL_stands_12 : decode cL_stands 12 = .ok (.invokevirtual 43, 3) := by decide +kernel
theorem dL_stands_15 : decode cL_stands 15 = .ok (.aload_n 1, 1) := by decide +kernel
theorem dL_stands_16 : decode cL_stands 16 = .ok (.getfield 46, 3) := by decide +kernel
theorem dL_stands_19 : decode cL_stands 19 = .ok (.if_icmp .ne 23, 3) := by decide +kernel
theorem dL_stands_22 : decode cL_stands 22 = .ok (.aload_n 0, 1) := by decide +kernel
theorem dL_stands_23 : decode cL_stands 23 = .ok (.invokevirtual 50, 3) := by decide +kernel
theorem dL_stands_26 : decode cL_stands 26 = .ok (.ifCond .ne 16, 3) := by decide +kernel
theorem dL_stands_29 : decode cL_stands 29 = .ok (.aload_n 0, 1) := by decide +kernel
theorem dL_stands_30 : decode cL_stands 30 = .ok (.invokevirtual 53, 3) := by decide +kernel
theorem dL_stands_33 : decode cL_stands 33 = .ok (.bipush (-2), 2) := by decide +kernel
theorem dL_stands_35 : decode cL_stands 35 = .ok (.if_icmp .ne 7, 3) := by decide +kernel
theorem dL_stands_38 : decode cL_stands 38 = .ok (.iconst 1, 1) := by decide +kernel
theorem dL_stands_39 : decode cL_stands 39 = .ok (.goto 4, 3) := by decide +kernel
theorem dL_stands_42 : decode cL_stands 42 = .ok (.iconst 0, 1) := by decide +kernel
theorem dL_stands_43 : decode cL_stands 43 = .ok (.ireturn, 1) := by decide +kernel
theorem dL_same_0 : decode cL_same 0 = .ok (.aload_n 0, 1) := by decide +kernel
theorem dL_same_1 : decode cL_same 1 = .ok (.invokevirtual 56, 3) := by decide +kernel
theorem dL_same_4 : decode cL_same 4 = .ok (.aload_n 1, 1) := by decide +kernel
theorem dL_same_5 : decode cL_same 5 = .ok (.getfield 59, 3) := by decide +kernel
theorem dL_same_8 : decode cL_same 8 = .ok (.if_icmp .ne 18, 3) := by decide +kernel
theorem dL_same_11 : decode cL_same 11 = .ok (.aload_n 0, 1) := by decide +kernel
theorem dL_same_12 : decode cL_same 12 = .ok (.invokevirtual 61, 3) := by decide +kernel
theorem dL_same_15 : decode cL_same 15 = .ok (.aload_n 1, 1) := by decide +kernel
theorem dL_same_16 : decode cL_same 16 = .ok (.invokevirtual 64, 3) := by decide +kernel
theorem dL_same_19 : decode cL_same 19 = .ok (.if_icmp .ne 7, 3) := by decide +kernel
theorem dL_same_22 : decode cL_same 22 = .ok (.iconst 1, 1) := by decide +kernel
theorem dL_same_23 : decode cL_same 23 = .ok (.goto 4, 3) := by decide +kernel
theorem dL_same_26 : decode cL_same 26 = .ok (.iconst 0, 1) := by decide +kernel
theorem dL_same_27 : decode cL_same 27 = .ok (.istore_n 2, 1) := by decide +kernel
theorem dL_same_28 : decode cL_same 28 = .ok (.iconst 0, 1) := by decide +kernel
theorem dL_same_29 : decode cL_same 29 = .ok (.istore_n 3, 1) := by decide +kernel
theorem dL_same_30 : decode cL_same 30 = .ok (.iload_n 3, 1) := by decide +kernel
theorem dL_same_31 : decode cL_same 31 = .ok (.aload_n 1, 1) := by decide +kernel
theorem dL_same_32 : decode cL_same 32 = .ok (.getfield 46, 3) := by decide +kernel
theorem dL_same_35 : decode cL_same 35 = .ok (.if_icmp .ge 218, 3) := by decide +kernel
theorem dL_same_38 : decode cL_same 38 = .ok (.iload_n 2, 1) := by decide +kernel
theorem dL_same_39 : decode cL_same 39 = .ok (.ifCond .eq 214, 3) := by decide +kernel
theorem dL_same_42 : decode cL_same 42 = .ok (.aload_n 0, 1) := by decide +kernel
theorem dL_same_43 : decode cL_same 43 = .ok (.iload_n 3, 1) := by decide +kernel
theorem dL_same_44 : decode cL_same 44 = .ok (.invokevirtual 67, 3) := by decide +kernel
theorem dL_same_47 : decode cL_same 47 = .ok (.aload_n 1, 1) := by decide +kernel
theorem dL_same_48 : decode cL_same 48 = .ok (.getfield 70, 3) := by decide +kernel
theorem dL_same_51 : decode cL_same 51 = .ok (.iload_n 3, 1) := by decide +kernel
theorem dL_same_52 : decode cL_same 52 = .ok (.iaload, 1) := by decide +kernel
theorem dL_same_53 : decode cL_same 53 = .ok (.if_icmp .ne 49, 3) := by decide +kernel
theorem dL_same_56 : decode cL_same 56 = .ok (.aload_n 0, 1) := by decide +kernel
theorem dL_same_57 : decode cL_same 57 = .ok (.iload_n 3, 1) := by decide +kernel
theorem dL_same_58 : decode cL_same 58 = .ok (.invokevirtual 73, 3) := by decide +kernel
theorem dL_same_61 : decode cL_same 61 = .ok (.aload_n 1, 1) := by decide +kernel
theorem dL_same_62 : decode cL_same 62 = .ok (.getfield 76, 3) := by decide +kernel
theorem dL_same_65 : decode cL_same 65 = .ok (.iload_n 3, 1) := by decide +kernel
theorem dL_same_66 : decode cL_same 66 = .ok (.iaload, 1) := by decide +kernel
theorem dL_same_67 : decode cL_same 67 = .ok (.if_icmp .ne 35, 3) := by decide +kernel
theorem dL_same_70 : decode cL_same 70 = .ok (.aload_n 0, 1) := by decide +kernel
theorem dL_same_71 : decode cL_same 71 = .ok (.iload_n 3, 1) := by decide +kernel
theorem dL_same_72 : decode cL_same 72 = .ok (.invokevirtual 78, 3) := by decide +kernel
theorem dL_same_75 : decode cL_same 75 = .ok (.aload_n 1, 1) := by decide +kernel
theorem dL_same_76 : decode cL_same 76 = .ok (.getfield 81, 3) := by decide +kernel
theorem dL_same_79 : decode cL_same 79 = .ok (.iload_n 3, 1) := by decide +kernel
theorem dL_same_80 : decode cL_same 80 = .ok (.iaload, 1) := by decide +kernel
theorem dL_same_81 : decode cL_same 81 = .ok (.if_icmp .ne 21, 3) := by decide +kernel
theorem dL_same_84 : decode cL_same 84 = .ok (.aload_n 0, 1) := by decide +kernel
theorem dL_same_85 : decode cL_same 85 = .ok (.iload_n 3, 1) := by decide +kernel
theorem dL_same_86 : decode cL_same 86 = .ok (.invokevirtual 84, 3) := by decide +kernel
theorem dL_same_89 : decode cL_same 89 = .ok (.aload_n 1, 1) := by decide +kernel
theorem dL_same_90 : decode cL_same 90 = .ok (.getfield 87, 3) := by decide +kernel
theorem dL_same_93 : decode cL_same 93 = .ok (.iload_n 3, 1) := by decide +kernel
theorem dL_same_94 : decode cL_same 94 = .ok (.iaload, 1) := by decide +kernel
theorem dL_same_95 : decode cL_same 95 = .ok (.if_icmp .ne 7, 3) := by decide +kernel
theorem dL_same_98 : decode cL_same 98 = .ok (.iconst 1, 1) := by decide +kernel
theorem dL_same_99 : decode cL_same 99 = .ok (.goto 4, 3) := by decide +kernel
theorem dL_same_102 : decode cL_same 102 = .ok (.iconst 0, 1) := by decide +kernel
theorem dL_same_103 : decode cL_same 103 = .ok (.istore_n 2, 1) := by decide +kernel
theorem dL_same_104 : decode cL_same 104 = .ok (.aload_n 1, 1) := by decide +kernel
theorem dL_same_105 : decode cL_same 105 = .ok (.iload_n 3, 1) := by decide +kernel
theorem dL_same_106 : decode cL_same 106 = .ok (.invokevirtual 90, 3) := by decide +kernel
theorem dL_same_109 : decode cL_same 109 = .ok (.ifCond .ne 42, 3) := by decide +kernel
theorem dL_same_112 : decode cL_same 112 = .ok (.iload_n 2, 1) := by decide +kernel
theorem dL_same_113 : decode cL_same 113 = .ok (.ifCond .eq 33, 3) := by decide +kernel
theorem dL_same_116 : decode cL_same 116 = .ok (.aload_n 0, 1) := by decide +kernel
theorem dL_same_117 : decode cL_same 117 = .ok (.iload_n 3, 1) := by decide +kernel
theorem dL_same_118 : decode cL_same 118 = .ok (.invokevirtual 94, 3) := by decide +kernel
theorem dL_same_121 : decode cL_same 121 = .ok (.iconst (-1), 1) := by decide +kernel
theorem dL_same_122 : decode cL_same 122 = .ok (.if_icmp .ne 24, 3) := by decide +kernel
theorem dL_same_125 : decode cL_same 125 = .ok (.aload_n 0, 1) := by decide +kernel
theorem dL_same_126 : decode cL_same 126 = .ok (.iload_n 3, 1) := by decide +kernel
theorem dL_same_127 : decode cL_same 127 = .ok (.invokevirtual 97, 3) := by decide +kernel
theorem dL_same_130 : decode cL_same 130 = .ok (.iconst (-1), 1) := by decide +kernel
theorem dL_same_131 : decode cL_same 131 = .ok (.if_icmp .ne 15, 3) := by decide +kernel
theorem dL_same_134 : decode cL_same 134 = .ok (.aload_n 0, 1) := by decide +kernel
theorem dL_same_135 : decode cL_same 135 = .ok (.iload_n 3, 1) := by decide +kernel
theorem dL_same_136 : decode cL_same 136 = .ok (.invokevirtual 100, 3) := by decide +kernel
theorem dL_same_139 : decode cL_same 139 = .ok (.ifCond .ne 7, 3) := by decide +kernel
theorem dL_same_142 : decode cL_same 142 = .ok (.iconst 1, 1) := by decide +kernel
theorem dL_same_143 : decode cL_same 143 = .ok (.goto 4, 3) := by decide +kernel
theorem dL_same_146 : decode cL_same 146 = .ok (.iconst 0, 1) := by decide +kernel
theorem dL_same_147 : decode cL_same 147 = .ok (.istore_n 2, 1) := by decide +kernel
theorem dL_same_148 : decode cL_same 148 = .ok (.goto 99, 3) := by decide +kernel
theorem dL_same_151 : decode cL_same 151 = .ok (.iload_n 2, 1) := by decide +kernel
theorem dL_same_152 : decode cL_same 152 = .ok (.ifCond .eq 93, 3) := by decide +kernel
theorem dL_same_155 : decode cL_same 155 = .ok (.aload_n 0, 1) := by decide +kernel
theorem dL_same_156 : decode cL_same 156 = .ok (.iload_n 3, 1) := by decide +kernel
theorem dL_same_157 : decode cL_same 157 = .ok (.invokevirtual 94, 3) := by decide +kernel
theorem dL_same_160 : decode cL_same 160 = .ok (.aload_n 1, 1) := by decide +kernel
theorem dL_same_161 : decode cL_same 161 = .ok (.getfield 101, 3) := by decide +kernel
theorem dL_same_164 : decode cL_same 164 = .ok (.iload_n 3, 1) := by decide +kernel
theorem dL_same_165 : decode cL_same 165 = .ok (.iaload, 1) := by decide +kernel
theorem dL_same_166 : decode cL_same 166 = .ok (.if_icmp .ne 79, 3) := by decide +kernel
theorem dL_same_169 : decode cL_same 169 = .ok (.aload_n 0, 1) := by decide +kernel
theorem dL_same_170 : decode cL_same 170 = .ok (.iload_n 3, 1) := by decide +kernel
theorem dL_same_171 : decode cL_same 171 = .ok (.invokevirtual 104, 3) := by decide +kernel
theorem dL_same_174 : decode cL_same 174 = .ok (.aload_n 1, 1) := by decide +kernel
theorem dL_same_175 : decode cL_same 175 = .ok (.getfield 107, 3) := by decide +kernel
theorem dL_same_178 : decode cL_same 178 = .ok (.iload_n 3, 1) := by decide +kernel
theorem dL_same_179 : decode cL_same 179 = .ok (.iaload, 1) := by decide +kernel
theorem dL_same_180 : decode cL_same 180 = .ok (.if_icmp .ne 65, 3) := by decide +kernel
theorem dL_same_183 : decode cL_same 183 = .ok (.aload_n 0, 1) := by decide +kernel
theorem dL_same_184 : decode cL_same 184 = .ok (.iload_n 3, 1) := by decide +kernel
theorem dL_same_185 : decode cL_same 185 = .ok (.invokevirtual 110, 3) := by decide +kernel
theorem dL_same_188 : decode cL_same 188 = .ok (.aload_n 1, 1) := by decide +kernel
theorem dL_same_189 : decode cL_same 189 = .ok (.getfield 113, 3) := by decide +kernel
theorem dL_same_192 : decode cL_same 192 = .ok (.iload_n 3, 1) := by decide +kernel
theorem dL_same_193 : decode cL_same 193 = .ok (.iaload, 1) := by decide +kernel
theorem dL_same_194 : decode cL_same 194 = .ok (.if_icmp .ne 51, 3) := by decide +kernel
theorem dL_same_197 : decode cL_same 197 = .ok (.aload_n 0, 1) := by decide +kernel
theorem dL_same_198 : decode cL_same 198 = .ok (.iload_n 3, 1) := by decide +kernel
theorem dL_same_199 : decode cL_same 199 = .ok (.invokevirtual 116, 3) := by decide +kernel
theorem dL_same_202 : decode cL_same 202 = .ok (.aload_n 1, 1) := by decide +kernel
theorem dL_same_203 : decode cL_same 203 = .ok (.getfield 119, 3) := by decide +kernel
theorem dL_same_206 : decode cL_same 206 = .ok (.iload_n 3, 1) := by decide +kernel
theorem dL_same_207 : decode cL_same 207 = .ok (.iaload, 1) := by decide +kernel
theorem dL_same_208 : decode cL_same 208 = .ok (.if_icmp .ne 37, 3) := by decide +kernel
theorem dL_same_211 : decode cL_same 211 = .ok (.aload_n 0, 1) := by decide +kernel
theorem dL_same_212 : decode cL_same 212 = .ok (.iload_n 3, 1) := by decide +kernel
theorem dL_same_213 : decode cL_same 213 = .ok (.invokevirtual 97, 3) := by decide +kernel
theorem dL_same_216 : decode cL_same 216 = .ok (.aload_n 1, 1) := by decide +kernel
theorem dL_same_217 : decode cL_same 217 = .ok (.getfield 122, 3) := by decide +kernel
theorem dL_same_220 : decode cL_same 220 = .ok (.iload_n 3, 1) := by decide +kernel
theorem dL_same_221 : decode cL_same 221 = .ok (.invokevirtual 126, 3) := by decide +kernel
theorem dL_same_224 : decode cL_same 224 = .ok (.checkcast 127, 3) := by decide +kernel
theorem dL_same_227 : decode cL_same 227 = .ok (.invokevirtual 132, 3) := by decide +kernel
theorem dL_same_230 : decode cL_same 230 = .ok (.if_icmp .ne 15, 3) := by decide +kernel
theorem dL_same_233 : decode cL_same 233 = .ok (.aload_n 0, 1) := by decide +kernel
theorem dL_same_234 : decode cL_same 234 = .ok (.iload_n 3, 1) := by decide +kernel
theorem dL_same_235 : decode cL_same 235 = .ok (.invokevirtual 100, 3) := by decide +kernel
theorem dL_same_238 : decode cL_same 238 = .ok (.ifCond .eq 7, 3) := by decide +kernel
theorem dL_same_241 : decode cL_same 241 = .ok (.iconst 1, 1) := by decide +kernel
theorem dL_same_242 : decode cL_same 242 = .ok (.goto 4, 3) := by decide +kernel
theorem dL_same_245 : decode cL_same 245 = .ok (.iconst 0, 1) := by decide +kernel
theorem dL_same_246 : decode cL_same 246 = .ok (.istore_n 2, 1) := by decide +kernel
theorem dL_same_247 : decode cL_same 247 = .ok (.iinc 3 1, 3) := by decide +kernel
theorem dL_same_250 : decode cL_same 250 = .ok (.goto (-220), 3) := by decide +kernel
theorem dL_same_253 : decode cL_same 253 = .ok (.iload_n 2, 1) := by decide +kernel
theorem dL_same_254 : decode cL_same 254 = .ok (.ireturn, 1) := by decide +kernel
theorem dL_law_0 : decode cL_law 0 = .ok (.new 25, 3) := by decide +kernel
theorem dL_law_3 : decode cL_law 3 = .ok (.dup, 1) := by decide +kernel
theorem dL_law_4 : decode cL_law 4 = .ok (.invokespecial 135, 3) := by decide +kernel
theorem dL_law_7 : decode cL_law 7 = .ok (.astore_n 1, 1) := by decide +kernel
theorem dL_law_8 : decode cL_law 8 = .ok (.aload_n 1, 1) := by decide +kernel
theorem dL_law_9 : decode cL_law 9 = .ok (.invokevirtual 136, 3) := by decide +kernel
theorem dL_law_12 : decode cL_law 12 = .ok (.ifCond .ne 96, 3) := by decide +kernel
theorem dL_law_15 : decode cL_law 15 = .ok (.aload_n 1, 1) := by decide +kernel
theorem dL_law_16 : decode cL_law 16 = .ok (.invokevirtual 56, 3) := by decide +kernel
theorem dL_law_19 : decode cL_law 19 = .ok (.ifCond .ne 89, 3) := by decide +kernel
theorem dL_law_22 : decode cL_law 22 = .ok (.aload_n 1, 1) := by decide +kernel
theorem dL_law_23 : decode cL_law 23 = .ok (.iconst 0, 1) := by decide +kernel
theorem dL_law_24 : decode cL_law 24 = .ok (.invokevirtual 67, 3) := by decide +kernel
theorem dL_law_27 : decode cL_law 27 = .ok (.iconst (-1), 1) := by decide +kernel
theorem dL_law_28 : decode cL_law 28 = .ok (.if_icmp .ne 80, 3) := by decide +kernel
theorem dL_law_31 : decode cL_law 31 = .ok (.aload_n 1, 1) := by decide +kernel
theorem dL_law_32 : decode cL_law 32 = .ok (.iconst 0, 1) := by decide +kernel
theorem dL_law_33 : decode cL_law 33 = .ok (.iconst 1, 1) := by decide +kernel
theorem dL_law_34 : decode cL_law 34 = .ok (.invokevirtual 139, 3) := by decide +kernel
theorem dL_law_37 : decode cL_law 37 = .ok (.iconst (-1), 1) := by decide +kernel
theorem dL_law_38 : decode cL_law 38 = .ok (.if_icmp .ne 70, 3) := by decide +kernel
theorem dL_law_41 : decode cL_law 41 = .ok (.aload_n 1, 1) := by decide +kernel
theorem dL_law_42 : decode cL_law 42 = .ok (.iconst 0, 1) := by decide +kernel
theorem dL_law_43 : decode cL_law 43 = .ok (.iconst 1, 1) := by decide +kernel
theorem dL_law_44 : decode cL_law 44 = .ok (.invokevirtual 143, 3) := by decide +kernel
theorem dL_law_47 : decode cL_law 47 = .ok (.iconst (-1), 1) := by decide +kernel
theorem dL_law_48 : decode cL_law 48 = .ok (.if_icmp .ne 60, 3) := by decide +kernel
theorem dL_law_51 : decode cL_law 51 = .ok (.aload_n 1, 1) := by decide +kernel
theorem dL_law_52 : decode cL_law 52 = .ok (.iconst 1, 1) := by decide +kernel
theorem dL_law_53 : decode cL_law 53 = .ok (.invokevirtual 146, 3) := by decide +kernel
theorem dL_law_56 : decode cL_law 56 = .ok (.iconst (-1), 1) := by decide +kernel
theorem dL_law_57 : decode cL_law 57 = .ok (.if_icmp .ne 51, 3) := by decide +kernel
theorem dL_law_60 : decode cL_law 60 = .ok (.aload_n 1, 1) := by decide +kernel
theorem dL_law_61 : decode cL_law 61 = .ok (.invokevirtual 61, 3) := by decide +kernel
theorem dL_law_64 : decode cL_law 64 = .ok (.bipush (-2), 2) := by decide +kernel
theorem dL_law_66 : decode cL_law 66 = .ok (.if_icmp .ne 42, 3) := by decide +kernel
theorem dL_law_69 : decode cL_law 69 = .ok (.aload_n 1, 1) := by decide +kernel
theorem dL_law_70 : decode cL_law 70 = .ok (.invokevirtual 149, 3) := by decide +kernel
theorem dL_law_73 : decode cL_law 73 = .ok (.bipush (-2), 2) := by decide +kernel
theorem dL_law_75 : decode cL_law 75 = .ok (.if_icmp .ne 33, 3) := by decide +kernel
theorem dL_law_78 : decode cL_law 78 = .ok (.aload_n 1, 1) := by decide +kernel
theorem dL_law_79 : decode cL_law 79 = .ok (.invokevirtual 152, 3) := by decide +kernel
theorem dL_law_82 : decode cL_law 82 = .ok (.iconst (-1), 1) := by decide +kernel
theorem dL_law_83 : decode cL_law 83 = .ok (.if_icmp .ne 25, 3) := by decide +kernel
theorem dL_law_86 : decode cL_law 86 = .ok (.aload_n 1, 1) := by decide +kernel
theorem dL_law_87 : decode cL_law 87 = .ok (.iconst 0, 1) := by decide +kernel
theorem dL_law_88 : decode cL_law 88 = .ok (.invokevirtual 100, 3) := by decide +kernel
theorem dL_law_91 : decode cL_law 91 = .ok (.ifCond .ne 17, 3) := by decide +kernel
theorem dL_law_94 : decode cL_law 94 = .ok (.aload_n 1, 1) := by decide +kernel
theorem dL_law_95 : decode cL_law 95 = .ok (.iconst 0, 1) := by decide +kernel
theorem dL_law_96 : decode cL_law 96 = .ok (.iconst 1, 1) := by decide +kernel
theorem dL_law_97 : decode cL_law 97 = .ok (.invokevirtual 155, 3) := by decide +kernel
theorem dL_law_100 : decode cL_law 100 = .ok (.iconst (-1), 1) := by decide +kernel
theorem dL_law_101 : decode cL_law 101 = .ok (.if_icmp .ne 7, 3) := by decide +kernel
theorem dL_law_104 : decode cL_law 104 = .ok (.iconst 1, 1) := by decide +kernel
theorem dL_law_105 : decode cL_law 105 = .ok (.goto 4, 3) := by decide +kernel
theorem dL_law_108 : decode cL_law 108 = .ok (.iconst 0, 1) := by decide +kernel
theorem dL_law_109 : decode cL_law 109 = .ok (.istore_n 2, 1) := by decide +kernel
theorem dL_law_110 : decode cL_law 110 = .ok (.iconst 0, 1) := by decide +kernel
theorem dL_law_111 : decode cL_law 111 = .ok (.istore_n 3, 1) := by decide +kernel
theorem dL_law_112 : decode cL_law 112 = .ok (.iload_n 3, 1) := by decide +kernel
theorem dL_law_113 : decode cL_law 113 = .ok (.iconst 5, 1) := by decide +kernel
theorem dL_law_114 : decode cL_law 114 = .ok (.if_icmp .ge 315, 3) := by decide +kernel
theorem dL_law_117 : decode cL_law 117 = .ok (.iload_n 2, 1) := by decide +kernel
theorem dL_law_118 : decode cL_law 118 = .ok (.ifCond .eq 311, 3) := by decide +kernel
theorem dL_law_121 : decode cL_law 121 = .ok (.iconst 1, 1) := by decide +kernel
theorem dL_law_122 : decode cL_law 122 = .ok (.newarray .int, 2) := by decide +kernel
theorem dL_law_124 : decode cL_law 124 = .ok (.dup, 1) := by decide +kernel
theorem dL_law_125 : decode cL_law 125 = .ok (.iconst 0, 1) := by decide +kernel
theorem dL_law_126 : decode cL_law 126 = .ok (.aload_n 0, 1) := by decide +kernel
theorem dL_law_127 : decode cL_law 127 = .ok (.iload_n 3, 1) := by decide +kernel
theorem dL_law_128 : decode cL_law 128 = .ok (.invokestatic 158, 3) := by decide +kernel
theorem dL_law_131 : decode cL_law 131 = .ok (.iload_n 3, 1) := by decide +kernel
theorem dL_law_132 : decode cL_law 132 = .ok (.iadd, 1) := by decide +kernel
theorem dL_law_133 : decode cL_law 133 = .ok (.invokestatic 8, 3) := by decide +kernel
theorem dL_law_136 : decode cL_law 136 = .ok (.iastore, 1) := by decide +kernel
theorem dL_law_137 : decode cL_law 137 = .ok (.astore 4, 2) := by decide +kernel
theorem dL_law_139 : decode cL_law 139 = .ok (.new 34, 3) := by decide +kernel
theorem dL_law_142 : decode cL_law 142 = .ok (.dup, 1) := by decide +kernel
theorem dL_law_143 : decode cL_law 143 = .ok (.aload 4, 2) := by decide +kernel
theorem dL_law_145 : decode cL_law 145 = .ok (.invokespecial 162, 3) := by decide +kernel
theorem dL_law_148 : decode cL_law 148 = .ok (.astore 5, 2) := by decide +kernel
theorem dL_law_150 : decode cL_law 150 = .ok (.aload_n 1, 1) := by decide +kernel
theorem dL_law_151 : decode cL_law 151 = .ok (.aload 5, 2) := by decide +kernel
theorem dL_law_153 : decode cL_law 153 = .ok (.invokestatic 165, 3) := by decide +kernel
theorem dL_law_156 : decode cL_law 156 = .ok (.ifCond .eq 25, 3) := by decide +kernel
theorem dL_law_159 : decode cL_law 159 = .ok (.aload_n 1, 1) := by decide +kernel
theorem dL_law_160 : decode cL_law 160 = .ok (.aload 5, 2) := by decide +kernel
theorem dL_law_162 : decode cL_law 162 = .ok (.invokestatic 169, 3) := by decide +kernel
theorem dL_law_165 : decode cL_law 165 = .ok (.ifCond .eq 16, 3) := by decide +kernel
theorem dL_law_168 : decode cL_law 168 = .ok (.aload_n 1, 1) := by decide +kernel
theorem dL_law_169 : decode cL_law 169 = .ok (.aload 5, 2) := by decide +kernel
theorem dL_law_171 : decode cL_law 171 = .ok (.invokestatic 172, 3) := by decide +kernel
theorem dL_law_174 : decode cL_law 174 = .ok (.ifCond .eq 7, 3) := by decide +kernel
theorem dL_law_177 : decode cL_law 177 = .ok (.iconst 1, 1) := by decide +kernel
theorem dL_law_178 : decode cL_law 178 = .ok (.goto 4, 3) := by decide +kernel
theorem dL_law_181 : decode cL_law 181 = .ok (.iconst 0, 1) := by decide +kernel
theorem dL_law_182 : decode cL_law 182 = .ok (.istore_n 2, 1) := by decide +kernel
theorem dL_law_183 : decode cL_law 183 = .ok (.iconst 0, 1) := by decide +kernel
theorem dL_law_184 : decode cL_law 184 = .ok (.istore 6, 2) := by decide +kernel
theorem dL_law_186 : decode cL_law 186 = .ok (.iload 6, 2) := by decide +kernel
theorem dL_law_188 : decode cL_law 188 = .ok (.bipush 14, 2) := by decide +kernel
theorem dL_law_190 : decode cL_law 190 = .ok (.if_icmp .ge 233, 3) := by decide +kernel
theorem dL_law_193 : decode cL_law 193 = .ok (.iload_n 2, 1) := by decide +kernel
theorem dL_law_194 : decode cL_law 194 = .ok (.ifCond .eq 229, 3) := by decide +kernel
theorem dL_law_197 : decode cL_law 197 = .ok (.aload 5, 2) := by decide +kernel
theorem dL_law_199 : decode cL_law 199 = .ok (.aload 4, 2) := by decide +kernel
theorem dL_law_201 : decode cL_law 201 = .ok (.invokevirtual 175, 3) := by decide +kernel
theorem dL_law_204 : decode cL_law 204 = .ok (.istore 7, 2) := by decide +kernel
theorem dL_law_206 : decode cL_law 206 = .ok (.iconst 1, 1) := by decide +kernel
theorem dL_law_207 : decode cL_law 207 = .ok (.aload 4, 2) := by decide +kernel
theorem dL_law_209 : decode cL_law 209 = .ok (.bipush 12, 2) := by decide +kernel
theorem dL_law_211 : decode cL_law 211 = .ok (.invokestatic 179, 3) := by decide +kernel
theorem dL_law_214 : decode cL_law 214 = .ok (.iadd, 1) := by decide +kernel
theorem dL_law_215 : decode cL_law 215 = .ok (.istore 8, 2) := by decide +kernel
theorem dL_law_217 : decode cL_law 217 = .ok (.aload_n 1, 1) := by decide +kernel
theorem dL_law_218 : decode cL_law 218 = .ok (.aload 5, 2) := by decide +kernel
theorem dL_law_220 : decode cL_law 220 = .ok (.iload 7, 2) := by decide +kernel
theorem dL_law_222 : decode cL_law 222 = .ok (.iload 8, 2) := by decide +kernel
theorem dL_law_224 : decode cL_law 224 = .ok (.invokestatic 182, 3) := by decide +kernel
theorem dL_law_227 : decode cL_law 227 = .ok (.istore_n 2, 1) := by decide +kernel
theorem dL_law_228 : decode cL_law 228 = .ok (.iload_n 2, 1) := by decide +kernel
theorem dL_law_229 : decode cL_law 229 = .ok (.ifCond .ne 5, 3) := by decide +kernel
theorem dL_law_232 : decode cL_law 232 = .ok (.iconst 0, 1) := by decide +kernel
theorem dL_law_233 : decode cL_law 233 = .ok (.ireturn, 1) := by decide +kernel
theorem dL_law_234 : decode cL_law 234 = .ok (.aload 5, 2) := by decide +kernel
theorem dL_law_236 : decode cL_law 236 = .ok (.iload 7, 2) := by decide +kernel
theorem dL_law_238 : decode cL_law 238 = .ok (.iload 8, 2) := by decide +kernel
theorem dL_law_240 : decode cL_law 240 = .ok (.invokevirtual 186, 3) := by decide +kernel
theorem dL_law_243 : decode cL_law 243 = .ok (.istore 9, 2) := by decide +kernel
theorem dL_law_245 : decode cL_law 245 = .ok (.aload_n 1, 1) := by decide +kernel
theorem dL_law_246 : decode cL_law 246 = .ok (.iload 7, 2) := by decide +kernel
theorem dL_law_248 : decode cL_law 248 = .ok (.iload 8, 2) := by decide +kernel
theorem dL_law_250 : decode cL_law 250 = .ok (.invokevirtual 143, 3) := by decide +kernel
theorem dL_law_253 : decode cL_law 253 = .ok (.iload 9, 2) := by decide +kernel
theorem dL_law_255 : decode cL_law 255 = .ok (.ifCond .ge 8, 3) := by decide +kernel
theorem dL_law_258 : decode cL_law 258 = .ok (.bipush (-2), 2) := by decide +kernel
theorem dL_law_260 : decode cL_law 260 = .ok (.goto 12, 3) := by decide +kernel
theorem dL_law_263 : decode cL_law 263 = .ok (.aload 5, 2) := by decide +kernel
theorem dL_law_265 : decode cL_law 265 = .ok (.iload 7, 2) := by decide +kernel
theorem dL_law_267 : decode cL_law 267 = .ok (.iload 9, 2) := by decide +kernel
theorem dL_law_269 : decode cL_law 269 = .ok (.invokevirtual 187, 3) := by decide +kernel
theorem dL_law_272 : decode cL_law 272 = .ok (.if_icmp .ne 7, 3) := by decide +kernel
theorem dL_law_275 : decode cL_law 275 = .ok (.iconst 1, 1) := by decide +kernel
theorem dL_law_276 : decode cL_law 276 = .ok (.goto 4, 3) := by decide +kernel
theorem dL_law_279 : decode cL_law 279 = .ok (.iconst 0, 1) := by decide +kernel
theorem dL_law_280 : decode cL_law 280 = .ok (.istore_n 2, 1) := by decide +kernel
theorem dL_law_281 : decode cL_law 281 = .ok (.iload 9, 2) := by decide +kernel
theorem dL_law_283 : decode cL_law 283 = .ok (.ifCond .lt 12, 3) := by decide +kernel
theorem dL_law_286 : decode cL_law 286 = .ok (.aload 5, 2) := by decide +kernel
theorem dL_law_288 : decode cL_law 288 = .ok (.iload 7, 2) := by decide +kernel
theorem dL_law_290 : decode cL_law 290 = .ok (.iload 8, 2) := by decide +kernel
theorem dL_law_292 : decode cL_law 292 = .ok (.invokevirtual 190, 3) := by decide +kernel
theorem dL_law_295 : decode cL_law 295 = .ok (.iload_n 2, 1) := by decide +kernel
theorem dL_law_296 : decode cL_law 296 = .ok (.ifCond .eq 64, 3) := by decide +kernel
theorem dL_law_299 : decode cL_law 299 = .ok (.aload_n 1, 1) := by decide +kernel
theorem dL_law_300 : decode cL_law 300 = .ok (.aload 5, 2) := by decide +kernel
theorem dL_law_302 : decode cL_law 302 = .ok (.invokestatic 172, 3) := by decide +kernel
theorem dL_law_305 : decode cL_law 305 = .ok (.ifCond .eq 55, 3) := by decide +kernel
theorem dL_law_308 : decode cL_law 308 = .ok (.iload 9, 2) := by decide +kernel
theorem dL_law_310 : decode cL_law 310 = .ok (.ifCond .lt 46, 3) := by decide +kernel
theorem dL_law_313 : decode cL_law 313 = .ok (.aload_n 1, 1) := by decide +kernel
theorem dL_law_314 : decode cL_law 314 = .ok (.iconst 0, 1) := by decide +kernel
theorem dL_law_315 : decode cL_law 315 = .ok (.invokevirtual 194, 3) := by decide +kernel
theorem dL_law_318 : decode cL_law 318 = .ok (.iload 7, 2) := by decide +kernel
theorem dL_law_320 : decode cL_law 320 = .ok (.if_icmp .ne 40, 3) := by decide +kernel
theorem dL_law_323 : decode cL_law 323 = .ok (.aload_n 1, 1) := by decide +kernel
theorem dL_law_324 : decode cL_law 324 = .ok (.iconst 0, 1) := by decide +kernel
theorem dL_law_325 : decode cL_law 325 = .ok (.invokevirtual 197, 3) := by decide +kernel
theorem dL_law_328 : decode cL_law 328 = .ok (.iload 8, 2) := by decide +kernel
theorem dL_law_330 : decode cL_law 330 = .ok (.if_icmp .ne 30, 3) := by decide +kernel
theorem dL_law_333 : decode cL_law 333 = .ok (.aload_n 1, 1) := by decide +kernel
theorem dL_law_334 : decode cL_law 334 = .ok (.iconst 0, 1) := by decide +kernel
theorem dL_law_335 : decode cL_law 335 = .ok (.invokevirtual 200, 3) := by decide +kernel
theorem dL_law_338 : decode cL_law 338 = .ok (.iload 9, 2) := by decide +kernel
theorem dL_law_340 : decode cL_law 340 = .ok (.if_icmp .ne 20, 3) := by decide +kernel
theorem dL_law_343 : decode cL_law 343 = .ok (.aload_n 1, 1) := by decide +kernel
theorem dL_law_344 : decode cL_law 344 = .ok (.iconst 0, 1) := by decide +kernel
theorem dL_law_345 : decode cL_law 345 = .ok (.invokevirtual 203, 3) := by decide +kernel
theorem dL_law_348 : decode cL_law 348 = .ok (.aload 5, 2) := by decide +kernel
theorem dL_law_350 : decode cL_law 350 = .ok (.getfield 59, 3) := by decide +kernel
theorem dL_law_353 : decode cL_law 353 = .ok (.if_icmp .ne 7, 3) := by decide +kernel
theorem dL_law_356 : decode cL_law 356 = .ok (.iconst 1, 1) := by decide +kernel
theorem dL_law_357 : decode cL_law 357 = .ok (.goto 4, 3) := by decide +kernel
theorem dL_law_360 : decode cL_law 360 = .ok (.iconst 0, 1) := by decide +kernel
theorem dL_law_361 : decode cL_law 361 = .ok (.istore_n 2, 1) := by decide +kernel
theorem dL_law_362 : decode cL_law 362 = .ok (.aload 4, 2) := by decide +kernel
theorem dL_law_364 : decode cL_law 364 = .ok (.iconst 3, 1) := by decide +kernel
theorem dL_law_365 : decode cL_law 365 = .ok (.invokestatic 179, 3) := by decide +kernel
theorem dL_law_368 : decode cL_law 368 = .ok (.ifCond .le 6, 3) := by decide +kernel
theorem dL_law_371 : decode cL_law 371 = .ok (.goto 46, 3) := by decide +kernel
theorem dL_law_374 : decode cL_law 374 = .ok (.iload_n 2, 1) := by decide +kernel
theorem dL_law_375 : decode cL_law 375 = .ok (.ifCond .eq 15, 3) := by decide +kernel
theorem dL_law_378 : decode cL_law 378 = .ok (.aload_n 1, 1) := by decide +kernel
theorem dL_law_379 : decode cL_law 379 = .ok (.iconst 1, 1) := by decide +kernel
theorem dL_law_380 : decode cL_law 380 = .ok (.invokevirtual 146, 3) := by decide +kernel
theorem dL_law_383 : decode cL_law 383 = .ok (.ifCond .ne 7, 3) := by decide +kernel
theorem dL_law_386 : decode cL_law 386 = .ok (.iconst 1, 1) := by decide +kernel
theorem dL_law_387 : decode cL_law 387 = .ok (.goto 4, 3) := by decide +kernel
theorem dL_law_390 : decode cL_law 390 = .ok (.iconst 0, 1) := by decide +kernel
theorem dL_law_391 : decode cL_law 391 = .ok (.istore_n 2, 1) := by decide +kernel
theorem dL_law_392 : decode cL_law 392 = .ok (.aload 5, 2) := by decide +kernel
theorem dL_law_394 : decode cL_law 394 = .ok (.invokevirtual 206, 3) := by decide +kernel
theorem dL_law_397 : decode cL_law 397 = .ok (.pop, 1) := by decide +kernel
theorem dL_law_398 : decode cL_law 398 = .ok (.iload_n 2, 1) := by decide +kernel
theorem dL_law_399 : decode cL_law 399 = .ok (.ifCond .eq 16, 3) := by decide +kernel
theorem dL_law_402 : decode cL_law 402 = .ok (.aload_n 1, 1) := by decide +kernel
theorem dL_law_403 : decode cL_law 403 = .ok (.aload 5, 2) := by decide +kernel
theorem dL_law_405 : decode cL_law 405 = .ok (.invokestatic 172, 3) := by decide +kernel
theorem dL_law_408 : decode cL_law 408 = .ok (.ifCond .eq 7, 3) := by decide +kernel
theorem dL_law_411 : decode cL_law 411 = .ok (.iconst 1, 1) := by decide +kernel
theorem dL_law_412 : decode cL_law 412 = .ok (.goto 4, 3) := by decide +kernel
theorem dL_law_415 : decode cL_law 415 = .ok (.iconst 0, 1) := by decide +kernel
theorem dL_law_416 : decode cL_law 416 = .ok (.istore_n 2, 1) := by decide +kernel
theorem dL_law_417 : decode cL_law 417 = .ok (.iinc 6 1, 3) := by decide +kernel
theorem dL_law_420 : decode cL_law 420 = .ok (.goto (-234), 3) := by decide +kernel
theorem dL_law_423 : decode cL_law 423 = .ok (.iinc 3 1, 3) := by decide +kernel
theorem dL_law_426 : decode cL_law 426 = .ok (.goto (-314), 3) := by decide +kernel
theorem dL_law_429 : decode cL_law 429 = .ok (.iload_n 2, 1) := by decide +kernel
theorem dL_law_430 : decode cL_law 430 = .ok (.ireturn, 1) := by decide +kernel
theorem dL_tree_0 : decode cL_tree 0 = .ok (.aload_n 0, 1) := by decide +kernel
theorem dL_tree_1 : decode cL_tree 1 = .ok (.invokevirtual 136, 3) := by decide +kernel
theorem dL_tree_4 : decode cL_tree 4 = .ok (.aload_n 1, 1) := by decide +kernel
theorem dL_tree_5 : decode cL_tree 5 = .ok (.getfield 46, 3) := by decide +kernel
theorem dL_tree_8 : decode cL_tree 8 = .ok (.if_icmp .ne 29, 3) := by decide +kernel
theorem dL_tree_11 : decode cL_tree 11 = .ok (.aload_n 0, 1) := by decide +kernel
theorem dL_tree_12 : decode cL_tree 12 = .ok (.iconst 0, 1) := by decide +kernel
theorem dL_tree_13 : decode cL_tree 13 = .ok (.invokevirtual 209, 3) := by decide +kernel
theorem dL_tree_16 : decode cL_tree 16 = .ok (.bipush (-2), 2) := by decide +kernel
theorem dL_tree_18 : decode cL_tree 18 = .ok (.if_icmp .ne 19, 3) := by decide +kernel
theorem dL_tree_21 : decode cL_tree 21 = .ok (.aload_n 0, 1) := by decide +kernel
theorem dL_tree_22 : decode cL_tree 22 = .ok (.aload_n 1, 1) := by decide +kernel
theorem dL_tree_23 : decode cL_tree 23 = .ok (.getfield 46, 3) := by decide +kernel
theorem dL_tree_26 : decode cL_tree 26 = .ok (.invokevirtual 209, 3) := by decide +kernel
theorem dL_tree_29 : decode cL_tree 29 = .ok (.iconst (-1), 1) := by decide +kernel
theorem dL_tree_30 : decode cL_tree 30 = .ok (.if_icmp .ne 7, 3) := by decide +kernel
theorem dL_tree_33 : decode cL_tree 33 = .ok (.iconst 1, 1) := by decide +kernel
theorem dL_tree_34 : decode cL_tree 34 = .ok (.goto 4, 3) := by decide +kernel
theorem dL_tree_37 : decode cL_tree 37 = .ok (.iconst 0, 1) := by decide +kernel
theorem dL_tree_38 : decode cL_tree 38 = .ok (.istore_n 2, 1) := by decide +kernel
theorem dL_tree_39 : decode cL_tree 39 = .ok (.iconst 0, 1) := by decide +kernel
theorem dL_tree_40 : decode cL_tree 40 = .ok (.istore_n 3, 1) := by decide +kernel
theorem dL_tree_41 : decode cL_tree 41 = .ok (.iload_n 3, 1) := by decide +kernel
theorem dL_tree_42 : decode cL_tree 42 = .ok (.aload_n 1, 1) := by decide +kernel
theorem dL_tree_43 : decode cL_tree 43 = .ok (.getfield 46, 3) := by decide +kernel
theorem dL_tree_46 : decode cL_tree 46 = .ok (.if_icmp .ge 349, 3) := by decide +kernel
theorem dL_tree_49 : decode cL_tree 49 = .ok (.iload_n 2, 1) := by decide +kernel
theorem dL_tree_50 : decode cL_tree 50 = .ok (.ifCond .eq 345, 3) := by decide +kernel
theorem dL_tree_53 : decode cL_tree 53 = .ok (.iconst 0, 1) := by decide +kernel
theorem dL_tree_54 : decode cL_tree 54 = .ok (.istore 4, 2) := by decide +kernel
theorem dL_tree_56 : decode cL_tree 56 = .ok (.iconst 0, 1) := by decide +kernel
theorem dL_tree_57 : decode cL_tree 57 = .ok (.istore 5, 2) := by decide +kernel
theorem dL_tree_59 : decode cL_tree 59 = .ok (.iconst 1, 1) := by decide +kernel
theorem dL_tree_60 : decode cL_tree 60 = .ok (.istore 6, 2) := by decide +kernel
theorem dL_tree_62 : decode cL_tree 62 = .ok (.iload 6, 2) := by decide +kernel
theorem dL_tree_64 : decode cL_tree 64 = .ok (.aload_n 1, 1) := by decide +kernel
theorem dL_tree_65 : decode cL_tree 65 = .ok (.getfield 46, 3) := by decide +kernel
theorem dL_tree_68 : decode cL_tree 68 = .ok (.if_icmp .ge 60, 3) := by decide +kernel
theorem dL_tree_71 : decode cL_tree 71 = .ok (.aload_n 1, 1) := by decide +kernel
theorem dL_tree_72 : decode cL_tree 72 = .ok (.getfield 212, 3) := by decide +kernel
theorem dL_tree_75 : decode cL_tree 75 = .ok (.iload 6, 2) := by decide +kernel
theorem dL_tree_77 : decode cL_tree 77 = .ok (.iaload, 1) := by decide +kernel
theorem dL_tree_78 : decode cL_tree 78 = .ok (.iload_n 3, 1) := by decide +kernel
theorem dL_tree_79 : decode cL_tree 79 = .ok (.if_icmp .eq 6, 3) := by decide +kernel
theorem dL_tree_82 : decode cL_tree 82 = .ok (.goto 40, 3) := by decide +kernel
theorem dL_tree_85 : decode cL_tree 85 = .ok (.iload 4, 2) := by decide +kernel
theorem dL_tree_87 : decode cL_tree 87 = .ok (.aload_n 1, 1) := by decide +kernel
theorem dL_tree_88 : decode cL_tree 88 = .ok (.getfield 214, 3) := by decide +kernel
theorem dL_tree_91 : decode cL_tree 91 = .ok (.iload 6, 2) := by decide +kernel
theorem dL_tree_93 : decode cL_tree 93 = .ok (.iaload, 1) := by decide +kernel
theorem dL_tree_94 : decode cL_tree 94 = .ok (.iadd, 1) := by decide +kernel
theorem dL_tree_95 : decode cL_tree 95 = .ok (.istore 4, 2) := by decide +kernel
theorem dL_tree_97 : decode cL_tree 97 = .ok (.iload_n 2, 1) := by decide +kernel
theorem dL_tree_98 : decode cL_tree 98 = .ok (.ifCond .eq 19, 3) := by decide +kernel
theorem dL_tree_101 : decode cL_tree 101 = .ok (.aload_n 0, 1) := by decide +kernel
theorem dL_tree_102 : decode cL_tree 102 = .ok (.iload_n 3, 1) := by decide +kernel
theorem dL_tree_103 : decode cL_tree 103 = .ok (.iload 5, 2) := by decide +kernel
theorem dL_tree_105 : decode cL_tree 105 = .ok (.invokevirtual 217, 3) := by decide +kernel
theorem dL_tree_108 : decode cL_tree 108 = .ok (.iload 6, 2) := by decide +kernel
theorem dL_tree_110 : decode cL_tree 110 = .ok (.if_icmp .ne 7, 3) := by decide +kernel
theorem dL_tree_113 : decode cL_tree 113 = .ok (.iconst 1, 1) := by decide +kernel
theorem dL_tree_114 : decode cL_tree 114 = .ok (.goto 4, 3) := by decide +kernel
theorem dL_tree_117 : decode cL_tree 117 = .ok (.iconst 0, 1) := by decide +kernel
theorem dL_tree_118 : decode cL_tree 118 = .ok (.istore_n 2, 1) := by decide +kernel
theorem dL_tree_119 : decode cL_tree 119 = .ok (.iinc 5 1, 3) := by decide +kernel
theorem dL_tree_122 : decode cL_tree 122 = .ok (.iinc 6 1, 3) := by decide +kernel
theorem dL_tree_125 : decode cL_tree 125 = .ok (.goto (-63), 3) := by decide +kernel
theorem dL_tree_128 : decode cL_tree 128 = .ok (.sipush 1000, 3) := by decide +kernel
theorem dL_tree_131 : decode cL_tree 131 = .ok (.istore 6, 2) := by decide +kernel
theorem dL_tree_133 : decode cL_tree 133 = .ok (.iload_n 3, 1) := by decide +kernel
theorem dL_tree_134 : decode cL_tree 134 = .ok (.istore 7, 2) := by decide +kernel
theorem dL_tree_136 : decode cL_tree 136 = .ok (.iload 7, 2) := by decide +kernel
theorem dL_tree_138 : decode cL_tree 138 = .ok (.ifCond .lt 29, 3) := by decide +kernel
theorem dL_tree_141 : decode cL_tree 141 = .ok (.iload 6, 2) := by decide +kernel
theorem dL_tree_143 : decode cL_tree 143 = .ok (.aload_n 1, 1) := by decide +kernel
theorem dL_tree_144 : decode cL_tree 144 = .ok (.getfield 220, 3) := by decide +kernel
theorem dL_tree_147 : decode cL_tree 147 = .ok (.iload 7, 2) := by decide +kernel
theorem dL_tree_149 : decode cL_tree 149 = .ok (.iaload, 1) := by decide +kernel
theorem dL_tree_150 : decode cL_tree 150 = .ok (.invokestatic 223, 3) := by decide +kernel
theorem dL_tree_153 : decode cL_tree 153 = .ok (.istore 6, 2) := by decide +kernel
theorem dL_tree_155 : decode cL_tree 155 = .ok (.aload_n 1, 1) := by decide +kernel
theorem dL_tree_156 : decode cL_tree 156 = .ok (.getfield 212, 3) := by decide +kernel
theorem dL_tree_159 : decode cL_tree 159 = .ok (.iload 7, 2) := by decide +kernel
theorem dL_tree_161 : decode cL_tree 161 = .ok (.iaload, 1) := by decide +kernel
theorem dL_tree_162 : decode cL_tree 162 = .ok (.istore 7, 2) := by decide +kernel
theorem dL_tree_164 : decode cL_tree 164 = .ok (.goto (-28), 3) := by decide +kernel
theorem dL_tree_167 : decode cL_tree 167 = .ok (.iload_n 2, 1) := by decide +kernel
theorem dL_tree_168 : decode cL_tree 168 = .ok (.ifCond .eq 153, 3) := by decide +kernel
theorem dL_tree_171 : decode cL_tree 171 = .ok (.aload_n 0, 1) := by decide +kernel
theorem dL_tree_172 : decode cL_tree 172 = .ok (.iload_n 3, 1) := by decide +kernel
theorem dL_tree_173 : decode cL_tree 173 = .ok (.iload 5, 2) := by decide +kernel
theorem dL_tree_175 : decode cL_tree 175 = .ok (.invokevirtual 217, 3) := by decide +kernel
theorem dL_tree_178 : decode cL_tree 178 = .ok (.bipush (-2), 2) := by decide +kernel
theorem dL_tree_180 : decode cL_tree 180 = .ok (.if_icmp .ne 141, 3) := by decide +kernel
theorem dL_tree_183 : decode cL_tree 183 = .ok (.aload_n 0, 1) := by decide +kernel
theorem dL_tree_184 : decode cL_tree 184 = .ok (.iload_n 3, 1) := by decide +kernel
theorem dL_tree_185 : decode cL_tree 185 = .ok (.invokevirtual 209, 3) := by decide +kernel
theorem dL_tree_188 : decode cL_tree 188 = .ok (.aload_n 1, 1) := by decide +kernel
theorem dL_tree_189 : decode cL_tree 189 = .ok (.getfield 212, 3) := by decide +kernel
theorem dL_tree_192 : decode cL_tree 192 = .ok (.iload_n 3, 1) := by decide +kernel
theorem dL_tree_193 : decode cL_tree 193 = .ok (.iaload, 1) := by decide +kernel
theorem dL_tree_194 : decode cL_tree 194 = .ok (.if_icmp .ne 127, 3) := by decide +kernel
theorem dL_tree_197 : decode cL_tree 197 = .ok (.aload_n 0, 1) := by decide +kernel
theorem dL_tree_198 : decode cL_tree 198 = .ok (.iload_n 3, 1) := by decide +kernel
theorem dL_tree_199 : decode cL_tree 199 = .ok (.invokevirtual 228, 3) := by decide +kernel
theorem dL_tree_202 : decode cL_tree 202 = .ok (.aload_n 1, 1) := by decide +kernel
theorem dL_tree_203 : decode cL_tree 203 = .ok (.iload_n 3, 1) := by decide +kernel
theorem dL_tree_204 : decode cL_tree 204 = .ok (.iconst 0, 1) := by decide +kernel
theorem dL_tree_205 : decode cL_tree 205 = .ok (.invokevirtual 187, 3) := by decide +kernel
theorem dL_tree_208 : decode cL_tree 208 = .ok (.if_icmp .ne 113, 3) := by decide +kernel
theorem dL_tree_211 : decode cL_tree 211 = .ok (.aload_n 0, 1) := by decide +kernel
theorem dL_tree_212 : decode cL_tree 212 = .ok (.iload_n 3, 1) := by decide +kernel
theorem dL_tree_213 : decode cL_tree 213 = .ok (.invokevirtual 231, 3) := by decide +kernel
theorem dL_tree_216 : decode cL_tree 216 = .ok (.aload_n 1, 1) := by decide +kernel
theorem dL_tree_217 : decode cL_tree 217 = .ok (.getfield 214, 3) := by decide +kernel
theorem dL_tree_220 : decode cL_tree 220 = .ok (.iload_n 3, 1) := by decide +kernel
theorem dL_tree_221 : decode cL_tree 221 = .ok (.iaload, 1) := by decide +kernel
theorem dL_tree_222 : decode cL_tree 222 = .ok (.if_icmp .ne 99, 3) := by decide +kernel
theorem dL_tree_225 : decode cL_tree 225 = .ok (.aload_n 0, 1) := by decide +kernel
theorem dL_tree_226 : decode cL_tree 226 = .ok (.iload_n 3, 1) := by decide +kernel
theorem dL_tree_227 : decode cL_tree 227 = .ok (.invokevirtual 233, 3) := by decide +kernel
theorem dL_tree_230 : decode cL_tree 230 = .ok (.aload_n 1, 1) := by decide +kernel
theorem dL_tree_231 : decode cL_tree 231 = .ok (.getfield 220, 3) := by decide +kernel
theorem dL_tree_234 : decode cL_tree 234 = .ok (.iload_n 3, 1) := by decide +kernel
theorem dL_tree_235 : decode cL_tree 235 = .ok (.iaload, 1) := by decide +kernel
theorem dL_tree_236 : decode cL_tree 236 = .ok (.if_icmp .ne 85, 3) := by decide +kernel
theorem dL_tree_239 : decode cL_tree 239 = .ok (.aload_n 0, 1) := by decide +kernel
theorem dL_tree_240 : decode cL_tree 240 = .ok (.iload_n 3, 1) := by decide +kernel
theorem dL_tree_241 : decode cL_tree 241 = .ok (.invokevirtual 235, 3) := by decide +kernel
theorem dL_tree_244 : decode cL_tree 244 = .ok (.aload_n 1, 1) := by decide +kernel
theorem dL_tree_245 : decode cL_tree 245 = .ok (.getfield 238, 3) := by decide +kernel
theorem dL_tree_248 : decode cL_tree 248 = .ok (.iload_n 3, 1) := by decide +kernel
theorem dL_tree_249 : decode cL_tree 249 = .ok (.iaload, 1) := by decide +kernel
theorem dL_tree_250 : decode cL_tree 250 = .ok (.if_icmp .ne 71, 3) := by decide +kernel
theorem dL_tree_253 : decode cL_tree 253 = .ok (.aload_n 0, 1) := by decide +kernel
theorem dL_tree_254 : decode cL_tree 254 = .ok (.iload_n 3, 1) := by decide +kernel
theorem dL_tree_255 : decode cL_tree 255 = .ok (.invokevirtual 240, 3) := by decide +kernel
theorem dL_tree_258 : decode cL_tree 258 = .ok (.aload_n 1, 1) := by decide +kernel
theorem dL_tree_259 : decode cL_tree 259 = .ok (.getfield 243, 3) := by decide +kernel
theorem dL_tree_262 : decode cL_tree 262 = .ok (.iload_n 3, 1) := by decide +kernel
theorem dL_tree_263 : decode cL_tree 263 = .ok (.iaload, 1) := by decide +kernel
theorem dL_tree_264 : decode cL_tree 264 = .ok (.if_icmp .ne 57, 3) := by decide +kernel
theorem dL_tree_267 : decode cL_tree 267 = .ok (.aload_n 0, 1) := by decide +kernel
theorem dL_tree_268 : decode cL_tree 268 = .ok (.iload_n 3, 1) := by decide +kernel
theorem dL_tree_269 : decode cL_tree 269 = .ok (.invokevirtual 246, 3) := by decide +kernel
theorem dL_tree_272 : decode cL_tree 272 = .ok (.aload_n 1, 1) := by decide +kernel
theorem dL_tree_273 : decode cL_tree 273 = .ok (.getfield 249, 3) := by decide +kernel
theorem dL_tree_276 : decode cL_tree 276 = .ok (.iload_n 3, 1) := by decide +kernel
theorem dL_tree_277 : decode cL_tree 277 = .ok (.iaload, 1) := by decide +kernel
theorem dL_tree_278 : decode cL_tree 278 = .ok (.if_icmp .ne 43, 3) := by decide +kernel
theorem dL_tree_281 : decode cL_tree 281 = .ok (.aload_n 0, 1) := by decide +kernel
theorem dL_tree_282 : decode cL_tree 282 = .ok (.iload_n 3, 1) := by decide +kernel
theorem dL_tree_283 : decode cL_tree 283 = .ok (.invokevirtual 251, 3) := by decide +kernel
theorem dL_tree_286 : decode cL_tree 286 = .ok (.aload_n 1, 1) := by decide +kernel
theorem dL_tree_287 : decode cL_tree 287 = .ok (.getfield 254, 3) := by decide +kernel
theorem dL_tree_290 : decode cL_tree 290 = .ok (.iload_n 3, 1) := by decide +kernel
theorem dL_tree_291 : decode cL_tree 291 = .ok (.iaload, 1) := by decide +kernel
theorem dL_tree_292 : decode cL_tree 292 = .ok (.if_icmp .ne 29, 3) := by decide +kernel
theorem dL_tree_295 : decode cL_tree 295 = .ok (.aload_n 0, 1) := by decide +kernel
theorem dL_tree_296 : decode cL_tree 296 = .ok (.iload_n 3, 1) := by decide +kernel
theorem dL_tree_297 : decode cL_tree 297 = .ok (.invokevirtual 256, 3) := by decide +kernel
theorem dL_tree_300 : decode cL_tree 300 = .ok (.aload_n 1, 1) := by decide +kernel
theorem dL_tree_301 : decode cL_tree 301 = .ok (.getfield 259, 3) := by decide +kernel
theorem dL_tree_304 : decode cL_tree 304 = .ok (.iload_n 3, 1) := by decide +kernel
theorem dL_tree_305 : decode cL_tree 305 = .ok (.baload, 1) := by decide +kernel
theorem dL_tree_306 : decode cL_tree 306 = .ok (.ifCond .ne 7, 3) := by decide +kernel
theorem dL_tree_309 : decode cL_tree 309 = .ok (.iconst 1, 1) := by decide +kernel
theorem dL_tree_310 : decode cL_tree 310 = .ok (.goto 4, 3) := by decide +kernel
theorem dL_tree_313 : decode cL_tree 313 = .ok (.iconst 0, 1) := by decide +kernel
theorem dL_tree_314 : decode cL_tree 314 = .ok (.if_icmp .ne 7, 3) := by decide +kernel
theorem dL_tree_317 : decode cL_tree 317 = .ok (.iconst 1, 1) := by decide +kernel
theorem dL_tree_318 : decode cL_tree 318 = .ok (.goto 4, 3) := by decide +kernel
theorem dL_tree_321 : decode cL_tree 321 = .ok (.iconst 0, 1) := by decide +kernel
theorem dL_tree_322 : decode cL_tree 322 = .ok (.istore_n 2, 1) := by decide +kernel
theorem dL_tree_323 : decode cL_tree 323 = .ok (.iload_n 2, 1) := by decide +kernel
theorem dL_tree_324 : decode cL_tree 324 = .ok (.ifCond .eq 63, 3) := by decide +kernel
theorem dL_tree_327 : decode cL_tree 327 = .ok (.aload_n 0, 1) := by decide +kernel
theorem dL_tree_328 : decode cL_tree 328 = .ok (.iload_n 3, 1) := by decide +kernel
theorem dL_tree_329 : decode cL_tree 329 = .ok (.invokevirtual 263, 3) := by decide +kernel
theorem dL_tree_332 : decode cL_tree 332 = .ok (.iload 4, 2) := by decide +kernel
theorem dL_tree_334 : decode cL_tree 334 = .ok (.aload_n 1, 1) := by decide +kernel
theorem dL_tree_335 : decode cL_tree 335 = .ok (.getfield 214, 3) := by decide +kernel
theorem dL_tree_338 : decode cL_tree 338 = .ok (.iload_n 3, 1) := by decide +kernel
theorem dL_tree_339 : decode cL_tree 339 = .ok (.iaload, 1) := by decide +kernel
theorem dL_tree_340 : decode cL_tree 340 = .ok (.if_icmp .le 7, 3) := by decide +kernel
theorem dL_tree_343 : decode cL_tree 343 = .ok (.iconst 1, 1) := by decide +kernel
theorem dL_tree_344 : decode cL_tree 344 = .ok (.goto 4, 3) := by decide +kernel
theorem dL_tree_347 : decode cL_tree 347 = .ok (.iconst 0, 1) := by decide +kernel
theorem dL_tree_348 : decode cL_tree 348 = .ok (.if_icmp .ne 39, 3) := by decide +kernel
theorem dL_tree_351 : decode cL_tree 351 = .ok (.aload_n 0, 1) := by decide +kernel
theorem dL_tree_352 : decode cL_tree 352 = .ok (.iload_n 3, 1) := by decide +kernel
theorem dL_tree_353 : decode cL_tree 353 = .ok (.invokevirtual 266, 3) := by decide +kernel
theorem dL_tree_356 : decode cL_tree 356 = .ok (.iload 6, 2) := by decide +kernel
theorem dL_tree_358 : decode cL_tree 358 = .ok (.if_icmp .ne 29, 3) := by decide +kernel
theorem dL_tree_361 : decode cL_tree 361 = .ok (.aload_n 0, 1) := by decide +kernel
theorem dL_tree_362 : decode cL_tree 362 = .ok (.iload_n 3, 1) := by decide +kernel
theorem dL_tree_363 : decode cL_tree 363 = .ok (.iconst 0, 1) := by decide +kernel
theorem dL_tree_364 : decode cL_tree 364 = .ok (.invokevirtual 269, 3) := by decide +kernel
theorem dL_tree_367 : decode cL_tree 367 = .ok (.bipush 16, 2) := by decide +kernel
theorem dL_tree_369 : decode cL_tree 369 = .ok (.iload_n 3, 1) := by decide +kernel
theorem dL_tree_370 : decode cL_tree 370 = .ok (.iadd, 1) := by decide +kernel
theorem dL_tree_371 : decode cL_tree 371 = .ok (.if_icmp .ne 16, 3) := by decide +kernel
theorem dL_tree_374 : decode cL_tree 374 = .ok (.aload_n 0, 1) := by decide +kernel
theorem dL_tree_375 : decode cL_tree 375 = .ok (.iload_n 3, 1) := by decide +kernel
theorem dL_tree_376 : decode cL_tree 376 = .ok (.iconst 1, 1) := by decide +kernel
theorem dL_tree_377 : decode cL_tree 377 = .ok (.invokevirtual 269, 3) := by decide +kernel
theorem dL_tree_380 : decode cL_tree 380 = .ok (.ifCond .ne 7, 3) := by decide +kernel
theorem dL_tree_383 : decode cL_tree 383 = .ok (.iconst 1, 1) := by decide +kernel
theorem dL_tree_384 : decode cL_tree 384 = .ok (.goto 4, 3) := by decide +kernel
theorem dL_tree_387 : decode cL_tree 387 = .ok (.iconst 0, 1) := by decide +kernel
theorem dL_tree_388 : decode cL_tree 388 = .ok (.istore_n 2, 1) := by decide +kernel
theorem dL_tree_389 : decode cL_tree 389 = .ok (.iinc 3 1, 3) := by decide +kernel
theorem dL_tree_392 : decode cL_tree 392 = .ok (.goto (-351), 3) := by decide +kernel
theorem dL_tree_395 : decode cL_tree 395 = .ok (.iload_n 2, 1) := by decide +kernel
theorem dL_tree_396 : decode cL_tree 396 = .ok (.ireturn, 1) := by decide +kernel
theorem dL_asked_0 : decode cL_asked 0 = .ok (.aload_n 1, 1) := by decide +kernel
theorem dL_asked_1 : decode cL_asked 1 = .ok (.iload_n 2, 1) := by decide +kernel
theorem dL_asked_2 : decode cL_asked 2 = .ok (.iload_n 3, 1) := by decide +kernel
theorem dL_asked_3 : decode cL_asked 3 = .ok (.invokevirtual 186, 3) := by decide +kernel
theorem dL_asked_6 : decode cL_asked 6 = .ok (.istore 4, 2) := by decide +kernel
theorem dL_asked_8 : decode cL_asked 8 = .ok (.bipush (-2), 2) := by decide +kernel
theorem dL_asked_10 : decode cL_asked 10 = .ok (.istore 5, 2) := by decide +kernel
theorem dL_asked_12 : decode cL_asked 12 = .ok (.iload_n 2, 1) := by decide +kernel
theorem dL_asked_13 : decode cL_asked 13 = .ok (.istore 6, 2) := by decide +kernel
theorem dL_asked_15 : decode cL_asked 15 = .ok (.iload 6, 2) := by decide +kernel
theorem dL_asked_17 : decode cL_asked 17 = .ok (.ifCond .lt 40, 3) := by decide +kernel
theorem dL_asked_20 : decode cL_asked 20 = .ok (.iload 5, 2) := by decide +kernel
theorem dL_asked_22 : decode cL_asked 22 = .ok (.ifCond .ge 35, 3) := by decide +kernel
theorem dL_asked_25 : decode cL_asked 25 = .ok (.aload_n 1, 1) := by decide +kernel
theorem dL_asked_26 : decode cL_asked 26 = .ok (.getfield 81, 3) := by decide +kernel
theorem dL_asked_29 : decode cL_asked 29 = .ok (.iload 6, 2) := by decide +kernel
theorem dL_asked_31 : decode cL_asked 31 = .ok (.iaload, 1) := by decide +kernel
theorem dL_asked_32 : decode cL_asked 32 = .ok (.iload_n 3, 1) := by decide +kernel
theorem dL_asked_33 : decode cL_asked 33 = .ok (.if_icmp .ge 8, 3) := by decide +kernel
theorem dL_asked_36 : decode cL_asked 36 = .ok (.iload 6, 2) := by decide +kernel
theorem dL_asked_38 : decode cL_asked 38 = .ok (.goto 5, 3) := by decide +kernel
theorem dL_asked_41 : decode cL_asked 41 = .ok (.iload 5, 2) := by decide +kernel
theorem dL_asked_43 : decode cL_asked 43 = .ok (.istore 5, 2) := by decide +kernel
theorem dL_asked_45 : decode cL_asked 45 = .ok (.aload_n 1, 1) := by decide +kernel
theorem dL_asked_46 : decode cL_asked 46 = .ok (.getfield 212, 3) := by decide +kernel
theorem dL_asked_49 : decode cL_asked 49 = .ok (.iload 6, 2) := by decide +kernel
theorem dL_asked_51 : decode cL_asked 51 = .ok (.iaload, 1) := by decide +kernel
theorem dL_asked_52 : decode cL_asked 52 = .ok (.istore 6, 2) := by decide +kernel
theorem dL_asked_54 : decode cL_asked 54 = .ok (.goto (-39), 3) := by decide +kernel
theorem dL_asked_57 : decode cL_asked 57 = .ok (.iconst 0, 1) := by decide +kernel
theorem dL_asked_58 : decode cL_asked 58 = .ok (.istore 6, 2) := by decide +kernel
theorem dL_asked_60 : decode cL_asked 60 = .ok (.iconst 1, 1) := by decide +kernel
theorem dL_asked_61 : decode cL_asked 61 = .ok (.istore 7, 2) := by decide +kernel
theorem dL_asked_63 : decode cL_asked 63 = .ok (.iload 7, 2) := by decide +kernel
theorem dL_asked_65 : decode cL_asked 65 = .ok (.bipush 100, 2) := by decide +kernel
theorem dL_asked_67 : decode cL_asked 67 = .ok (.if_icmp .ge 28, 3) := by decide +kernel
theorem dL_asked_70 : decode cL_asked 70 = .ok (.aload_n 1, 1) := by decide +kernel
theorem dL_asked_71 : decode cL_asked 71 = .ok (.iload_n 2, 1) := by decide +kernel
theorem dL_asked_72 : decode cL_asked 72 = .ok (.iload 7, 2) := by decide +kernel
theorem dL_asked_74 : decode cL_asked 74 = .ok (.invokevirtual 186, 3) := by decide +kernel
theorem dL_asked_77 : decode cL_asked 77 = .ok (.ifCond .lt 8, 3) := by decide +kernel
theorem dL_asked_80 : decode cL_asked 80 = .ok (.iload 7, 2) := by decide +kernel
theorem dL_asked_82 : decode cL_asked 82 = .ok (.goto 5, 3) := by decide +kernel
theorem dL_asked_85 : decode cL_asked 85 = .ok (.iload 6, 2) := by decide +kernel
theorem dL_asked_87 : decode cL_asked 87 = .ok (.istore 6, 2) := by decide +kernel
theorem dL_asked_89 : decode cL_asked 89 = .ok (.iinc 7 1, 3) := by decide +kernel
theorem dL_asked_92 : decode cL_asked 92 = .ok (.goto (-29), 3) := by decide +kernel
theorem dL_asked_95 : decode cL_asked 95 = .ok (.aload_n 0, 1) := by decide +kernel
theorem dL_asked_96 : decode cL_asked 96 = .ok (.iload_n 2, 1) := by decide +kernel
theorem dL_asked_97 : decode cL_asked 97 = .ok (.iload_n 3, 1) := by decide +kernel
theorem dL_asked_98 : decode cL_asked 98 = .ok (.invokevirtual 139, 3) := by decide +kernel
theorem dL_asked_101 : decode cL_asked 101 = .ok (.iload 4, 2) := by decide +kernel
theorem dL_asked_103 : decode cL_asked 103 = .ok (.if_icmp .ne 77, 3) := by decide +kernel
theorem dL_asked_106 : decode cL_asked 106 = .ok (.aload_n 0, 1) := by decide +kernel
theorem dL_asked_107 : decode cL_asked 107 = .ok (.iload_n 2, 1) := by decide +kernel
theorem dL_asked_108 : decode cL_asked 108 = .ok (.iload_n 3, 1) := by decide +kernel
theorem dL_asked_109 : decode cL_asked 109 = .ok (.invokevirtual 272, 3) := by decide +kernel
theorem dL_asked_112 : decode cL_asked 112 = .ok (.iload 5, 2) := by decide +kernel
theorem dL_asked_114 : decode cL_asked 114 = .ok (.if_icmp .ne 66, 3) := by decide +kernel
theorem dL_asked_117 : decode cL_asked 117 = .ok (.aload_n 0, 1) := by decide +kernel
theorem dL_asked_118 : decode cL_asked 118 = .ok (.iload_n 2, 1) := by decide +kernel
theorem dL_asked_119 : decode cL_asked 119 = .ok (.invokevirtual 275, 3) := by decide +kernel
theorem dL_asked_122 : decode cL_asked 122 = .ok (.iload 6, 2) := by decide +kernel
theorem dL_asked_124 : decode cL_asked 124 = .ok (.if_icmp .ne 56, 3) := by decide +kernel
theorem dL_asked_127 : decode cL_asked 127 = .ok (.aload_n 0, 1) := by decide +kernel
theorem dL_asked_128 : decode cL_asked 128 = .ok (.iload_n 2, 1) := by decide +kernel
theorem dL_asked_129 : decode cL_asked 129 = .ok (.iload_n 3, 1) := by decide +kernel
theorem dL_asked_130 : decode cL_asked 130 = .ok (.invokevirtual 278, 3) := by decide +kernel
theorem dL_asked_133 : decode cL_asked 133 = .ok (.iload 5, 2) := by decide +kernel
theorem dL_asked_135 : decode cL_asked 135 = .ok (.ifCond .lt 7, 3) := by decide +kernel
theorem dL_asked_138 : decode cL_asked 138 = .ok (.iconst 1, 1) := by decide +kernel
theorem dL_asked_139 : decode cL_asked 139 = .ok (.goto 13, 3) := by decide +kernel
theorem dL_asked_142 : decode cL_asked 142 = .ok (.iload 4, 2) := by decide +kernel
theorem dL_asked_144 : decode cL_asked 144 = .ok (.ifCond .ge 7, 3) := by decide +kernel
theorem dL_asked_147 : decode cL_asked 147 = .ok (.iconst 2, 1) := by decide +kernel
theorem dL_asked_148 : decode cL_asked 148 = .ok (.goto 4, 3) := by decide +kernel
theorem dL_asked_151 : decode cL_asked 151 = .ok (.iconst 0, 1) := by decide +kernel
theorem dL_asked_152 : decode cL_asked 152 = .ok (.if_icmp .ne 28, 3) := by decide +kernel
theorem dL_asked_155 : decode cL_asked 155 = .ok (.aload_n 0, 1) := by decide +kernel
theorem dL_asked_156 : decode cL_asked 156 = .ok (.iload_n 2, 1) := by decide +kernel
theorem dL_asked_157 : decode cL_asked 157 = .ok (.iconst 0, 1) := by decide +kernel
theorem dL_asked_158 : decode cL_asked 158 = .ok (.invokevirtual 139, 3) := by decide +kernel
theorem dL_asked_161 : decode cL_asked 161 = .ok (.iconst (-1), 1) := by decide +kernel
theorem dL_asked_162 : decode cL_asked 162 = .ok (.if_icmp .ne 18, 3) := by decide +kernel
theorem dL_asked_165 : decode cL_asked 165 = .ok (.aload_n 0, 1) := by decide +kernel
theorem dL_asked_166 : decode cL_asked 166 = .ok (.iload_n 2, 1) := by decide +kernel
theorem dL_asked_167 : decode cL_asked 167 = .ok (.bipush 100, 2) := by decide +kernel
theorem dL_asked_169 : decode cL_asked 169 = .ok (.invokevirtual 139, 3) := by decide +kernel
theorem dL_asked_172 : decode cL_asked 172 = .ok (.iconst (-1), 1) := by decide +kernel
theorem dL_asked_173 : decode cL_asked 173 = .ok (.if_icmp .ne 7, 3) := by decide +kernel
theorem dL_asked_176 : decode cL_asked 176 = .ok (.iconst 1, 1) := by decide +kernel
theorem dL_asked_177 : decode cL_asked 177 = .ok (.goto 4, 3) := by decide +kernel
theorem dL_asked_180 : decode cL_asked 180 = .ok (.iconst 0, 1) := by decide +kernel
theorem dL_asked_181 : decode cL_asked 181 = .ok (.istore 7, 2) := by decide +kernel
theorem dL_asked_183 : decode cL_asked 183 = .ok (.bipush 7, 2) := by decide +kernel
theorem dL_asked_185 : decode cL_asked 185 = .ok (.anewarray 281, 3) := by decide +kernel
theorem dL_asked_188 : decode cL_asked 188 = .ok (.dup, 1) := by decide +kernel
theorem dL_asked_189 : decode cL_asked 189 = .ok (.iconst 0, 1) := by decide +kernel
theorem dL_asked_190 : decode cL_asked 190 = .ok (.aload_n 1, 1) := by decide +kernel
theorem dL_asked_191 : decode cL_asked 191 = .ok (.getfield 70, 3) := by decide +kernel
theorem dL_asked_194 : decode cL_asked 194 = .ok (.invokevirtual 282, 3) := by decide +kernel
theorem dL_asked_197 : decode cL_asked 197 = .ok (.checkcast 281, 3) := by decide +kernel
theorem dL_asked_200 : decode cL_asked 200 = .ok (.aastore, 1) := by decide +kernel
theorem dL_asked_201 : decode cL_asked 201 = .ok (.dup, 1) := by decide +kernel
theorem dL_asked_202 : decode cL_asked 202 = .ok (.iconst 1, 1) := by decide +kernel
theorem dL_asked_203 : decode cL_asked 203 = .ok (.aload_n 1, 1) := by decide +kernel
theorem dL_asked_204 : decode cL_asked 204 = .ok (.getfield 76, 3) := by decide +kernel
theorem dL_asked_207 : decode cL_asked 207 = .ok (.invokevirtual 282, 3) := by decide +kernel
theorem dL_asked_210 : decode cL_asked 210 = .ok (.checkcast 281, 3) := by decide +kernel
theorem dL_asked_213 : decode cL_asked 213 = .ok (.aastore, 1) := by decide +kernel
theorem dL_asked_214 : decode cL_asked 214 = .ok (.dup, 1) := by decide +kernel
theorem dL_asked_215 : decode cL_asked 215 = .ok (.iconst 2, 1) := by decide +kernel
theorem dL_asked_216 : decode cL_asked 216 = .ok (.aload_n 1, 1) := by decide +kernel
theorem dL_asked_217 : decode cL_asked 217 = .ok (.getfield 81, 3) := by decide +kernel
theorem dL_asked_220 : decode cL_asked 220 = .ok (.invokevirtual 282, 3) := by decide +kernel
theorem dL_asked_223 : decode cL_asked 223 = .ok (.checkcast 281, 3) := by decide +kernel
theorem dL_asked_226 : decode cL_asked 226 = .ok (.aastore, 1) := by decide +kernel
theorem dL_asked_227 : decode cL_asked 227 = .ok (.dup, 1) := by decide +kernel
theorem dL_asked_228 : decode cL_asked 228 = .ok (.iconst 3, 1) := by decide +kernel
theorem dL_asked_229 : decode cL_asked 229 = .ok (.aload_n 1, 1) := by decide +kernel
theorem dL_asked_230 : decode cL_asked 230 = .ok (.getfield 101, 3) := by decide +kernel
theorem dL_asked_233 : decode cL_asked 233 = .ok (.invokevirtual 282, 3) := by decide +kernel
theorem dL_asked_236 : decode cL_asked 236 = .ok (.checkcast 281, 3) := by decide +kernel
theorem dL_asked_239 : decode cL_asked 239 = .ok (.aastore, 1) := by decide +kernel
theorem dL_asked_240 : decode cL_asked 240 = .ok (.dup, 1) := by decide +kernel
theorem dL_asked_241 : decode cL_asked 241 = .ok (.iconst 4, 1) := by decide +kernel
theorem dL_asked_242 : decode cL_asked 242 = .ok (.aload_n 1, 1) := by decide +kernel
theorem dL_asked_243 : decode cL_asked 243 = .ok (.getfield 107, 3) := by decide +kernel
theorem dL_asked_246 : decode cL_asked 246 = .ok (.invokevirtual 282, 3) := by decide +kernel
theorem dL_asked_249 : decode cL_asked 249 = .ok (.checkcast 281, 3) := by decide +kernel
theorem dL_asked_252 : decode cL_asked 252 = .ok (.aastore, 1) := by decide +kernel
theorem dL_asked_253 : decode cL_asked 253 = .ok (.dup, 1) := by decide +kernel
theorem dL_asked_254 : decode cL_asked 254 = .ok (.iconst 5, 1) := by decide +kernel
theorem dL_asked_255 : decode cL_asked 255 = .ok (.aload_n 1, 1) := by decide +kernel
theorem dL_asked_256 : decode cL_asked 256 = .ok (.getfield 113, 3) := by decide +kernel
theorem dL_asked_259 : decode cL_asked 259 = .ok (.invokevirtual 282, 3) := by decide +kernel
theorem dL_asked_262 : decode cL_asked 262 = .ok (.checkcast 281, 3) := by decide +kernel
theorem dL_asked_265 : decode cL_asked 265 = .ok (.aastore, 1) := by decide +kernel
theorem dL_asked_266 : decode cL_asked 266 = .ok (.dup, 1) := by decide +kernel
theorem dL_asked_267 : decode cL_asked 267 = .ok (.bipush 6, 2) := by decide +kernel
theorem dL_asked_269 : decode cL_asked 269 = .ok (.aload_n 1, 1) := by decide +kernel
theorem dL_asked_270 : decode cL_asked 270 = .ok (.getfield 87, 3) := by decide +kernel
theorem dL_asked_273 : decode cL_asked 273 = .ok (.invokevirtual 282, 3) := by decide +kernel
theorem dL_asked_276 : decode cL_asked 276 = .ok (.checkcast 281, 3) := by decide +kernel
theorem dL_asked_279 : decode cL_asked 279 = .ok (.aastore, 1) := by decide +kernel
theorem dL_asked_280 : decode cL_asked 280 = .ok (.astore 8, 2) := by decide +kernel
theorem dL_asked_282 : decode cL_asked 282 = .ok (.iconst 0, 1) := by decide +kernel
theorem dL_asked_283 : decode cL_asked 283 = .ok (.istore 9, 2) := by decide +kernel
theorem dL_asked_285 : decode cL_asked 285 = .ok (.iload 9, 2) := by decide +kernel
theorem dL_asked_287 : decode cL_asked 287 = .ok (.bipush 40, 2) := by decide +kernel
theorem dL_asked_289 : decode cL_asked 289 = .ok (.if_icmp .gt 22, 3) := by decide +kernel
theorem dL_asked_292 : decode cL_asked 292 = .ok (.aload_n 1, 1) := by decide +kernel
theorem dL_asked_293 : decode cL_asked 293 = .ok (.iload_n 2, 1) := by decide +kernel
theorem dL_asked_294 : decode cL_asked 294 = .ok (.iload_n 3, 1) := by decide +kernel
theorem dL_asked_295 : decode cL_asked 295 = .ok (.invokevirtual 186, 3) := by decide +kernel
theorem dL_asked_298 : decode cL_asked 298 = .ok (.ifCond .ge 13, 3) := by decide +kernel
theorem dL_asked_301 : decode cL_asked 301 = .ok (.aload_n 1, 1) := by decide +kernel
theorem dL_asked_302 : decode cL_asked 302 = .ok (.invokevirtual 286, 3) := by decide +kernel
theorem dL_asked_305 : decode cL_asked 305 = .ok (.iinc 9 1, 3) := by decide +kernel
theorem dL_asked_308 : decode cL_asked 308 = .ok (.goto (-23), 3) := by decide +kernel
theorem dL_asked_311 : decode cL_asked 311 = .ok (.aload_n 0, 1) := by decide +kernel
theorem dL_asked_312 : decode cL_asked 312 = .ok (.iload_n 2, 1) := by decide +kernel
theorem dL_asked_313 : decode cL_asked 313 = .ok (.iload_n 3, 1) := by decide +kernel
theorem dL_asked_314 : decode cL_asked 314 = .ok (.invokevirtual 289, 3) := by decide +kernel
theorem dL_asked_317 : decode cL_asked 317 = .ok (.istore 10, 2) := by decide +kernel
theorem dL_asked_319 : decode cL_asked 319 = .ok (.iload 7, 2) := by decide +kernel
theorem dL_asked_321 : decode cL_asked 321 = .ok (.ifCond .eq 38, 3) := by decide +kernel
theorem dL_asked_324 : decode cL_asked 324 = .ok (.iload 9, 2) := by decide +kernel
theorem dL_asked_326 : decode cL_asked 326 = .ok (.bipush 40, 2) := by decide +kernel
theorem dL_asked_328 : decode cL_asked 328 = .ok (.if_icmp .gt 13, 3) := by decide +kernel
theorem dL_asked_331 : decode cL_asked 331 = .ok (.iload 10, 2) := by decide +kernel
theorem dL_asked_333 : decode cL_asked 333 = .ok (.iload 9, 2) := by decide +kernel
theorem dL_asked_335 : decode cL_asked 335 = .ok (.if_icmp .ne 24, 3) := by decide +kernel
theorem dL_asked_338 : decode cL_asked 338 = .ok (.goto 17, 3) := by decide +kernel
theorem dL_asked_341 : decode cL_asked 341 = .ok (.iload 10, 2) := by decide +kernel
theorem dL_asked_343 : decode cL_asked 343 = .ok (.bipush (-2), 2) := by decide +kernel
theorem dL_asked_345 : decode cL_asked 345 = .ok (.if_icmp .eq 10, 3) := by decide +kernel
theorem dL_asked_348 : decode cL_asked 348 = .ok (.iload 10, 2) := by decide +kernel
theorem dL_asked_350 : decode cL_asked 350 = .ok (.bipush 40, 2) := by decide +kernel
theorem dL_asked_352 : decode cL_asked 352 = .ok (.if_icmp .le 7, 3) := by decide +kernel
theorem dL_asked_355 : decode cL_asked 355 = .ok (.iconst 1, 1) := by decide +kernel
theorem dL_asked_356 : decode cL_asked 356 = .ok (.goto 4, 3) := by decide +kernel
theorem dL_asked_359 : decode cL_asked 359 = .ok (.iconst 0, 1) := by decide +kernel
theorem dL_asked_360 : decode cL_asked 360 = .ok (.istore 7, 2) := by decide +kernel
theorem dL_asked_362 : decode cL_asked 362 = .ok (.aload_n 1, 1) := by decide +kernel
theorem dL_asked_363 : decode cL_asked 363 = .ok (.aload 8, 2) := by decide +kernel
theorem dL_asked_365 : decode cL_asked 365 = .ok (.invokestatic 292, 3) := by decide +kernel
theorem dL_asked_368 : decode cL_asked 368 = .ok (.iconst 0, 1) := by decide +kernel
theorem dL_asked_369 : decode cL_asked 369 = .ok (.istore 11, 2) := by decide +kernel
theorem dL_asked_371 : decode cL_asked 371 = .ok (.aload_n 1, 1) := by decide +kernel
theorem dL_asked_372 : decode cL_asked 372 = .ok (.iload_n 2, 1) := by decide +kernel
theorem dL_asked_373 : decode cL_asked 373 = .ok (.iload_n 3, 1) := by decide +kernel
theorem dL_asked_374 : decode cL_asked 374 = .ok (.invokevirtual 186, 3) := by decide +kernel
theorem dL_asked_377 : decode cL_asked 377 = .ok (.ifCond .lt 15, 3) := by decide +kernel
theorem dL_asked_380 : decode cL_asked 380 = .ok (.aload_n 1, 1) := by decide +kernel
theorem dL_asked_381 : decode cL_asked 381 = .ok (.iload_n 2, 1) := by decide +kernel
theorem dL_asked_382 : decode cL_asked 382 = .ok (.iload_n 3, 1) := by decide +kernel
theorem dL_asked_383 : decode cL_asked 383 = .ok (.invokevirtual 190, 3) := by decide +kernel
theorem dL_asked_386 : decode cL_asked 386 = .ok (.iinc 11 1, 3) := by decide +kernel
theorem dL_asked_389 : decode cL_asked 389 = .ok (.goto (-18), 3) := by decide +kernel
theorem dL_asked_392 : decode cL_asked 392 = .ok (.iload 7, 2) := by decide +kernel
theorem dL_asked_394 : decode cL_asked 394 = .ok (.ifCond .eq 18, 3) := by decide +kernel
theorem dL_asked_397 : decode cL_asked 397 = .ok (.aload_n 0, 1) := by decide +kernel
theorem dL_asked_398 : decode cL_asked 398 = .ok (.iload_n 2, 1) := by decide +kernel
theorem dL_asked_399 : decode cL_asked 399 = .ok (.iload_n 3, 1) := by decide +kernel
theorem dL_asked_400 : decode cL_asked 400 = .ok (.invokevirtual 296, 3) := by decide +kernel
theorem dL_asked_403 : decode cL_asked 403 = .ok (.iload 11, 2) := by decide +kernel
theorem dL_asked_405 : decode cL_asked 405 = .ok (.if_icmp .ne 7, 3) := by decide +kernel
theorem dL_asked_408 : decode cL_asked 408 = .ok (.iconst 1, 1) := by decide +kernel
theorem dL_asked_409 : decode cL_asked 409 = .ok (.goto 4, 3) := by decide +kernel
theorem dL_asked_412 : decode cL_asked 412 = .ok (.iconst 0, 1) := by decide +kernel
theorem dL_asked_413 : decode cL_asked 413 = .ok (.istore 7, 2) := by decide +kernel
theorem dL_asked_415 : decode cL_asked 415 = .ok (.aload_n 1, 1) := by decide +kernel
theorem dL_asked_416 : decode cL_asked 416 = .ok (.aload 8, 2) := by decide +kernel
theorem dL_asked_418 : decode cL_asked 418 = .ok (.invokestatic 292, 3) := by decide +kernel
theorem dL_asked_421 : decode cL_asked 421 = .ok (.iload 7, 2) := by decide +kernel
theorem dL_asked_423 : decode cL_asked 423 = .ok (.ifCond .eq 15, 3) := by decide +kernel
theorem dL_asked_426 : decode cL_asked 426 = .ok (.aload_n 0, 1) := by decide +kernel
theorem dL_asked_427 : decode cL_asked 427 = .ok (.aload_n 1, 1) := by decide +kernel
theorem dL_asked_428 : decode cL_asked 428 = .ok (.invokestatic 172, 3) := by decide +kernel
theorem dL_asked_431 : decode cL_asked 431 = .ok (.ifCond .eq 7, 3) := by decide +kernel
theorem dL_asked_434 : decode cL_asked 434 = .ok (.iconst 1, 1) := by decide +kernel
theorem dL_asked_435 : decode cL_asked 435 = .ok (.goto 4, 3) := by decide +kernel
theorem dL_asked_438 : decode cL_asked 438 = .ok (.iconst 0, 1) := by decide +kernel
theorem dL_asked_439 : decode cL_asked 439 = .ok (.ireturn, 1) := by decide +kernel
theorem dL_back_0 : decode cL_back 0 = .ok (.bipush 7, 2) := by decide +kernel
theorem dL_back_2 : decode cL_back 2 = .ok (.anewarray 281, 3) := by decide +kernel
theorem dL_back_5 : decode cL_back 5 = .ok (.dup, 1) := by decide +kernel
theorem dL_back_6 : decode cL_back 6 = .ok (.iconst 0, 1) := by decide +kernel
theorem dL_back_7 : decode cL_back 7 = .ok (.aload_n 0, 1) := by decide +kernel
theorem dL_back_8 : decode cL_back 8 = .ok (.getfield 70, 3) := by decide +kernel
theorem dL_back_11 : decode cL_back 11 = .ok (.aastore, 1) := by decide +kernel
theorem dL_back_12 : decode cL_back 12 = .ok (.dup, 1) := by decide +kernel
theorem dL_back_13 : decode cL_back 13 = .ok (.iconst 1, 1) := by decide +kernel
theorem dL_back_14 : decode cL_back 14 = .ok (.aload_n 0, 1) := by decide +kernel
theorem dL_back_15 : decode cL_back 15 = .ok (.getfield 76, 3) := by decide +kernel
theorem dL_back_18 : decode cL_back 18 = .ok (.aastore, 1) := by decide +kernel
theorem dL_back_19 : decode cL_back 19 = .ok (.dup, 1) := by decide +kernel
theorem dL_back_20 : decode cL_back 20 = .ok (.iconst 2, 1) := by decide +kernel
theorem dL_back_21 : decode cL_back 21 = .ok (.aload_n 0, 1) := by decide +kernel
theorem dL_back_22 : decode cL_back 22 = .ok (.getfield 81, 3) := by decide +kernel
theorem dL_back_25 : decode cL_back 25 = .ok (.aastore, 1) := by decide +kernel
theorem dL_back_26 : decode cL_back 26 = .ok (.dup, 1) := by decide +kernel
theorem dL_back_27 : decode cL_back 27 = .ok (.iconst 3, 1) := by decide +kernel
theorem dL_back_28 : decode cL_back 28 = .ok (.aload_n 0, 1) := by decide +kernel
theorem dL_back_29 : decode cL_back 29 = .ok (.getfield 101, 3) := by decide +kernel
theorem dL_back_32 : decode cL_back 32 = .ok (.aastore, 1) := by decide +kernel
theorem dL_back_33 : decode cL_back 33 = .ok (.dup, 1) := by decide +kernel
theorem dL_back_34 : decode cL_back 34 = .ok (.iconst 4, 1) := by decide +kernel
theorem dL_back_35 : decode cL_back 35 = .ok (.aload_n 0, 1) := by decide +kernel
theorem dL_back_36 : decode cL_back 36 = .ok (.getfield 107, 3) := by decide +kernel
theorem dL_back_39 : decode cL_back 39 = .ok (.aastore, 1) := by decide +kernel
theorem dL_back_40 : decode cL_back 40 = .ok (.dup, 1) := by decide +kernel
theorem dL_back_41 : decode cL_back 41 = .ok (.iconst 5, 1) := by decide +kernel
theorem dL_back_42 : decode cL_back 42 = .ok (.aload_n 0, 1) := by decide +kernel
theorem dL_back_43 : decode cL_back 43 = .ok (.getfield 113, 3) := by decide +kernel
theorem dL_back_46 : decode cL_back 46 = .ok (.aastore, 1) := by decide +kernel
theorem dL_back_47 : decode cL_back 47 = .ok (.dup, 1) := by decide +kernel
theorem dL_back_48 : decode cL_back 48 = .ok (.bipush 6, 2) := by decide +kernel
theorem dL_back_50 : decode cL_back 50 = .ok (.aload_n 0, 1) := by decide +kernel
theorem dL_back_51 : decode cL_back 51 = .ok (.getfield 87, 3) := by decide +kernel
theorem dL_back_54 : decode cL_back 54 = .ok (.aastore, 1) := by decide +kernel
theorem dL_back_55 : decode cL_back 55 = .ok (.astore_n 2, 1) := by decide +kernel
theorem dL_back_56 : decode cL_back 56 = .ok (.iconst 0, 1) := by decide +kernel
theorem dL_back_57 : decode cL_back 57 = .ok (.istore_n 3, 1) := by decide +kernel
theorem dL_back_58 : decode cL_back 58 = .ok (.iload_n 3, 1) := by decide +kernel
theorem dL_back_59 : decode cL_back 59 = .ok (.aload_n 2, 1) := by decide +kernel
theorem dL_back_60 : decode cL_back 60 = .ok (.arraylength, 1) := by decide +kernel
theorem dL_back_61 : decode cL_back 61 = .ok (.if_icmp .ge 24, 3) := by decide +kernel
theorem dL_back_64 : decode cL_back 64 = .ok (.aload_n 1, 1) := by decide +kernel
theorem dL_back_65 : decode cL_back 65 = .ok (.iload_n 3, 1) := by decide +kernel
theorem dL_back_66 : decode cL_back 66 = .ok (.aaload, 1) := by decide +kernel
theorem dL_back_67 : decode cL_back 67 = .ok (.iconst 0, 1) := by decide +kernel
theorem dL_back_68 : decode cL_back 68 = .ok (.aload_n 2, 1) := by decide +kernel
theorem dL_back_69 : decode cL_back 69 = .ok (.iload_n 3, 1) := by decide +kernel
theorem dL_back_70 : decode cL_back 70 = .ok (.aaload, 1) := by decide +kernel
theorem dL_back_71 : decode cL_back 71 = .ok (.iconst 0, 1) := by decide +kernel
theorem dL_back_72 : decode cL_back 72 = .ok (.aload_n 1, 1) := by decide +kernel
theorem dL_back_73 : decode cL_back 73 = .ok (.iload_n 3, 1) := by decide +kernel
theorem dL_back_74 : decode cL_back 74 = .ok (.aaload, 1) := by decide +kernel
theorem dL_back_75 : decode cL_back 75 = .ok (.arraylength, 1) := by decide +kernel
theorem dL_back_76 : decode cL_back 76 = .ok (.invokestatic 299, 3) := by decide +kernel
theorem dL_back_79 : decode cL_back 79 = .ok (.iinc 3 1, 3) := by decide +kernel
theorem dL_back_82 : decode cL_back 82 = .ok (.goto (-24), 3) := by decide +kernel
theorem dL_back_85 : decode cL_back 85 = .ok (.return_, 1) := by decide +kernel
