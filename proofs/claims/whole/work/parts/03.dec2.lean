theorem dX8_frontDistance_30 : decode cX8_frontDistance 30 = .ok (.iload_n 2, 1) := by decide +kernel
theorem dX8_frontDistance_31 : decode cX8_frontDistance 31 = .ok (.bipush 16, 2) := by decide +kernel
theorem dX8_frontDistance_33 : decode cX8_frontDistance 33 = .ok (.imul, 1) := by decide +kernel
theorem dX8_frontDistance_34 : decode cX8_frontDistance 34 = .ok (.iaload, 1) := by decide +kernel
theorem dX8_frontDistance_35 : decode cX8_frontDistance 35 = .ok (.invokevirtual 213, 3) := by decide +kernel
theorem dX8_frontDistance_38 : decode cX8_frontDistance 38 = .ok (.invokevirtual 228, 3) := by decide +kernel
theorem dX8_frontDistance_41 : decode cX8_frontDistance 41 = .ok (.ireturn, 1) := by decide +kernel
theorem dX8_precedes_0 : decode cX8_precedes 0 = .ok (.aload_n 1, 1) := by decide +kernel
theorem dX8_precedes_1 : decode cX8_precedes 1 = .ok (.getfield 231, 3) := by decide +kernel
theorem dX8_precedes_4 : decode cX8_precedes 4 = .ok (.iload_n 2, 1) := by decide +kernel
theorem dX8_precedes_5 : decode cX8_precedes 5 = .ok (.iaload, 1) := by decide +kernel
theorem dX8_precedes_6 : decode cX8_precedes 6 = .ok (.aload_n 1, 1) := by decide +kernel
theorem dX8_precedes_7 : decode cX8_precedes 7 = .ok (.getfield 231, 3) := by decide +kernel
theorem dX8_precedes_10 : decode cX8_precedes 10 = .ok (.iload_n 3, 1) := by decide +kernel
theorem dX8_precedes_11 : decode cX8_precedes 11 = .ok (.iaload, 1) := by decide +kernel
theorem dX8_precedes_12 : decode cX8_precedes 12 = .ok (.if_icmp .eq 24, 3) := by decide +kernel
theorem dX8_precedes_15 : decode cX8_precedes 15 = .ok (.aload_n 1, 1) := by decide +kernel
theorem dX8_precedes_16 : decode cX8_precedes 16 = .ok (.getfield 231, 3) := by decide +kernel
theorem dX8_precedes_19 : decode cX8_precedes 19 = .ok (.iload_n 2, 1) := by decide +kernel
theorem dX8_precedes_20 : decode cX8_precedes 20 = .ok (.iaload, 1) := by decide +kernel
theorem dX8_precedes_21 : decode cX8_precedes 21 = .ok (.aload_n 1, 1) := by decide +kernel
theorem dX8_precedes_22 : decode cX8_precedes 22 = .ok (.getfield 231, 3) := by decide +kernel
theorem dX8_precedes_25 : decode cX8_precedes 25 = .ok (.iload_n 3, 1) := by decide +kernel
theorem dX8_precedes_26 : decode cX8_precedes 26 = .ok (.iaload, 1) := by decide +kernel
theorem dX8_precedes_27 : decode cX8_precedes 27 = .ok (.if_icmp .ge 7, 3) := by decide +kernel
theorem dX8_precedes_30 : decode cX8_precedes 30 = .ok (.iconst 1, 1) := by decide +kernel
theorem dX8_precedes_31 : decode cX8_precedes 31 = .ok (.goto 4, 3) := by decide +kernel
theorem dX8_precedes_34 : decode cX8_precedes 34 = .ok (.iconst 0, 1) := by decide +kernel
theorem dX8_precedes_35 : decode cX8_precedes 35 = .ok (.ireturn, 1) := by decide +kernel
theorem dX8_precedes_36 : decode cX8_precedes 36 = .ok (.aload_n 0, 1) := by decide +kernel
theorem dX8_precedes_37 : decode cX8_precedes 37 = .ok (.iload_n 2, 1) := by decide +kernel
theorem dX8_precedes_38 : decode cX8_precedes 38 = .ok (.iload_n 3, 1) := by decide +kernel
theorem dX8_precedes_39 : decode cX8_precedes 39 = .ok (.invokevirtual 234, 3) := by decide +kernel
theorem dX8_precedes_42 : decode cX8_precedes 42 = .ok (.ifCond .ge 7, 3) := by decide +kernel
theorem dX8_precedes_45 : decode cX8_precedes 45 = .ok (.iconst 1, 1) := by decide +kernel
theorem dX8_precedes_46 : decode cX8_precedes 46 = .ok (.goto 4, 3) := by decide +kernel
theorem dX8_precedes_49 : decode cX8_precedes 49 = .ok (.iconst 0, 1) := by decide +kernel
theorem dX8_precedes_50 : decode cX8_precedes 50 = .ok (.ireturn, 1) := by decide +kernel
theorem dX8_compareServed_0 : decode cX8_compareServed 0 = .ok (.aload_n 0, 1) := by decide +kernel
theorem dX8_compareServed_1 : decode cX8_compareServed 1 = .ok (.getfield 38, 3) := by decide +kernel
theorem dX8_compareServed_4 : decode cX8_compareServed 4 = .ok (.getfield 237, 3) := by decide +kernel
theorem dX8_compareServed_7 : decode cX8_compareServed 7 = .ok (.iload_n 1, 1) := by decide +kernel
theorem dX8_compareServed_8 : decode cX8_compareServed 8 = .ok (.iaload, 1) := by decide +kernel
theorem dX8_compareServed_9 : decode cX8_compareServed 9 = .ok (.i2l, 1) := by decide +kernel
theorem dX8_compareServed_10 : decode cX8_compareServed 10 = .ok (.aload_n 0, 1) := by decide +kernel
theorem dX8_compareServed_11 : decode cX8_compareServed 11 = .ok (.getfield 18, 3) := by decide +kernel
theorem dX8_compareServed_14 : decode cX8_compareServed 14 = .ok (.iload_n 2, 1) := by decide +kernel
theorem dX8_compareServed_15 : decode cX8_compareServed 15 = .ok (.iaload, 1) := by decide +kernel
theorem dX8_compareServed_16 : decode cX8_compareServed 16 = .ok (.i2l, 1) := by decide +kernel
theorem dX8_compareServed_17 : decode cX8_compareServed 17 = .ok (.lmul, 1) := by decide +kernel
theorem dX8_compareServed_18 : decode cX8_compareServed 18 = .ok (.lstore_n 3, 1) := by decide +kernel
theorem dX8_compareServed_19 : decode cX8_compareServed 19 = .ok (.aload_n 0, 1) := by decide +kernel
theorem dX8_compareServed_20 : decode cX8_compareServed 20 = .ok (.getfield 38, 3) := by decide +kernel
theorem dX8_compareServed_23 : decode cX8_compareServed 23 = .ok (.getfield 237, 3) := by decide +kernel
theorem dX8_compareServed_26 : decode cX8_compareServed 26 = .ok (.iload_n 2, 1) := by decide +kernel
theorem dX8_compareServed_27 : decode cX8_compareServed 27 = .ok (.iaload, 1) := by decide +kernel
theorem dX8_compareServed_28 : decode cX8_compareServed 28 = .ok (.i2l, 1) := by decide +kernel
theorem dX8_compareServed_29 : decode cX8_compareServed 29 = .ok (.aload_n 0, 1) := by decide +kernel
theorem dX8_compareServed_30 : decode cX8_compareServed 30 = .ok (.getfield 18, 3) := by decide +kernel
theorem dX8_compareServed_33 : decode cX8_compareServed 33 = .ok (.iload_n 1, 1) := by decide +kernel
theorem dX8_compareServed_34 : decode cX8_compareServed 34 = .ok (.iaload, 1) := by decide +kernel
theorem dX8_compareServed_35 : decode cX8_compareServed 35 = .ok (.i2l, 1) := by decide +kernel
theorem dX8_compareServed_36 : decode cX8_compareServed 36 = .ok (.lmul, 1) := by decide +kernel
theorem dX8_compareServed_37 : decode cX8_compareServed 37 = .ok (.lstore 5, 2) := by decide +kernel
theorem dX8_compareServed_39 : decode cX8_compareServed 39 = .ok (.lload_n 3, 1) := by decide +kernel
theorem dX8_compareServed_40 : decode cX8_compareServed 40 = .ok (.lload 5, 2) := by decide +kernel
theorem dX8_compareServed_42 : decode cX8_compareServed 42 = .ok (.invokestatic 240, 3) := by decide +kernel
theorem dX8_compareServed_45 : decode cX8_compareServed 45 = .ok (.ireturn, 1) := by decide +kernel
theorem dX9_init_0 : decode cX9_init 0 = .ok (.aload_n 0, 1) := by decide +kernel
theorem dX9_init_1 : decode cX9_init 1 = .ok (.invokespecial 3, 3) := by decide +kernel
theorem dX9_init_4 : decode cX9_init 4 = .ok (.aload_n 0, 1) := by decide +kernel
theorem dX9_init_5 : decode cX9_init 5 = .ok (.sipush 900, 3) := by decide +kernel
theorem dX9_init_8 : decode cX9_init 8 = .ok (.newarray .byte, 2) := by decide +kernel
theorem dX9_init_10 : decode cX9_init 10 = .ok (.putfield 9, 3) := by decide +kernel
theorem dX9_init_13 : decode cX9_init 13 = .ok (.return_, 1) := by decide +kernel
theorem dX9_append_0 : decode cX9_append 0 = .ok (.bipush 24, 2) := by decide +kernel
theorem dX9_append_2 : decode cX9_append 2 = .ok (.istore_n 2, 1) := by decide +kernel
theorem dX9_append_3 : decode cX9_append 3 = .ok (.iload_n 2, 1) := by decide +kernel
theorem dX9_append_4 : decode cX9_append 4 = .ok (.ifCond .lt 51, 3) := by decide +kernel
theorem dX9_append_7 : decode cX9_append 7 = .ok (.aload_n 0, 1) := by decide +kernel
theorem dX9_append_8 : decode cX9_append 8 = .ok (.getfield 15, 3) := by decide +kernel
theorem dX9_append_11 : decode cX9_append 11 = .ok (.ifCond .lt 38, 3) := by decide +kernel
theorem dX9_append_14 : decode cX9_append 14 = .ok (.aload_n 0, 1) := by decide +kernel
theorem dX9_append_15 : decode cX9_append 15 = .ok (.getfield 15, 3) := by decide +kernel
theorem dX9_append_18 : decode cX9_append 18 = .ok (.aload_n 0, 1) := by decide +kernel
theorem dX9_append_19 : decode cX9_append 19 = .ok (.getfield 9, 3) := by decide +kernel
theorem dX9_append_22 : decode cX9_append 22 = .ok (.arraylength, 1) := by decide +kernel
theorem dX9_append_23 : decode cX9_append 23 = .ok (.if_icmp .ge 26, 3) := by decide +kernel
theorem dX9_append_26 : decode cX9_append 26 = .ok (.aload_n 0, 1) := by decide +kernel
theorem dX9_append_27 : decode cX9_append 27 = .ok (.getfield 9, 3) := by decide +kernel
theorem dX9_append_30 : decode cX9_append 30 = .ok (.aload_n 0, 1) := by decide +kernel
theorem dX9_append_31 : decode cX9_append 31 = .ok (.getfield 15, 3) := by decide +kernel
theorem dX9_append_34 : decode cX9_append 34 = .ok (.iload_n 1, 1) := by decide +kernel
theorem dX9_append_35 : decode cX9_append 35 = .ok (.iload_n 2, 1) := by decide +kernel
theorem dX9_append_36 : decode cX9_append 36 = .ok (.ishr, 1) := by decide +kernel
theorem dX9_append_37 : decode cX9_append 37 = .ok (.i2b, 1) := by decide +kernel
theorem dX9_append_38 : decode cX9_append 38 = .ok (.bastore, 1) := by decide +kernel
theorem dX9_append_39 : decode cX9_append 39 = .ok (.aload_n 0, 1) := by decide +kernel
theorem dX9_append_40 : decode cX9_append 40 = .ok (.dup, 1) := by decide +kernel
theorem dX9_append_41 : decode cX9_append 41 = .ok (.getfield 15, 3) := by decide +kernel
theorem dX9_append_44 : decode cX9_append 44 = .ok (.iconst 1, 1) := by decide +kernel
theorem dX9_append_45 : decode cX9_append 45 = .ok (.iadd, 1) := by decide +kernel
theorem dX9_append_46 : decode cX9_append 46 = .ok (.putfield 15, 3) := by decide +kernel
theorem dX9_append_49 : decode cX9_append 49 = .ok (.iinc 2 (-8), 3) := by decide +kernel
theorem dX9_append_52 : decode cX9_append 52 = .ok (.goto (-49), 3) := by decide +kernel
theorem dX9_append_55 : decode cX9_append 55 = .ok (.return_, 1) := by decide +kernel
theorem dX9_byteAt_0 : decode cX9_byteAt 0 = .ok (.iload_n 1, 1) := by decide +kernel
theorem dX9_byteAt_1 : decode cX9_byteAt 1 = .ok (.ifCond .lt 29, 3) := by decide +kernel
theorem dX9_byteAt_4 : decode cX9_byteAt 4 = .ok (.iload_n 1, 1) := by decide +kernel
theorem dX9_byteAt_5 : decode cX9_byteAt 5 = .ok (.aload_n 0, 1) := by decide +kernel
theorem dX9_byteAt_6 : decode cX9_byteAt 6 = .ok (.getfield 15, 3) := by decide +kernel
theorem dX9_byteAt_9 : decode cX9_byteAt 9 = .ok (.if_icmp .ge 21, 3) := by decide +kernel
theorem dX9_byteAt_12 : decode cX9_byteAt 12 = .ok (.iload_n 1, 1) := by decide +kernel
theorem dX9_byteAt_13 : decode cX9_byteAt 13 = .ok (.aload_n 0, 1) := by decide +kernel
theorem dX9_byteAt_14 : decode cX9_byteAt 14 = .ok (.getfield 9, 3) := by decide +kernel
theorem dX9_byteAt_17 : decode cX9_byteAt 17 = .ok (.arraylength, 1) := by decide +kernel
theorem dX9_byteAt_18 : decode cX9_byteAt 18 = .ok (.if_icmp .ge 12, 3) := by decide +kernel
theorem dX9_byteAt_21 : decode cX9_byteAt 21 = .ok (.aload_n 0, 1) := by decide +kernel
theorem dX9_byteAt_22 : decode cX9_byteAt 22 = .ok (.getfield 9, 3) := by decide +kernel
theorem dX9_byteAt_25 : decode cX9_byteAt 25 = .ok (.iload_n 1, 1) := by decide +kernel
theorem dX9_byteAt_26 : decode cX9_byteAt 26 = .ok (.baload, 1) := by decide +kernel
theorem dX9_byteAt_27 : decode cX9_byteAt 27 = .ok (.goto 4, 3) := by decide +kernel
theorem dX9_byteAt_30 : decode cX9_byteAt 30 = .ok (.iconst 0, 1) := by decide +kernel
theorem dX9_byteAt_31 : decode cX9_byteAt 31 = .ok (.ireturn, 1) := by decide +kernel
theorem dX10_init_0 : decode cX10_init 0 = .ok (.aload_n 0, 1) := by decide +kernel
theorem dX10_init_1 : decode cX10_init 1 = .ok (.invokespecial 3, 3) := by decide +kernel
theorem dX10_init_4 : decode cX10_init 4 = .ok (.return_, 1) := by decide +kernel
theorem dX10_write_0 : decode cX10_write 0 = .ok (.aload_n 0, 1) := by decide +kernel
theorem dX10_write_1 : decode cX10_write 1 = .ok (.iload_n 3, 1) := by decide +kernel
theorem dX10_write_2 : decode cX10_write 2 = .ok (.putfield 9, 3) := by decide +kernel
theorem dX10_write_5 : decode cX10_write 5 = .ok (.aload_n 0, 1) := by decide +kernel
theorem dX10_write_6 : decode cX10_write 6 = .ok (.bipush (-2), 2) := by decide +kernel
theorem dX10_write_8 : decode cX10_write 8 = .ok (.putfield 15, 3) := by decide +kernel
theorem dX10_write_11 : decode cX10_write 11 = .ok (.aload_n 0, 1) := by decide +kernel
theorem dX10_write_12 : decode cX10_write 12 = .ok (.iconst 0, 1) := by decide +kernel
theorem dX10_write_13 : decode cX10_write 13 = .ok (.putfield 18, 3) := by decide +kernel
theorem dX10_write_16 : decode cX10_write 16 = .ok (.aload_n 0, 1) := by decide +kernel
theorem dX10_write_17 : decode cX10_write 17 = .ok (.iconst 0, 1) := by decide +kernel
theorem dX10_write_18 : decode cX10_write 18 = .ok (.putfield 21, 3) := by decide +kernel
theorem dX10_write_21 : decode cX10_write 21 = .ok (.iconst 0, 1) := by decide +kernel
theorem dX10_write_22 : decode cX10_write 22 = .ok (.istore 4, 2) := by decide +kernel
theorem dX10_write_24 : decode cX10_write 24 = .ok (.iload 4, 2) := by decide +kernel
theorem dX10_write_26 : decode cX10_write 26 = .ok (.aload_n 1, 1) := by decide +kernel
theorem dX10_write_27 : decode cX10_write 27 = .ok (.getfield 25, 3) := by decide +kernel
theorem dX10_write_30 : decode cX10_write 30 = .ok (.if_icmp .ge 17, 3) := by decide +kernel
theorem dX10_write_33 : decode cX10_write 33 = .ok (.aload_n 0, 1) := by decide +kernel
theorem dX10_write_34 : decode cX10_write 34 = .ok (.aload_n 1, 1) := by decide +kernel
theorem dX10_write_35 : decode cX10_write 35 = .ok (.aload_n 2, 1) := by decide +kernel
theorem dX10_write_36 : decode cX10_write 36 = .ok (.iload 4, 2) := by decide +kernel
theorem dX10_write_38 : decode cX10_write 38 = .ok (.invokevirtual 30, 3) := by decide +kernel
theorem dX10_write_41 : decode cX10_write 41 = .ok (.iinc 4 1, 3) := by decide +kernel
theorem dX10_write_44 : decode cX10_write 44 = .ok (.goto (-20), 3) := by decide +kernel
theorem dX10_write_47 : decode cX10_write 47 = .ok (.aload_n 0, 1) := by decide +kernel
theorem dX10_write_48 : decode cX10_write 48 = .ok (.bipush 9, 2) := by decide +kernel
theorem dX10_write_50 : decode cX10_write 50 = .ok (.invokevirtual 34, 3) := by decide +kernel
theorem dX10_write_53 : decode cX10_write 53 = .ok (.aload_n 0, 1) := by decide +kernel
theorem dX10_write_54 : decode cX10_write 54 = .ok (.aload_n 1, 1) := by decide +kernel
theorem dX10_write_55 : decode cX10_write 55 = .ok (.getfield 38, 3) := by decide +kernel
theorem dX10_write_58 : decode cX10_write 58 = .ok (.invokevirtual 41, 3) := by decide +kernel
theorem dX10_write_61 : decode cX10_write 61 = .ok (.aload_n 0, 1) := by decide +kernel
theorem dX10_write_62 : decode cX10_write 62 = .ok (.invokevirtual 44, 3) := by decide +kernel
theorem dX10_write_65 : decode cX10_write 65 = .ok (.aload_n 1, 1) := by decide +kernel
theorem dX10_write_66 : decode cX10_write 66 = .ok (.getfield 47, 3) := by decide +kernel
theorem dX10_write_69 : decode cX10_write 69 = .ok (.iconst (-1), 1) := by decide +kernel
theorem dX10_write_70 : decode cX10_write 70 = .ok (.if_icmp .eq 21, 3) := by decide +kernel
theorem dX10_write_73 : decode cX10_write 73 = .ok (.aload_n 0, 1) := by decide +kernel
theorem dX10_write_74 : decode cX10_write 74 = .ok (.bipush 10, 2) := by decide +kernel
theorem dX10_write_76 : decode cX10_write 76 = .ok (.invokevirtual 34, 3) := by decide +kernel
theorem dX10_write_79 : decode cX10_write 79 = .ok (.aload_n 0, 1) := by decide +kernel
theorem dX10_write_80 : decode cX10_write 80 = .ok (.aload_n 1, 1) := by decide +kernel
theorem dX10_write_81 : decode cX10_write 81 = .ok (.getfield 47, 3) := by decide +kernel
theorem dX10_write_84 : decode cX10_write 84 = .ok (.invokevirtual 41, 3) := by decide +kernel
theorem dX10_write_87 : decode cX10_write 87 = .ok (.aload_n 0, 1) := by decide +kernel
theorem dX10_write_88 : decode cX10_write 88 = .ok (.invokevirtual 44, 3) := by decide +kernel
theorem dX10_write_91 : decode cX10_write 91 = .ok (.iconst 0, 1) := by decide +kernel
theorem dX10_write_92 : decode cX10_write 92 = .ok (.istore 4, 2) := by decide +kernel
theorem dX10_write_94 : decode cX10_write 94 = .ok (.iload 4, 2) := by decide +kernel
theorem dX10_write_96 : decode cX10_write 96 = .ok (.aload_n 1, 1) := by decide +kernel
theorem dX10_write_97 : decode cX10_write 97 = .ok (.getfield 50, 3) := by decide +kernel
theorem dX10_write_100 : decode cX10_write 100 = .ok (.getfield 54, 3) := by decide +kernel
theorem dX10_write_103 : decode cX10_write 103 = .ok (.if_icmp .ge 33, 3) := by decide +kernel
theorem dX10_write_106 : decode cX10_write 106 = .ok (.aload_n 1, 1) := by decide +kernel
theorem dX10_write_107 : decode cX10_write 107 = .ok (.getfield 50, 3) := by decide +kernel
theorem dX10_write_110 : decode cX10_write 110 = .ok (.getfield 59, 3) := by decide +kernel
theorem dX10_write_113 : decode cX10_write 113 = .ok (.iload 4, 2) := by decide +kernel
theorem dX10_write_115 : decode cX10_write 115 = .ok (.iaload, 1) := by decide +kernel
theorem dX10_write_116 : decode cX10_write 116 = .ok (.aload_n 2, 1) := by decide +kernel
theorem dX10_write_117 : decode cX10_write 117 = .ok (.getfield 63, 3) := by decide +kernel
theorem dX10_write_120 : decode cX10_write 120 = .ok (.if_icmp .le 10, 3) := by decide +kernel
theorem dX10_write_123 : decode cX10_write 123 = .ok (.aload_n 0, 1) := by decide +kernel
theorem dX10_write_124 : decode cX10_write 124 = .ok (.aload_n 1, 1) := by decide +kernel
theorem dX10_write_125 : decode cX10_write 125 = .ok (.iload 4, 2) := by decide +kernel
theorem dX10_write_127 : decode cX10_write 127 = .ok (.invokevirtual 67, 3) := by decide +kernel
theorem dX10_write_130 : decode cX10_write 130 = .ok (.iinc 4 1, 3) := by decide +kernel
theorem dX10_write_133 : decode cX10_write 133 = .ok (.goto (-39), 3) := by decide +kernel
theorem dX10_write_136 : decode cX10_write 136 = .ok (.return_, 1) := by decide +kernel
theorem dX10_writeNode_0 : decode cX10_writeNode 0 = .ok (.aload_n 0, 1) := by decide +kernel
theorem dX10_writeNode_1 : decode cX10_writeNode 1 = .ok (.bipush 7, 2) := by decide +kernel
theorem dX10_writeNode_3 : decode cX10_writeNode 3 = .ok (.invokevirtual 34, 3) := by decide +kernel
theorem dX10_writeNode_6 : decode cX10_writeNode 6 = .ok (.aload_n 0, 1) := by decide +kernel
theorem dX10_writeNode_7 : decode cX10_writeNode 7 = .ok (.aload_n 1, 1) := by decide +kernel
theorem dX10_writeNode_8 : decode cX10_writeNode 8 = .ok (.getfield 71, 3) := by decide +kernel
theorem dX10_writeNode_11 : decode cX10_writeNode 11 = .ok (.iload_n 3, 1) := by decide +kernel
theorem dX10_writeNode_12 : decode cX10_writeNode 12 = .ok (.laload, 1) := by decide +kernel
theorem dX10_writeNode_13 : decode cX10_writeNode 13 = .ok (.invokevirtual 75, 3) := by decide +kernel
theorem dX10_writeNode_16 : decode cX10_writeNode 16 = .ok (.aload_n 1, 1) := by decide +kernel
theorem dX10_writeNode_17 : decode cX10_writeNode 17 = .ok (.aload_n 1, 1) := by decide +kernel
theorem dX10_writeNode_18 : decode cX10_writeNode 18 = .ok (.getfield 79, 3) := by decide +kernel
theorem dX10_writeNode_21 : decode cX10_writeNode 21 = .ok (.iload_n 3, 1) := by decide +kernel
theorem dX10_writeNode_22 : decode cX10_writeNode 22 = .ok (.iaload, 1) := by decide +kernel
theorem dX10_writeNode_23 : decode cX10_writeNode 23 = .ok (.invokevirtual 82, 3) := by decide +kernel
theorem dX10_writeNode_26 : decode cX10_writeNode 26 = .ok (.ifCond .eq 24, 3) := by decide +kernel
theorem dX10_writeNode_29 : decode cX10_writeNode 29 = .ok (.aload_n 0, 1) := by decide +kernel
theorem dX10_writeNode_30 : decode cX10_writeNode 30 = .ok (.bipush 8, 2) := by decide +kernel
theorem dX10_writeNode_32 : decode cX10_writeNode 32 = .ok (.invokevirtual 34, 3) := by decide +kernel
theorem dX10_writeNode_35 : decode cX10_writeNode 35 = .ok (.aload_n 0, 1) := by decide +kernel
theorem dX10_writeNode_36 : decode cX10_writeNode 36 = .ok (.aload_n 1, 1) := by decide +kernel
theorem dX10_writeNode_37 : decode cX10_writeNode 37 = .ok (.getfield 71, 3) := by decide +kernel
theorem dX10_writeNode_40 : decode cX10_writeNode 40 = .ok (.aload_n 1, 1) := by decide +kernel
theorem dX10_writeNode_41 : decode cX10_writeNode 41 = .ok (.getfield 79, 3) := by decide +kernel
theorem dX10_writeNode_44 : decode cX10_writeNode 44 = .ok (.iload_n 3, 1) := by decide +kernel
theorem dX10_writeNode_45 : decode cX10_writeNode 45 = .ok (.iaload, 1) := by decide +kernel
theorem dX10_writeNode_46 : decode cX10_writeNode 46 = .ok (.laload, 1) := by decide +kernel
theorem dX10_writeNode_47 : decode cX10_writeNode 47 = .ok (.invokevirtual 75, 3) := by decide +kernel
theorem dX10_writeNode_50 : decode cX10_writeNode 50 = .ok (.iconst 0, 1) := by decide +kernel
theorem dX10_writeNode_51 : decode cX10_writeNode 51 = .ok (.istore 4, 2) := by decide +kernel
theorem dX10_writeNode_53 : decode cX10_writeNode 53 = .ok (.iload 4, 2) := by decide +kernel
theorem dX10_writeNode_55 : decode cX10_writeNode 55 = .ok (.bipush 6, 2) := by decide +kernel
theorem dX10_writeNode_57 : decode cX10_writeNode 57 = .ok (.if_icmp .ge 46, 3) := by decide +kernel
theorem dX10_writeNode_60 : decode cX10_writeNode 60 = .ok (.aload_n 0, 1) := by decide +kernel
theorem dX10_writeNode_61 : decode cX10_writeNode 61 = .ok (.iload 4, 2) := by decide +kernel
theorem dX10_writeNode_63 : decode cX10_writeNode 63 = .ok (.invokevirtual 34, 3) := by decide +kernel
theorem dX10_writeNode_66 : decode cX10_writeNode 66 = .ok (.aload_n 0, 1) := by decide +kernel
theorem dX10_writeNode_67 : decode cX10_writeNode 67 = .ok (.iload 4, 2) := by decide +kernel
theorem dX10_writeNode_69 : decode cX10_writeNode 69 = .ok (.invokestatic 86, 3) := by decide +kernel
theorem dX10_writeNode_72 : decode cX10_writeNode 72 = .ok (.ifCond .eq 14, 3) := by decide +kernel
theorem dX10_writeNode_75 : decode cX10_writeNode 75 = .ok (.aload_n 2, 1) := by decide +kernel
theorem dX10_writeNode_76 : decode cX10_writeNode 76 = .ok (.iload 4, 2) := by decide +kernel
theorem dX10_writeNode_78 : decode cX10_writeNode 78 = .ok (.invokevirtual 89, 3) := by decide +kernel
theorem dX10_writeNode_81 : decode cX10_writeNode 81 = .ok (.iload_n 3, 1) := by decide +kernel
theorem dX10_writeNode_82 : decode cX10_writeNode 82 = .ok (.iaload, 1) := by decide +kernel
theorem dX10_writeNode_83 : decode cX10_writeNode 83 = .ok (.goto 11, 3) := by decide +kernel
theorem dX10_writeNode_86 : decode cX10_writeNode 86 = .ok (.aload_n 1, 1) := by decide +kernel
theorem dX10_writeNode_87 : decode cX10_writeNode 87 = .ok (.iload 4, 2) := by decide +kernel
theorem dX10_writeNode_89 : decode cX10_writeNode 89 = .ok (.invokevirtual 93, 3) := by decide +kernel
theorem dX10_writeNode_92 : decode cX10_writeNode 92 = .ok (.iload_n 3, 1) := by decide +kernel
theorem dX10_writeNode_93 : decode cX10_writeNode 93 = .ok (.iaload, 1) := by decide +kernel
theorem dX10_writeNode_94 : decode cX10_writeNode 94 = .ok (.invokevirtual 41, 3) := by decide +kernel
theorem dX10_writeNode_97 : decode cX10_writeNode 97 = .ok (.iinc 4 1, 3) := by decide +kernel
theorem dX10_writeNode_100 : decode cX10_writeNode 100 = .ok (.goto (-47), 3) := by decide +kernel
theorem dX10_writeNode_103 : decode cX10_writeNode 103 = .ok (.aload_n 1, 1) := by decide +kernel
theorem dX10_writeNode_104 : decode cX10_writeNode 104 = .ok (.getfield 94, 3) := by decide +kernel
theorem dX10_writeNode_107 : decode cX10_writeNode 107 = .ok (.iload_n 3, 1) := by decide +kernel
theorem dX10_writeNode_108 : decode cX10_writeNode 108 = .ok (.baload, 1) := by decide +kernel
theorem dX10_writeNode_109 : decode cX10_writeNode 109 = .ok (.ifCond .eq 9, 3) := by decide +kernel
theorem dX10_writeNode_112 : decode cX10_writeNode 112 = .ok (.aload_n 0, 1) := by decide +kernel
theorem dX10_writeNode_113 : decode cX10_writeNode 113 = .ok (.bipush 6, 2) := by decide +kernel
theorem dX10_writeNode_115 : decode cX10_writeNode 115 = .ok (.invokevirtual 34, 3) := by decide +kernel
theorem dX10_writeNode_118 : decode cX10_writeNode 118 = .ok (.aload_n 0, 1) := by decide +kernel
theorem dX10_writeNode_119 : decode cX10_writeNode 119 = .ok (.invokevirtual 44, 3) := by decide +kernel
theorem dX10_writeNode_122 : decode cX10_writeNode 122 = .ok (.return_, 1) := by decide +kernel
theorem dX10_canChange_0 : decode cX10_canChange 0 = .ok (.iload_n 0, 1) := by decide +kernel
theorem dX10_canChange_1 : decode cX10_canChange 1 = .ok (.ifCond .eq 13, 3) := by decide +kernel
theorem dX10_canChange_4 : decode cX10_canChange 4 = .ok (.iload_n 0, 1) := by decide +kernel
theorem dX10_canChange_5 : decode cX10_canChange 5 = .ok (.iconst 1, 1) := by decide +kernel
theorem dX10_canChange_6 : decode cX10_canChange 6 = .ok (.if_icmp .eq 8, 3) := by decide +kernel
theorem dX10_canChange_9 : decode cX10_canChange 9 = .ok (.iload_n 0, 1) := by decide +kernel
theorem dX10_canChange_10 : decode cX10_canChange 10 = .ok (.iconst 4, 1) := by decide +kernel
theorem dX10_canChange_11 : decode cX10_canChange 11 = .ok (.if_icmp .ne 7, 3) := by decide +kernel
theorem dX10_canChange_14 : decode cX10_canChange 14 = .ok (.iconst 1, 1) := by decide +kernel
theorem dX10_canChange_15 : decode cX10_canChange 15 = .ok (.goto 4, 3) := by decide +kernel
theorem dX10_canChange_18 : decode cX10_canChange 18 = .ok (.iconst 0, 1) := by decide +kernel
theorem dX10_canChange_19 : decode cX10_canChange 19 = .ok (.ireturn, 1) := by decide +kernel
theorem dX10_writeChange_0 : decode cX10_writeChange 0 = .ok (.aload_n 0, 1) := by decide +kernel
theorem dX10_writeChange_1 : decode cX10_writeChange 1 = .ok (.bipush 11, 2) := by decide +kernel
theorem dX10_writeChange_3 : decode cX10_writeChange 3 = .ok (.invokevirtual 34, 3) := by decide +kernel
theorem dX10_writeChange_6 : decode cX10_writeChange 6 = .ok (.aload_n 0, 1) := by decide +kernel
theorem dX10_writeChange_7 : decode cX10_writeChange 7 = .ok (.aload_n 1, 1) := by decide +kernel
theorem dX10_writeChange_8 : decode cX10_writeChange 8 = .ok (.getfield 50, 3) := by decide +kernel
theorem dX10_writeChange_11 : decode cX10_writeChange 11 = .ok (.getfield 59, 3) := by decide +kernel
theorem dX10_writeChange_14 : decode cX10_writeChange 14 = .ok (.iload_n 2, 1) := by decide +kernel
theorem dX10_writeChange_15 : decode cX10_writeChange 15 = .ok (.iaload, 1) := by decide +kernel
theorem dX10_writeChange_16 : decode cX10_writeChange 16 = .ok (.invokevirtual 41, 3) := by decide +kernel
theorem dX10_writeChange_19 : decode cX10_writeChange 19 = .ok (.aload_n 1, 1) := by decide +kernel
theorem dX10_writeChange_20 : decode cX10_writeChange 20 = .ok (.aload_n 1, 1) := by decide +kernel
theorem dX10_writeChange_21 : decode cX10_writeChange 21 = .ok (.getfield 50, 3) := by decide +kernel
theorem dX10_writeChange_24 : decode cX10_writeChange 24 = .ok (.getfield 98, 3) := by decide +kernel
theorem dX10_writeChange_27 : decode cX10_writeChange 27 = .ok (.iload_n 2, 1) := by decide +kernel
theorem dX10_writeChange_28 : decode cX10_writeChange 28 = .ok (.iaload, 1) := by decide +kernel
theorem dX10_writeChange_29 : decode cX10_writeChange 29 = .ok (.invokevirtual 82, 3) := by decide +kernel
theorem dX10_writeChange_32 : decode cX10_writeChange 32 = .ok (.ifCond .eq 21, 3) := by decide +kernel
theorem dX10_writeChange_35 : decode cX10_writeChange 35 = .ok (.aload_n 0, 1) := by decide +kernel
theorem dX10_writeChange_36 : decode cX10_writeChange 36 = .ok (.aload_n 1, 1) := by decide +kernel
theorem dX10_writeChange_37 : decode cX10_writeChange 37 = .ok (.getfield 71, 3) := by decide +kernel
theorem dX10_writeChange_40 : decode cX10_writeChange 40 = .ok (.aload_n 1, 1) := by decide +kernel
theorem dX10_writeChange_41 : decode cX10_writeChange 41 = .ok (.getfield 50, 3) := by decide +kernel
theorem dX10_writeChange_44 : decode cX10_writeChange 44 = .ok (.getfield 98, 3) := by decide +kernel
theorem dX10_writeChange_47 : decode cX10_writeChange 47 = .ok (.iload_n 2, 1) := by decide +kernel
theorem dX10_writeChange_48 : decode cX10_writeChange 48 = .ok (.iaload, 1) := by decide +kernel
theorem dX10_writeChange_49 : decode cX10_writeChange 49 = .ok (.laload, 1) := by decide +kernel
theorem dX10_writeChange_50 : decode cX10_writeChange 50 = .ok (.invokevirtual 75, 3) := by decide +kernel
theorem dX10_writeChange_53 : decode cX10_writeChange 53 = .ok (.aload_n 0, 1) := by decide +kernel
theorem dX10_writeChange_54 : decode cX10_writeChange 54 = .ok (.aload_n 1, 1) := by decide +kernel
theorem dX10_writeChange_55 : decode cX10_writeChange 55 = .ok (.getfield 50, 3) := by decide +kernel
theorem dX10_writeChange_58 : decode cX10_writeChange 58 = .ok (.getfield 101, 3) := by decide +kernel
theorem dX10_writeChange_61 : decode cX10_writeChange 61 = .ok (.iload_n 2, 1) := by decide +kernel
theorem dX10_writeChange_62 : decode cX10_writeChange 62 = .ok (.iaload, 1) := by decide +kernel
theorem dX10_writeChange_63 : decode cX10_writeChange 63 = .ok (.invokevirtual 34, 3) := by decide +kernel
theorem dX10_writeChange_66 : decode cX10_writeChange 66 = .ok (.aload_n 0, 1) := by decide +kernel
theorem dX10_writeChange_67 : decode cX10_writeChange 67 = .ok (.aload_n 1, 1) := by decide +kernel
theorem dX10_writeChange_68 : decode cX10_writeChange 68 = .ok (.getfield 50, 3) := by decide +kernel
theorem dX10_writeChange_71 : decode cX10_writeChange 71 = .ok (.getfield 104, 3) := by decide +kernel
theorem dX10_writeChange_74 : decode cX10_writeChange 74 = .ok (.iload_n 2, 1) := by decide +kernel
theorem dX10_writeChange_75 : decode cX10_writeChange 75 = .ok (.iaload, 1) := by decide +kernel
theorem dX10_writeChange_76 : decode cX10_writeChange 76 = .ok (.invokevirtual 41, 3) := by decide +kernel
theorem dX10_writeChange_79 : decode cX10_writeChange 79 = .ok (.aload_n 0, 1) := by decide +kernel
theorem dX10_writeChange_80 : decode cX10_writeChange 80 = .ok (.invokevirtual 44, 3) := by decide +kernel
theorem dX10_writeChange_83 : decode cX10_writeChange 83 = .ok (.return_, 1) := by decide +kernel
theorem dX10_putKeyword_0 : decode cX10_putKeyword 0 = .ok (.aload_n 0, 1) := by decide +kernel
theorem dX10_putKeyword_1 : decode cX10_putKeyword 1 = .ok (.invokevirtual 107, 3) := by decide +kernel
theorem dX10_putKeyword_4 : decode cX10_putKeyword 4 = .ok (.iload_n 1, 1) := by decide +kernel
theorem dX10_putKeyword_5 : decode cX10_putKeyword 5 = .ok (.invokestatic 110, 3) := by decide +kernel
theorem dX10_putKeyword_8 : decode cX10_putKeyword 8 = .ok (.astore_n 2, 1) := by decide +kernel
theorem dX10_putKeyword_9 : decode cX10_putKeyword 9 = .ok (.iconst 0, 1) := by decide +kernel
theorem dX10_putKeyword_10 : decode cX10_putKeyword 10 = .ok (.istore_n 3, 1) := by decide +kernel
theorem dX10_putKeyword_11 : decode cX10_putKeyword 11 = .ok (.iload_n 3, 1) := by decide +kernel
theorem dX10_putKeyword_12 : decode cX10_putKeyword 12 = .ok (.aload_n 2, 1) := by decide +kernel
theorem dX10_putKeyword_13 : decode cX10_putKeyword 13 = .ok (.invokevirtual 114, 3) := by decide +kernel
theorem dX10_putKeyword_16 : decode cX10_putKeyword 16 = .ok (.if_icmp .ge 18, 3) := by decide +kernel
theorem dX10_putKeyword_19 : decode cX10_putKeyword 19 = .ok (.aload_n 0, 1) := by decide +kernel
theorem dX10_putKeyword_20 : decode cX10_putKeyword 20 = .ok (.aload_n 2, 1) := by decide +kernel
theorem dX10_putKeyword_21 : decode cX10_putKeyword 21 = .ok (.iload_n 3, 1) := by decide +kernel
theorem dX10_putKeyword_22 : decode cX10_putKeyword 22 = .ok (.invokevirtual 119, 3) := by decide +kernel
theorem dX10_putKeyword_25 : decode cX10_putKeyword 25 = .ok (.invokevirtual 123, 3) := by decide +kernel
theorem dX10_putKeyword_28 : decode cX10_putKeyword 28 = .ok (.iinc 3 1, 3) := by decide +kernel
theorem dX10_putKeyword_31 : decode cX10_putKeyword 31 = .ok (.goto (-20), 3) := by decide +kernel
theorem dX10_putKeyword_34 : decode cX10_putKeyword 34 = .ok (.return_, 1) := by decide +kernel
theorem dX10_putName_0 : decode cX10_putName 0 = .ok (.aload_n 0, 1) := by decide +kernel
theorem dX10_putName_1 : decode cX10_putName 1 = .ok (.invokevirtual 107, 3) := by decide +kernel
theorem dX10_putName_4 : decode cX10_putName 4 = .ok (.iconst 0, 1) := by decide +kernel
theorem dX10_putName_5 : decode cX10_putName 5 = .ok (.istore_n 3, 1) := by decide +kernel
theorem dX10_putName_6 : decode cX10_putName 6 = .ok (.iload_n 3, 1) := by decide +kernel
theorem dX10_putName_7 : decode cX10_putName 7 = .ok (.bipush 8, 2) := by decide +kernel
theorem dX10_putName_9 : decode cX10_putName 9 = .ok (.if_icmp .ge 31, 3) := by decide +kernel
theorem dX10_putName_12 : decode cX10_putName 12 = .ok (.lload_n 1, 1) := by decide +kernel
theorem dX10_putName_13 : decode cX10_putName 13 = .ok (.iload_n 3, 1) := by decide +kernel
theorem dX10_putName_14 : decode cX10_putName 14 = .ok (.invokestatic 126, 3) := by decide +kernel
theorem dX10_putName_17 : decode cX10_putName 17 = .ok (.ifCond .le 23, 3) := by decide +kernel
theorem dX10_putName_20 : decode cX10_putName 20 = .ok (.aload_n 0, 1) := by decide +kernel
theorem dX10_putName_21 : decode cX10_putName 21 = .ok (.bipush 97, 2) := by decide +kernel
theorem dX10_putName_23 : decode cX10_putName 23 = .ok (.lload_n 1, 1) := by decide +kernel
theorem dX10_putName_24 : decode cX10_putName 24 = .ok (.iload_n 3, 1) := by decide +kernel
theorem dX10_putName_25 : decode cX10_putName 25 = .ok (.invokestatic 126, 3) := by decide +kernel
theorem dX10_putName_28 : decode cX10_putName 28 = .ok (.iadd, 1) := by decide +kernel
theorem dX10_putName_29 : decode cX10_putName 29 = .ok (.iconst 1, 1) := by decide +kernel
theorem dX10_putName_30 : decode cX10_putName 30 = .ok (.isub, 1) := by decide +kernel
theorem dX10_putName_31 : decode cX10_putName 31 = .ok (.invokevirtual 123, 3) := by decide +kernel
theorem dX10_putName_34 : decode cX10_putName 34 = .ok (.iinc 3 1, 3) := by decide +kernel
theorem dX10_putName_37 : decode cX10_putName 37 = .ok (.goto (-31), 3) := by decide +kernel
theorem dX10_putName_40 : decode cX10_putName 40 = .ok (.return_, 1) := by decide +kernel
theorem dX10_putNumber_0 : decode cX10_putNumber 0 = .ok (.aload_n 0, 1) := by decide +kernel
theorem dX10_putNumber_1 : decode cX10_putNumber 1 = .ok (.invokevirtual 107, 3) := by decide +kernel
theorem dX10_putNumber_4 : decode cX10_putNumber 4 = .ok (.sipush 1000, 3) := by decide +kernel
theorem dX10_putNumber_7 : decode cX10_putNumber 7 = .ok (.istore_n 2, 1) := by decide +kernel
theorem dX10_putNumber_8 : decode cX10_putNumber 8 = .ok (.iload_n 2, 1) := by decide +kernel
theorem dX10_putNumber_9 : decode cX10_putNumber 9 = .ok (.ifCond .le 34, 3) := by decide +kernel
theorem dX10_putNumber_12 : decode cX10_putNumber 12 = .ok (.iload_n 1, 1) := by decide +kernel
theorem dX10_putNumber_13 : decode cX10_putNumber 13 = .ok (.iload_n 2, 1) := by decide +kernel
theorem dX10_putNumber_14 : decode cX10_putNumber 14 = .ok (.if_icmp .ge 8, 3) := by decide +kernel
theorem dX10_putNumber_17 : decode cX10_putNumber 17 = .ok (.iload_n 2, 1) := by decide +kernel
theorem dX10_putNumber_18 : decode cX10_putNumber 18 = .ok (.iconst 1, 1) := by decide +kernel
theorem dX10_putNumber_19 : decode cX10_putNumber 19 = .ok (.if_icmp .ne 16, 3) := by decide +kernel
theorem dX10_putNumber_22 : decode cX10_putNumber 22 = .ok (.aload_n 0, 1) := by decide +kernel
theorem dX10_putNumber_23 : decode cX10_putNumber 23 = .ok (.bipush 48, 2) := by decide +kernel
theorem dX10_putNumber_25 : decode cX10_putNumber 25 = .ok (.iload_n 1, 1) := by decide +kernel
theorem dX10_putNumber_26 : decode cX10_putNumber 26 = .ok (.iload_n 2, 1) := by decide +kernel
theorem dX10_putNumber_27 : decode cX10_putNumber 27 = .ok (.idiv, 1) := by decide +kernel
theorem dX10_putNumber_28 : decode cX10_putNumber 28 = .ok (.bipush 10, 2) := by decide +kernel
theorem dX10_putNumber_30 : decode cX10_putNumber 30 = .ok (.irem, 1) := by decide +kernel
theorem dX10_putNumber_31 : decode cX10_putNumber 31 = .ok (.iadd, 1) := by decide +kernel
theorem dX10_putNumber_32 : decode cX10_putNumber 32 = .ok (.invokevirtual 123, 3) := by decide +kernel
theorem dX10_putNumber_35 : decode cX10_putNumber 35 = .ok (.iload_n 2, 1) := by decide +kernel
theorem dX10_putNumber_36 : decode cX10_putNumber 36 = .ok (.bipush 10, 2) := by decide +kernel
theorem dX10_putNumber_38 : decode cX10_putNumber 38 = .ok (.idiv, 1) := by decide +kernel
theorem dX10_putNumber_39 : decode cX10_putNumber 39 = .ok (.istore_n 2, 1) := by decide +kernel
theorem dX10_putNumber_40 : decode cX10_putNumber 40 = .ok (.goto (-32), 3) := by decide +kernel
theorem dX10_putNumber_43 : decode cX10_putNumber 43 = .ok (.return_, 1) := by decide +kernel
theorem dX10_putSemicolon_0 : decode cX10_putSemicolon 0 = .ok (.aload_n 0, 1) := by decide +kernel
theorem dX10_putSemicolon_1 : decode cX10_putSemicolon 1 = .ok (.bipush 59, 2) := by decide +kernel
theorem dX10_putSemicolon_3 : decode cX10_putSemicolon 3 = .ok (.invokevirtual 123, 3) := by decide +kernel
theorem dX10_putSemicolon_6 : decode cX10_putSemicolon 6 = .ok (.aload_n 0, 1) := by decide +kernel
theorem dX10_putSemicolon_7 : decode cX10_putSemicolon 7 = .ok (.iconst 0, 1) := by decide +kernel
theorem dX10_putSemicolon_8 : decode cX10_putSemicolon 8 = .ok (.putfield 21, 3) := by decide +kernel
theorem dX10_putSemicolon_11 : decode cX10_putSemicolon 11 = .ok (.return_, 1) := by decide +kernel
theorem dX10_putSpace_0 : decode cX10_putSpace 0 = .ok (.aload_n 0, 1) := by decide +kernel
theorem dX10_putSpace_1 : decode cX10_putSpace 1 = .ok (.getfield 21, 3) := by decide +kernel
theorem dX10_putSpace_4 : decode cX10_putSpace 4 = .ok (.ifCond .eq 9, 3) := by decide +kernel
theorem dX10_putSpace_7 : decode cX10_putSpace 7 = .ok (.aload_n 0, 1) := by decide +kernel
theorem dX10_putSpace_8 : decode cX10_putSpace 8 = .ok (.bipush 32, 2) := by decide +kernel
theorem dX10_putSpace_10 : decode cX10_putSpace 10 = .ok (.invokevirtual 123, 3) := by decide +kernel
theorem dX10_putSpace_13 : decode cX10_putSpace 13 = .ok (.aload_n 0, 1) := by decide +kernel
theorem dX10_putSpace_14 : decode cX10_putSpace 14 = .ok (.iconst 1, 1) := by decide +kernel
theorem dX10_putSpace_15 : decode cX10_putSpace 15 = .ok (.putfield 21, 3) := by decide +kernel
theorem dX10_putSpace_18 : decode cX10_putSpace 18 = .ok (.return_, 1) := by decide +kernel
theorem dX10_put_0 : decode cX10_put 0 = .ok (.aload_n 0, 1) := by decide +kernel
theorem dX10_put_1 : decode cX10_put 1 = .ok (.getfield 18, 3) := by decide +kernel
theorem dX10_put_4 : decode cX10_put 4 = .ok (.aload_n 0, 1) := by decide +kernel
theorem dX10_put_5 : decode cX10_put 5 = .ok (.getfield 9, 3) := by decide +kernel
theorem dX10_put_8 : decode cX10_put 8 = .ok (.if_icmp .ne 8, 3) := by decide +kernel
theorem dX10_put_11 : decode cX10_put 11 = .ok (.aload_n 0, 1) := by decide +kernel
theorem dX10_put_12 : decode cX10_put 12 = .ok (.iload_n 1, 1) := by decide +kernel
theorem dX10_put_13 : decode cX10_put 13 = .ok (.putfield 15, 3) := by decide +kernel
theorem dX10_put_16 : decode cX10_put 16 = .ok (.aload_n 0, 1) := by decide +kernel
theorem dX10_put_17 : decode cX10_put 17 = .ok (.dup, 1) := by decide +kernel
theorem dX10_put_18 : decode cX10_put 18 = .ok (.getfield 18, 3) := by decide +kernel
theorem dX10_put_21 : decode cX10_put 21 = .ok (.iconst 1, 1) := by decide +kernel
theorem dX10_put_22 : decode cX10_put 22 = .ok (.iadd, 1) := by decide +kernel
theorem dX10_put_23 : decode cX10_put 23 = .ok (.putfield 18, 3) := by decide +kernel
theorem dX10_put_26 : decode cX10_put 26 = .ok (.return_, 1) := by decide +kernel
theorem dX11_init_0 : decode cX11_init 0 = .ok (.aload_n 0, 1) := by decide +kernel
theorem dX11_init_1 : decode cX11_init 1 = .ok (.invokespecial 1, 3) := by decide +kernel
theorem dX11_init_4 : decode cX11_init 4 = .ok (.aload_n 0, 1) := by decide +kernel
theorem dX11_init_5 : decode cX11_init 5 = .ok (.new 7, 3) := by decide +kernel
theorem dX11_init_8 : decode cX11_init 8 = .ok (.dup, 1) := by decide +kernel
theorem dX11_init_9 : decode cX11_init 9 = .ok (.invokespecial 9, 3) := by decide +kernel
theorem dX11_init_12 : decode cX11_init 12 = .ok (.putfield 10, 3) := by decide +kernel
theorem dX11_init_15 : decode cX11_init 15 = .ok (.aload_n 0, 1) := by decide +kernel
theorem dX11_init_16 : decode cX11_init 16 = .ok (.new 16, 3) := by decide +kernel
theorem dX11_init_19 : decode cX11_init 19 = .ok (.dup, 1) := by decide +kernel
theorem dX11_init_20 : decode cX11_init 20 = .ok (.invokespecial 18, 3) := by decide +kernel
theorem dX11_init_23 : decode cX11_init 23 = .ok (.putfield 19, 3) := by decide +kernel
theorem dX11_init_26 : decode cX11_init 26 = .ok (.aload_n 0, 1) := by decide +kernel
theorem dX11_init_27 : decode cX11_init 27 = .ok (.new 23, 3) := by decide +kernel
theorem dX11_init_30 : decode cX11_init 30 = .ok (.dup, 1) := by decide +kernel
theorem dX11_init_31 : decode cX11_init 31 = .ok (.invokespecial 25, 3) := by decide +kernel
theorem dX11_init_34 : decode cX11_init 34 = .ok (.putfield 26, 3) := by decide +kernel
theorem dX11_init_37 : decode cX11_init 37 = .ok (.aload_n 0, 1) := by decide +kernel
theorem dX11_init_38 : decode cX11_init 38 = .ok (.new 30, 3) := by decide +kernel
theorem dX11_init_41 : decode cX11_init 41 = .ok (.dup, 1) := by decide +kernel
theorem dX11_init_42 : decode cX11_init 42 = .ok (.invokespecial 32, 3) := by decide +kernel
theorem dX11_init_45 : decode cX11_init 45 = .ok (.putfield 33, 3) := by decide +kernel
theorem dX11_init_48 : decode cX11_init 48 = .ok (.aload_n 0, 1) := by decide +kernel
theorem dX11_init_49 : decode cX11_init 49 = .ok (.new 37, 3) := by decide +kernel
theorem dX11_init_52 : decode cX11_init 52 = .ok (.dup, 1) := by decide +kernel
theorem dX11_init_53 : decode cX11_init 53 = .ok (.invokespecial 39, 3) := by decide +kernel
theorem dX11_init_56 : decode cX11_init 56 = .ok (.putfield 40, 3) := by decide +kernel
theorem dX11_init_59 : decode cX11_init 59 = .ok (.aload_n 0, 1) := by decide +kernel
theorem dX11_init_60 : decode cX11_init 60 = .ok (.new 37, 3) := by decide +kernel
theorem dX11_init_63 : decode cX11_init 63 = .ok (.dup, 1) := by decide +kernel
theorem dX11_init_64 : decode cX11_init 64 = .ok (.invokespecial 39, 3) := by decide +kernel
theorem dX11_init_67 : decode cX11_init 67 = .ok (.putfield 44, 3) := by decide +kernel
theorem dX11_init_70 : decode cX11_init 70 = .ok (.aload_n 0, 1) := by decide +kernel
theorem dX11_init_71 : decode cX11_init 71 = .ok (.new 37, 3) := by decide +kernel
theorem dX11_init_74 : decode cX11_init 74 = .ok (.dup, 1) := by decide +kernel
theorem dX11_init_75 : decode cX11_init 75 = .ok (.invokespecial 39, 3) := by decide +kernel
theorem dX11_init_78 : decode cX11_init 78 = .ok (.putfield 47, 3) := by decide +kernel
theorem dX11_init_81 : decode cX11_init 81 = .ok (.aload_n 0, 1) := by decide +kernel
theorem dX11_init_82 : decode cX11_init 82 = .ok (.new 37, 3) := by decide +kernel
theorem dX11_init_85 : decode cX11_init 85 = .ok (.dup, 1) := by decide +kernel
theorem dX11_init_86 : decode cX11_init 86 = .ok (.invokespecial 39, 3) := by decide +kernel
theorem dX11_init_89 : decode cX11_init 89 = .ok (.putfield 50, 3) := by decide +kernel
theorem dX11_init_92 : decode cX11_init 92 = .ok (.return_, 1) := by decide +kernel
theorem dX11_feed_0 : decode cX11_feed 0 = .ok (.aload_n 0, 1) := by decide +kernel
theorem dX11_feed_1 : decode cX11_feed 1 = .ok (.getfield 10, 3) := by decide +kernel
theorem dX11_feed_4 : decode cX11_feed 4 = .ok (.getfield 53, 3) := by decide +kernel
theorem dX11_feed_7 : decode cX11_feed 7 = .ok (.bipush 20, 2) := by decide +kernel
theorem dX11_feed_9 : decode cX11_feed 9 = .ok (.iadd, 1) := by decide +kernel
theorem dX11_feed_10 : decode cX11_feed 10 = .ok (.sipush 900, 3) := by decide +kernel
theorem dX11_feed_13 : decode cX11_feed 13 = .ok (.if_icmp .le 5, 3) := by decide +kernel
theorem dX11_feed_16 : decode cX11_feed 16 = .ok (.iconst (-1), 1) := by decide +kernel
theorem dX11_feed_17 : decode cX11_feed 17 = .ok (.ireturn, 1) := by decide +kernel
theorem dX11_feed_18 : decode cX11_feed 18 = .ok (.aload_n 0, 1) := by decide +kernel
theorem dX11_feed_19 : decode cX11_feed 19 = .ok (.getfield 10, 3) := by decide +kernel
theorem dX11_feed_22 : decode cX11_feed 22 = .ok (.iload_n 1, 1) := by decide +kernel
theorem dX11_feed_23 : decode cX11_feed 23 = .ok (.invokevirtual 57, 3) := by decide +kernel
theorem dX11_feed_26 : decode cX11_feed 26 = .ok (.aload_n 0, 1) := by decide +kernel
theorem dX11_feed_27 : decode cX11_feed 27 = .ok (.getfield 10, 3) := by decide +kernel
theorem dX11_feed_30 : decode cX11_feed 30 = .ok (.iload_n 2, 1) := by decide +kernel
theorem dX11_feed_31 : decode cX11_feed 31 = .ok (.invokevirtual 57, 3) := by decide +kernel
theorem dX11_feed_34 : decode cX11_feed 34 = .ok (.aload_n 0, 1) := by decide +kernel
theorem dX11_feed_35 : decode cX11_feed 35 = .ok (.getfield 10, 3) := by decide +kernel
theorem dX11_feed_38 : decode cX11_feed 38 = .ok (.iload_n 3, 1) := by decide +kernel
theorem dX11_feed_39 : decode cX11_feed 39 = .ok (.invokevirtual 57, 3) := by decide +kernel
theorem dX11_feed_42 : decode cX11_feed 42 = .ok (.aload_n 0, 1) := by decide +kernel
theorem dX11_feed_43 : decode cX11_feed 43 = .ok (.getfield 10, 3) := by decide +kernel
theorem dX11_feed_46 : decode cX11_feed 46 = .ok (.iload 4, 2) := by decide +kernel
theorem dX11_feed_48 : decode cX11_feed 48 = .ok (.invokevirtual 57, 3) := by decide +kernel
theorem dX11_feed_51 : decode cX11_feed 51 = .ok (.aload_n 0, 1) := by decide +kernel
theorem dX11_feed_52 : decode cX11_feed 52 = .ok (.getfield 10, 3) := by decide +kernel
theorem dX11_feed_55 : decode cX11_feed 55 = .ok (.iload 5, 2) := by decide +kernel
theorem dX11_feed_57 : decode cX11_feed 57 = .ok (.invokevirtual 57, 3) := by decide +kernel
theorem dX11_feed_60 : decode cX11_feed 60 = .ok (.aload_n 0, 1) := by decide +kernel
theorem dX11_feed_61 : decode cX11_feed 61 = .ok (.getfield 10, 3) := by decide +kernel
theorem dX11_feed_64 : decode cX11_feed 64 = .ok (.getfield 53, 3) := by decide +kernel
theorem dX11_feed_67 : decode cX11_feed 67 = .ok (.ireturn, 1) := by decide +kernel
theorem dX11_truncate_0 : decode cX11_truncate 0 = .ok (.iload_n 1, 1) := by decide +kernel
theorem dX11_truncate_1 : decode cX11_truncate 1 = .ok (.ifCond .lt 14, 3) := by decide +kernel
theorem dX11_truncate_4 : decode cX11_truncate 4 = .ok (.iload_n 1, 1) := by decide +kernel
theorem dX11_truncate_5 : decode cX11_truncate 5 = .ok (.aload_n 0, 1) := by decide +kernel
theorem dX11_truncate_6 : decode cX11_truncate 6 = .ok (.getfield 10, 3) := by decide +kernel
theorem dX11_truncate_9 : decode cX11_truncate 9 = .ok (.getfield 53, 3) := by decide +kernel
theorem dX11_truncate_12 : decode cX11_truncate 12 = .ok (.if_icmp .le 5, 3) := by decide +kernel
theorem dX11_truncate_15 : decode cX11_truncate 15 = .ok (.iconst (-1), 1) := by decide +kernel
theorem dX11_truncate_16 : decode cX11_truncate 16 = .ok (.ireturn, 1) := by decide +kernel
theorem dX11_truncate_17 : decode cX11_truncate 17 = .ok (.aload_n 0, 1) := by decide +kernel
theorem dX11_truncate_18 : decode cX11_truncate 18 = .ok (.getfield 10, 3) := by decide +kernel
theorem dX11_truncate_21 : decode cX11_truncate 21 = .ok (.iload_n 1, 1) := by decide +kernel
theorem dX11_truncate_22 : decode cX11_truncate 22 = .ok (.putfield 53, 3) := by decide +kernel
theorem dX11_truncate_25 : decode cX11_truncate 25 = .ok (.iload_n 1, 1) := by decide +kernel
theorem dX11_truncate_26 : decode cX11_truncate 26 = .ok (.ireturn, 1) := by decide +kernel
theorem dX11_load_0 : decode cX11_load 0 = .ok (.aload_n 0, 1) := by decide +kernel
theorem dX11_load_1 : decode cX11_load 1 = .ok (.getfield 19, 3) := by decide +kernel
theorem dX11_load_4 : decode cX11_load 4 = .ok (.aload_n 0, 1) := by decide +kernel
theorem dX11_load_5 : decode cX11_load 5 = .ok (.getfield 10, 3) := by decide +kernel
theorem dX11_load_8 : decode cX11_load 8 = .ok (.invokevirtual 61, 3) := by decide +kernel
theorem dX11_load_11 : decode cX11_load 11 = .ok (.aload_n 0, 1) := by decide +kernel
theorem dX11_load_12 : decode cX11_load 12 = .ok (.getfield 10, 3) := by decide +kernel
theorem dX11_load_15 : decode cX11_load 15 = .ok (.iconst 0, 1) := by decide +kernel
theorem dX11_load_16 : decode cX11_load 16 = .ok (.putfield 53, 3) := by decide +kernel
theorem dX11_load_19 : decode cX11_load 19 = .ok (.aload_n 0, 1) := by decide +kernel
theorem dX11_load_20 : decode cX11_load 20 = .ok (.getfield 19, 3) := by decide +kernel
theorem dX11_load_23 : decode cX11_load 23 = .ok (.getfield 65, 3) := by decide +kernel
theorem dX11_load_26 : decode cX11_load 26 = .ok (.ifCond .eq 5, 3) := by decide +kernel
theorem dX11_load_29 : decode cX11_load 29 = .ok (.iconst (-1), 1) := by decide +kernel
theorem dX11_load_30 : decode cX11_load 30 = .ok (.ireturn, 1) := by decide +kernel
theorem dX11_load_31 : decode cX11_load 31 = .ok (.aload_n 0, 1) := by decide +kernel
theorem dX11_load_32 : decode cX11_load 32 = .ok (.getfield 33, 3) := by decide +kernel
theorem dX11_load_35 : decode cX11_load 35 = .ok (.astore_n 1, 1) := by decide +kernel
theorem dX11_load_36 : decode cX11_load 36 = .ok (.aload_n 0, 1) := by decide +kernel
theorem dX11_load_37 : decode cX11_load 37 = .ok (.aload_n 0, 1) := by decide +kernel
theorem dX11_load_38 : decode cX11_load 38 = .ok (.getfield 19, 3) := by decide +kernel
theorem dX11_load_41 : decode cX11_load 41 = .ok (.getfield 68, 3) := by decide +kernel
theorem dX11_load_44 : decode cX11_load 44 = .ok (.putfield 33, 3) := by decide +kernel
theorem dX11_load_47 : decode cX11_load 47 = .ok (.aload_n 0, 1) := by decide +kernel
theorem dX11_load_48 : decode cX11_load 48 = .ok (.getfield 19, 3) := by decide +kernel
theorem dX11_load_51 : decode cX11_load 51 = .ok (.aload_n 1, 1) := by decide +kernel
theorem dX11_load_52 : decode cX11_load 52 = .ok (.putfield 68, 3) := by decide +kernel
theorem dX11_load_55 : decode cX11_load 55 = .ok (.aload_n 0, 1) := by decide +kernel
theorem dX11_load_56 : decode cX11_load 56 = .ok (.getfield 40, 3) := by decide +kernel
theorem dX11_load_59 : decode cX11_load 59 = .ok (.aload_n 0, 1) := by decide +kernel
theorem dX11_load_60 : decode cX11_load 60 = .ok (.getfield 33, 3) := by decide +kernel
theorem dX11_load_63 : decode cX11_load 63 = .ok (.invokevirtual 71, 3) := by decide +kernel
theorem dX11_load_66 : decode cX11_load 66 = .ok (.aload_n 0, 1) := by decide +kernel
theorem dX11_load_67 : decode cX11_load 67 = .ok (.getfield 47, 3) := by decide +kernel
theorem dX11_load_70 : decode cX11_load 70 = .ok (.iconst 0, 1) := by decide +kernel
theorem dX11_load_71 : decode cX11_load 71 = .ok (.putfield 75, 3) := by decide +kernel
theorem dX11_load_74 : decode cX11_load 74 = .ok (.aload_n 0, 1) := by decide +kernel
theorem dX11_load_75 : decode cX11_load 75 = .ok (.getfield 50, 3) := by decide +kernel
theorem dX11_load_78 : decode cX11_load 78 = .ok (.iconst 0, 1) := by decide +kernel
theorem dX11_load_79 : decode cX11_load 79 = .ok (.putfield 75, 3) := by decide +kernel
theorem dX11_load_82 : decode cX11_load 82 = .ok (.aload_n 0, 1) := by decide +kernel
theorem dX11_load_83 : decode cX11_load 83 = .ok (.getfield 33, 3) := by decide +kernel
theorem dX11_load_86 : decode cX11_load 86 = .ok (.getfield 79, 3) := by decide +kernel
theorem dX11_load_89 : decode cX11_load 89 = .ok (.ireturn, 1) := by decide +kernel
theorem dX11_faultCode_0 : decode cX11_faultCode 0 = .ok (.aload_n 0, 1) := by decide +kernel
theorem dX11_faultCode_1 : decode cX11_faultCode 1 = .ok (.getfield 19, 3) := by decide +kernel
theorem dX11_faultCode_4 : decode cX11_faultCode 4 = .ok (.getfield 65, 3) := by decide +kernel
theorem dX11_faultCode_7 : decode cX11_faultCode 7 = .ok (.ireturn, 1) := by decide +kernel
theorem dX11_faultPosition_0 : decode cX11_faultPosition 0 = .ok (.aload_n 0, 1) := by decide +kernel
theorem dX11_faultPosition_1 : decode cX11_faultPosition 1 = .ok (.getfield 19, 3) := by decide +kernel
theorem dX11_faultPosition_4 : decode cX11_faultPosition 4 = .ok (.getfield 82, 3) := by decide +kernel
theorem dX11_faultPosition_7 : decode cX11_faultPosition 7 = .ok (.ireturn, 1) := by decide +kernel
theorem dX11_nodeCount_0 : decode cX11_nodeCount 0 = .ok (.aload_n 0, 1) := by decide +kernel
theorem dX11_nodeCount_1 : decode cX11_nodeCount 1 = .ok (.getfield 33, 3) := by decide +kernel
theorem dX11_nodeCount_4 : decode cX11_nodeCount 4 = .ok (.getfield 79, 3) := by decide +kernel
theorem dX11_nodeCount_7 : decode cX11_nodeCount 7 = .ok (.ireturn, 1) := by decide +kernel
theorem dX11_nameLetter_0 : decode cX11_nameLetter 0 = .ok (.aload_n 0, 1) := by decide +kernel
theorem dX11_nameLetter_1 : decode cX11_nameLetter 1 = .ok (.getfield 33, 3) := by decide +kernel
theorem dX11_nameLetter_4 : decode cX11_nameLetter 4 = .ok (.iload_n 1, 1) := by decide +kernel
theorem dX11_nameLetter_5 : decode cX11_nameLetter 5 = .ok (.invokevirtual 85, 3) := by decide +kernel
theorem dX11_nameLetter_8 : decode cX11_nameLetter 8 = .ok (.ifCond .eq 23, 3) := by decide +kernel
theorem dX11_nameLetter_11 : decode cX11_nameLetter 11 = .ok (.iload_n 2, 1) := by decide +kernel
theorem dX11_nameLetter_12 : decode cX11_nameLetter 12 = .ok (.ifCond .lt 19, 3) := by decide +kernel
theorem dX11_nameLetter_15 : decode cX11_nameLetter 15 = .ok (.aload_n 0, 1) := by decide +kernel
theorem dX11_nameLetter_16 : decode cX11_nameLetter 16 = .ok (.getfield 33, 3) := by decide +kernel
theorem dX11_nameLetter_19 : decode cX11_nameLetter 19 = .ok (.getfield 89, 3) := by decide +kernel
theorem dX11_nameLetter_22 : decode cX11_nameLetter 22 = .ok (.iload_n 1, 1) := by decide +kernel
theorem dX11_nameLetter_23 : decode cX11_nameLetter 23 = .ok (.laload, 1) := by decide +kernel
theorem dX11_nameLetter_24 : decode cX11_nameLetter 24 = .ok (.iload_n 2, 1) := by decide +kernel
theorem dX11_nameLetter_25 : decode cX11_nameLetter 25 = .ok (.invokestatic 93, 3) := by decide +kernel
theorem dX11_nameLetter_28 : decode cX11_nameLetter 28 = .ok (.goto 4, 3) := by decide +kernel
theorem dX11_nameLetter_31 : decode cX11_nameLetter 31 = .ok (.iconst (-1), 1) := by decide +kernel
theorem dX11_nameLetter_32 : decode cX11_nameLetter 32 = .ok (.ireturn, 1) := by decide +kernel
theorem dX11_parent_0 : decode cX11_parent 0 = .ok (.aload_n 0, 1) := by decide +kernel
theorem dX11_parent_1 : decode cX11_parent 1 = .ok (.getfield 33, 3) := by decide +kernel
theorem dX11_parent_4 : decode cX11_parent 4 = .ok (.iload_n 1, 1) := by decide +kernel
theorem dX11_parent_5 : decode cX11_parent 5 = .ok (.invokevirtual 85, 3) := by decide +kernel
theorem dX11_parent_8 : decode cX11_parent 8 = .ok (.ifCond .eq 15, 3) := by decide +kernel
theorem dX11_parent_11 : decode cX11_parent 11 = .ok (.aload_n 0, 1) := by decide +kernel
theorem dX11_parent_12 : decode cX11_parent 12 = .ok (.getfield 33, 3) := by decide +kernel
theorem dX11_parent_15 : decode cX11_parent 15 = .ok (.getfield 97, 3) := by decide +kernel
theorem dX11_parent_18 : decode cX11_parent 18 = .ok (.iload_n 1, 1) := by decide +kernel
theorem dX11_parent_19 : decode cX11_parent 19 = .ok (.iaload, 1) := by decide +kernel
theorem dX11_parent_20 : decode cX11_parent 20 = .ok (.goto 4, 3) := by decide +kernel
theorem dX11_parent_23 : decode cX11_parent 23 = .ok (.iconst (-1), 1) := by decide +kernel
theorem dX11_parent_24 : decode cX11_parent 24 = .ok (.ireturn, 1) := by decide +kernel
theorem dX11_child_0 : decode cX11_child 0 = .ok (.aload_n 0, 1) := by decide +kernel
theorem dX11_child_1 : decode cX11_child 1 = .ok (.getfield 33, 3) := by decide +kernel
theorem dX11_child_4 : decode cX11_child 4 = .ok (.iload_n 1, 1) := by decide +kernel
theorem dX11_child_5 : decode cX11_child 5 = .ok (.invokevirtual 85, 3) := by decide +kernel
theorem dX11_child_8 : decode cX11_child 8 = .ok (.ifCond .eq 19, 3) := by decide +kernel
theorem dX11_child_11 : decode cX11_child 11 = .ok (.iload_n 2, 1) := by decide +kernel
theorem dX11_child_12 : decode cX11_child 12 = .ok (.ifCond .lt 15, 3) := by decide +kernel
theorem dX11_child_15 : decode cX11_child 15 = .ok (.aload_n 0, 1) := by decide +kernel
theorem dX11_child_16 : decode cX11_child 16 = .ok (.getfield 33, 3) := by decide +kernel
theorem dX11_child_19 : decode cX11_child 19 = .ok (.iload_n 1, 1) := by decide +kernel
theorem dX11_child_20 : decode cX11_child 20 = .ok (.iload_n 2, 1) := by decide +kernel
theorem dX11_child_21 : decode cX11_child 21 = .ok (.invokevirtual 101, 3) := by decide +kernel
theorem dX11_child_24 : decode cX11_child 24 = .ok (.goto 4, 3) := by decide +kernel
theorem dX11_child_27 : decode cX11_child 27 = .ok (.iconst (-1), 1) := by decide +kernel
theorem dX11_child_28 : decode cX11_child 28 = .ok (.ireturn, 1) := by decide +kernel
theorem dX11_isLeaf_0 : decode cX11_isLeaf 0 = .ok (.aload_n 0, 1) := by decide +kernel
theorem dX11_isLeaf_1 : decode cX11_isLeaf 1 = .ok (.getfield 33, 3) := by decide +kernel
theorem dX11_isLeaf_4 : decode cX11_isLeaf 4 = .ok (.iload_n 1, 1) := by decide +kernel
theorem dX11_isLeaf_5 : decode cX11_isLeaf 5 = .ok (.invokevirtual 105, 3) := by decide +kernel
theorem dX11_isLeaf_8 : decode cX11_isLeaf 8 = .ok (.ireturn, 1) := by decide +kernel
theorem dX11_depth_0 : decode cX11_depth 0 = .ok (.aload_n 0, 1) := by decide +kernel
theorem dX11_depth_1 : decode cX11_depth 1 = .ok (.getfield 33, 3) := by decide +kernel
theorem dX11_depth_4 : decode cX11_depth 4 = .ok (.iload_n 1, 1) := by decide +kernel
theorem dX11_depth_5 : decode cX11_depth 5 = .ok (.invokevirtual 85, 3) := by decide +kernel
theorem dX11_depth_8 : decode cX11_depth 8 = .ok (.ifCond .eq 15, 3) := by decide +kernel
theorem dX11_depth_11 : decode cX11_depth 11 = .ok (.aload_n 0, 1) := by decide +kernel
theorem dX11_depth_12 : decode cX11_depth 12 = .ok (.getfield 33, 3) := by decide +kernel
theorem dX11_depth_15 : decode cX11_depth 15 = .ok (.getfield 108, 3) := by decide +kernel
theorem dX11_depth_18 : decode cX11_depth 18 = .ok (.iload_n 1, 1) := by decide +kernel
theorem dX11_depth_19 : decode cX11_depth 19 = .ok (.iaload, 1) := by decide +kernel
theorem dX11_depth_20 : decode cX11_depth 20 = .ok (.goto 4, 3) := by decide +kernel
theorem dX11_depth_23 : decode cX11_depth 23 = .ok (.iconst (-1), 1) := by decide +kernel
theorem dX11_depth_24 : decode cX11_depth 24 = .ok (.ireturn, 1) := by decide +kernel
theorem dX11_rate_0 : decode cX11_rate 0 = .ok (.aload_n 0, 1) := by decide +kernel
theorem dX11_rate_1 : decode cX11_rate 1 = .ok (.getfield 33, 3) := by decide +kernel
theorem dX11_rate_4 : decode cX11_rate 4 = .ok (.iload_n 1, 1) := by decide +kernel
theorem dX11_rate_5 : decode cX11_rate 5 = .ok (.invokevirtual 85, 3) := by decide +kernel
theorem dX11_rate_8 : decode cX11_rate 8 = .ok (.ifCond .eq 15, 3) := by decide +kernel
theorem dX11_rate_11 : decode cX11_rate 11 = .ok (.aload_n 0, 1) := by decide +kernel
theorem dX11_rate_12 : decode cX11_rate 12 = .ok (.getfield 40, 3) := by decide +kernel
theorem dX11_rate_15 : decode cX11_rate 15 = .ok (.getfield 111, 3) := by decide +kernel
theorem dX11_rate_18 : decode cX11_rate 18 = .ok (.iload_n 1, 1) := by decide +kernel
theorem dX11_rate_19 : decode cX11_rate 19 = .ok (.iaload, 1) := by decide +kernel
theorem dX11_rate_20 : decode cX11_rate 20 = .ok (.goto 4, 3) := by decide +kernel
theorem dX11_rate_23 : decode cX11_rate 23 = .ok (.iconst (-1), 1) := by decide +kernel
theorem dX11_rate_24 : decode cX11_rate 24 = .ok (.ireturn, 1) := by decide +kernel
theorem dX11_ceiling_0 : decode cX11_ceiling 0 = .ok (.aload_n 0, 1) := by decide +kernel
theorem dX11_ceiling_1 : decode cX11_ceiling 1 = .ok (.getfield 33, 3) := by decide +kernel
theorem dX11_ceiling_4 : decode cX11_ceiling 4 = .ok (.iload_n 1, 1) := by decide +kernel
theorem dX11_ceiling_5 : decode cX11_ceiling 5 = .ok (.invokevirtual 85, 3) := by decide +kernel
theorem dX11_ceiling_8 : decode cX11_ceiling 8 = .ok (.ifCond .eq 15, 3) := by decide +kernel
theorem dX11_ceiling_11 : decode cX11_ceiling 11 = .ok (.aload_n 0, 1) := by decide +kernel
theorem dX11_ceiling_12 : decode cX11_ceiling 12 = .ok (.getfield 40, 3) := by decide +kernel
theorem dX11_ceiling_15 : decode cX11_ceiling 15 = .ok (.getfield 114, 3) := by decide +kernel
theorem dX11_ceiling_18 : decode cX11_ceiling 18 = .ok (.iload_n 1, 1) := by decide +kernel
theorem dX11_ceiling_19 : decode cX11_ceiling 19 = .ok (.iaload, 1) := by decide +kernel
theorem dX11_ceiling_20 : decode cX11_ceiling 20 = .ok (.goto 4, 3) := by decide +kernel
theorem dX11_ceiling_23 : decode cX11_ceiling 23 = .ok (.iconst (-1), 1) := by decide +kernel
theorem dX11_ceiling_24 : decode cX11_ceiling 24 = .ok (.ireturn, 1) := by decide +kernel
theorem dX11_burst_0 : decode cX11_burst 0 = .ok (.aload_n 0, 1) := by decide +kernel
theorem dX11_burst_1 : decode cX11_burst 1 = .ok (.getfield 33, 3) := by decide +kernel
theorem dX11_burst_4 : decode cX11_burst 4 = .ok (.iload_n 1, 1) := by decide +kernel
theorem dX11_burst_5 : decode cX11_burst 5 = .ok (.invokevirtual 85, 3) := by decide +kernel
theorem dX11_burst_8 : decode cX11_burst 8 = .ok (.ifCond .eq 15, 3) := by decide +kernel
theorem dX11_burst_11 : decode cX11_burst 11 = .ok (.aload_n 0, 1) := by decide +kernel
theorem dX11_burst_12 : decode cX11_burst 12 = .ok (.getfield 33, 3) := by decide +kernel
theorem dX11_burst_15 : decode cX11_burst 15 = .ok (.getfield 117, 3) := by decide +kernel
theorem dX11_burst_18 : decode cX11_burst 18 = .ok (.iload_n 1, 1) := by decide +kernel
theorem dX11_burst_19 : decode cX11_burst 19 = .ok (.iaload, 1) := by decide +kernel
theorem dX11_burst_20 : decode cX11_burst 20 = .ok (.goto 4, 3) := by decide +kernel
theorem dX11_burst_23 : decode cX11_burst 23 = .ok (.iconst (-1), 1) := by decide +kernel
theorem dX11_burst_24 : decode cX11_burst 24 = .ok (.ireturn, 1) := by decide +kernel
theorem dX11_creditLimit_0 : decode cX11_creditLimit 0 = .ok (.aload_n 0, 1) := by decide +kernel
theorem dX11_creditLimit_1 : decode cX11_creditLimit 1 = .ok (.getfield 33, 3) := by decide +kernel
theorem dX11_creditLimit_4 : decode cX11_creditLimit 4 = .ok (.iload_n 1, 1) := by decide +kernel
theorem dX11_creditLimit_5 : decode cX11_creditLimit 5 = .ok (.invokevirtual 85, 3) := by decide +kernel
theorem dX11_creditLimit_8 : decode cX11_creditLimit 8 = .ok (.ifCond .eq 15, 3) := by decide +kernel
theorem dX11_creditLimit_11 : decode cX11_creditLimit 11 = .ok (.aload_n 0, 1) := by decide +kernel
theorem dX11_creditLimit_12 : decode cX11_creditLimit 12 = .ok (.getfield 33, 3) := by decide +kernel
theorem dX11_creditLimit_15 : decode cX11_creditLimit 15 = .ok (.getfield 120, 3) := by decide +kernel
theorem dX11_creditLimit_18 : decode cX11_creditLimit 18 = .ok (.iload_n 1, 1) := by decide +kernel
theorem dX11_creditLimit_19 : decode cX11_creditLimit 19 = .ok (.iaload, 1) := by decide +kernel
theorem dX11_creditLimit_20 : decode cX11_creditLimit 20 = .ok (.goto 4, 3) := by decide +kernel
theorem dX11_creditLimit_23 : decode cX11_creditLimit 23 = .ok (.iconst (-1), 1) := by decide +kernel
theorem dX11_creditLimit_24 : decode cX11_creditLimit 24 = .ok (.ireturn, 1) := by decide +kernel
theorem dX11_weight_0 : decode cX11_weight 0 = .ok (.aload_n 0, 1) := by decide +kernel
theorem dX11_weight_1 : decode cX11_weight 1 = .ok (.getfield 33, 3) := by decide +kernel
theorem dX11_weight_4 : decode cX11_weight 4 = .ok (.iload_n 1, 1) := by decide +kernel
theorem dX11_weight_5 : decode cX11_weight 5 = .ok (.invokevirtual 85, 3) := by decide +kernel
theorem dX11_weight_8 : decode cX11_weight 8 = .ok (.ifCond .eq 15, 3) := by decide +kernel
theorem dX11_weight_11 : decode cX11_weight 11 = .ok (.aload_n 0, 1) := by decide +kernel
theorem dX11_weight_12 : decode cX11_weight 12 = .ok (.getfield 40, 3) := by decide +kernel
theorem dX11_weight_15 : decode cX11_weight 15 = .ok (.getfield 123, 3) := by decide +kernel
theorem dX11_weight_18 : decode cX11_weight 18 = .ok (.iload_n 1, 1) := by decide +kernel
theorem dX11_weight_19 : decode cX11_weight 19 = .ok (.iaload, 1) := by decide +kernel
theorem dX11_weight_20 : decode cX11_weight 20 = .ok (.goto 4, 3) := by decide +kernel
theorem dX11_weight_23 : decode cX11_weight 23 = .ok (.iconst (-1), 1) := by decide +kernel
theorem dX11_weight_24 : decode cX11_weight 24 = .ok (.ireturn, 1) := by decide +kernel
theorem dX11_priority_0 : decode cX11_priority 0 = .ok (.aload_n 0, 1) := by decide +kernel
theorem dX11_priority_1 : decode cX11_priority 1 = .ok (.getfield 33, 3) := by decide +kernel
theorem dX11_priority_4 : decode cX11_priority 4 = .ok (.iload_n 1, 1) := by decide +kernel
theorem dX11_priority_5 : decode cX11_priority 5 = .ok (.invokevirtual 85, 3) := by decide +kernel
theorem dX11_priority_8 : decode cX11_priority 8 = .ok (.ifCond .eq 15, 3) := by decide +kernel
theorem dX11_priority_11 : decode cX11_priority 11 = .ok (.aload_n 0, 1) := by decide +kernel
theorem dX11_priority_12 : decode cX11_priority 12 = .ok (.getfield 33, 3) := by decide +kernel
theorem dX11_priority_15 : decode cX11_priority 15 = .ok (.getfield 126, 3) := by decide +kernel
theorem dX11_priority_18 : decode cX11_priority 18 = .ok (.iload_n 1, 1) := by decide +kernel
theorem dX11_priority_19 : decode cX11_priority 19 = .ok (.iaload, 1) := by decide +kernel
theorem dX11_priority_20 : decode cX11_priority 20 = .ok (.goto 4, 3) := by decide +kernel
theorem dX11_priority_23 : decode cX11_priority 23 = .ok (.iconst (-1), 1) := by decide +kernel
theorem dX11_priority_24 : decode cX11_priority 24 = .ok (.ireturn, 1) := by decide +kernel
theorem dX11_mayBorrow_0 : decode cX11_mayBorrow 0 = .ok (.aload_n 0, 1) := by decide +kernel
theorem dX11_mayBorrow_1 : decode cX11_mayBorrow 1 = .ok (.getfield 33, 3) := by decide +kernel
theorem dX11_mayBorrow_4 : decode cX11_mayBorrow 4 = .ok (.iload_n 1, 1) := by decide +kernel
theorem dX11_mayBorrow_5 : decode cX11_mayBorrow 5 = .ok (.invokevirtual 85, 3) := by decide +kernel
theorem dX11_mayBorrow_8 : decode cX11_mayBorrow 8 = .ok (.ifCond .eq 19, 3) := by decide +kernel
theorem dX11_mayBorrow_11 : decode cX11_mayBorrow 11 = .ok (.aload_n 0, 1) := by decide +kernel
theorem dX11_mayBorrow_12 : decode cX11_mayBorrow 12 = .ok (.getfield 33, 3) := by decide +kernel
theorem dX11_mayBorrow_15 : decode cX11_mayBorrow 15 = .ok (.getfield 129, 3) := by decide +kernel
theorem dX11_mayBorrow_18 : decode cX11_mayBorrow 18 = .ok (.iload_n 1, 1) := by decide +kernel
theorem dX11_mayBorrow_19 : decode cX11_mayBorrow 19 = .ok (.baload, 1) := by decide +kernel
theorem dX11_mayBorrow_20 : decode cX11_mayBorrow 20 = .ok (.ifCond .ne 7, 3) := by decide +kernel
theorem dX11_mayBorrow_23 : decode cX11_mayBorrow 23 = .ok (.iconst 1, 1) := by decide +kernel
theorem dX11_mayBorrow_24 : decode cX11_mayBorrow 24 = .ok (.goto 4, 3) := by decide +kernel
theorem dX11_mayBorrow_27 : decode cX11_mayBorrow 27 = .ok (.iconst 0, 1) := by decide +kernel
theorem dX11_mayBorrow_28 : decode cX11_mayBorrow 28 = .ok (.ireturn, 1) := by decide +kernel
theorem dX11_isOversubscribed_0 : decode cX11_isOversubscribed 0 = .ok (.aload_n 0, 1) := by decide +kernel
theorem dX11_isOversubscribed_1 : decode cX11_isOversubscribed 1 = .ok (.getfield 33, 3) := by decide +kernel
theorem dX11_isOversubscribed_4 : decode cX11_isOversubscribed 4 = .ok (.iload_n 1, 1) := by decide +kernel
theorem dX11_isOversubscribed_5 : decode cX11_isOversubscribed 5 = .ok (.invokevirtual 85, 3) := by decide +kernel
theorem dX11_isOversubscribed_8 : decode cX11_isOversubscribed 8 = .ok (.ifCond .eq 31, 3) := by decide +kernel
theorem dX11_isOversubscribed_11 : decode cX11_isOversubscribed 11 = .ok (.aload_n 0, 1) := by decide +kernel
theorem dX11_isOversubscribed_12 : decode cX11_isOversubscribed 12 = .ok (.getfield 40, 3) := by decide +kernel
theorem dX11_isOversubscribed_15 : decode cX11_isOversubscribed 15 = .ok (.aload_n 0, 1) := by decide +kernel
theorem dX11_isOversubscribed_16 : decode cX11_isOversubscribed 16 = .ok (.getfield 33, 3) := by decide +kernel
theorem dX11_isOversubscribed_19 : decode cX11_isOversubscribed 19 = .ok (.iload_n 1, 1) := by decide +kernel
theorem dX11_isOversubscribed_20 : decode cX11_isOversubscribed 20 = .ok (.invokevirtual 133, 3) := by decide +kernel
theorem dX11_isOversubscribed_23 : decode cX11_isOversubscribed 23 = .ok (.aload_n 0, 1) := by decide +kernel
theorem dX11_isOversubscribed_24 : decode cX11_isOversubscribed 24 = .ok (.getfield 40, 3) := by decide +kernel
theorem dX11_isOversubscribed_27 : decode cX11_isOversubscribed 27 = .ok (.getfield 111, 3) := by decide +kernel
theorem dX11_isOversubscribed_30 : decode cX11_isOversubscribed 30 = .ok (.iload_n 1, 1) := by decide +kernel
theorem dX11_isOversubscribed_31 : decode cX11_isOversubscribed 31 = .ok (.iaload, 1) := by decide +kernel
theorem dX11_isOversubscribed_32 : decode cX11_isOversubscribed 32 = .ok (.if_icmp .le 7, 3) := by decide +kernel
theorem dX11_isOversubscribed_35 : decode cX11_isOversubscribed 35 = .ok (.iconst 1, 1) := by decide +kernel
theorem dX11_isOversubscribed_36 : decode cX11_isOversubscribed 36 = .ok (.goto 4, 3) := by decide +kernel
theorem dX11_isOversubscribed_39 : decode cX11_isOversubscribed 39 = .ok (.iconst 0, 1) := by decide +kernel
theorem dX11_isOversubscribed_40 : decode cX11_isOversubscribed 40 = .ok (.ireturn, 1) := by decide +kernel
theorem dX11_pathCeiling_0 : decode cX11_pathCeiling 0 = .ok (.aload_n 0, 1) := by decide +kernel
theorem dX11_pathCeiling_1 : decode cX11_pathCeiling 1 = .ok (.getfield 33, 3) := by decide +kernel
theorem dX11_pathCeiling_4 : decode cX11_pathCeiling 4 = .ok (.iload_n 1, 1) := by decide +kernel
theorem dX11_pathCeiling_5 : decode cX11_pathCeiling 5 = .ok (.invokevirtual 85, 3) := by decide +kernel
theorem dX11_pathCeiling_8 : decode cX11_pathCeiling 8 = .ok (.ifCond .eq 18, 3) := by decide +kernel
theorem dX11_pathCeiling_11 : decode cX11_pathCeiling 11 = .ok (.aload_n 0, 1) := by decide +kernel
theorem dX11_pathCeiling_12 : decode cX11_pathCeiling 12 = .ok (.getfield 40, 3) := by decide +kernel
theorem dX11_pathCeiling_15 : decode cX11_pathCeiling 15 = .ok (.aload_n 0, 1) := by decide +kernel
theorem dX11_pathCeiling_16 : decode cX11_pathCeiling 16 = .ok (.getfield 33, 3) := by decide +kernel
theorem dX11_pathCeiling_19 : decode cX11_pathCeiling 19 = .ok (.iload_n 1, 1) := by decide +kernel
theorem dX11_pathCeiling_20 : decode cX11_pathCeiling 20 = .ok (.invokevirtual 137, 3) := by decide +kernel
theorem dX11_pathCeiling_23 : decode cX11_pathCeiling 23 = .ok (.goto 4, 3) := by decide +kernel
theorem dX11_pathCeiling_26 : decode cX11_pathCeiling 26 = .ok (.iconst (-1), 1) := by decide +kernel
theorem dX11_pathCeiling_27 : decode cX11_pathCeiling 27 = .ok (.ireturn, 1) := by decide +kernel
theorem dX11_time_0 : decode cX11_time 0 = .ok (.aload_n 0, 1) := by decide +kernel
theorem dX11_time_1 : decode cX11_time 1 = .ok (.getfield 40, 3) := by decide +kernel
theorem dX11_time_4 : decode cX11_time 4 = .ok (.getfield 140, 3) := by decide +kernel
theorem dX11_time_7 : decode cX11_time 7 = .ok (.ireturn, 1) := by decide +kernel
theorem dX11_tokens_0 : decode cX11_tokens 0 = .ok (.aload_n 0, 1) := by decide +kernel
theorem dX11_tokens_1 : decode cX11_tokens 1 = .ok (.getfield 33, 3) := by decide +kernel
theorem dX11_tokens_4 : decode cX11_tokens 4 = .ok (.iload_n 1, 1) := by decide +kernel
theorem dX11_tokens_5 : decode cX11_tokens 5 = .ok (.invokevirtual 85, 3) := by decide +kernel
theorem dX11_tokens_8 : decode cX11_tokens 8 = .ok (.ifCond .eq 18, 3) := by decide +kernel
theorem dX11_tokens_11 : decode cX11_tokens 11 = .ok (.aload_n 0, 1) := by decide +kernel
theorem dX11_tokens_12 : decode cX11_tokens 12 = .ok (.getfield 40, 3) := by decide +kernel
theorem dX11_tokens_15 : decode cX11_tokens 15 = .ok (.getfield 143, 3) := by decide +kernel
theorem dX11_tokens_18 : decode cX11_tokens 18 = .ok (.getfield 147, 3) := by decide +kernel
theorem dX11_tokens_21 : decode cX11_tokens 21 = .ok (.iload_n 1, 1) := by decide +kernel
theorem dX11_tokens_22 : decode cX11_tokens 22 = .ok (.iaload, 1) := by decide +kernel
theorem dX11_tokens_23 : decode cX11_tokens 23 = .ok (.goto 4, 3) := by decide +kernel
theorem dX11_tokens_26 : decode cX11_tokens 26 = .ok (.iconst (-1), 1) := by decide +kernel
theorem dX11_tokens_27 : decode cX11_tokens 27 = .ok (.ireturn, 1) := by decide +kernel
theorem dX11_credit_0 : decode cX11_credit 0 = .ok (.aload_n 0, 1) := by decide +kernel
theorem dX11_credit_1 : decode cX11_credit 1 = .ok (.getfield 33, 3) := by decide +kernel
theorem dX11_credit_4 : decode cX11_credit 4 = .ok (.iload_n 1, 1) := by decide +kernel
theorem dX11_credit_5 : decode cX11_credit 5 = .ok (.invokevirtual 85, 3) := by decide +kernel
theorem dX11_credit_8 : decode cX11_credit 8 = .ok (.ifCond .eq 18, 3) := by decide +kernel
theorem dX11_credit_11 : decode cX11_credit 11 = .ok (.aload_n 0, 1) := by decide +kernel
theorem dX11_credit_12 : decode cX11_credit 12 = .ok (.getfield 40, 3) := by decide +kernel
theorem dX11_credit_15 : decode cX11_credit 15 = .ok (.getfield 143, 3) := by decide +kernel
theorem dX11_credit_18 : decode cX11_credit 18 = .ok (.getfield 152, 3) := by decide +kernel
theorem dX11_credit_21 : decode cX11_credit 21 = .ok (.iload_n 1, 1) := by decide +kernel
theorem dX11_credit_22 : decode cX11_credit 22 = .ok (.iaload, 1) := by decide +kernel
theorem dX11_credit_23 : decode cX11_credit 23 = .ok (.goto 4, 3) := by decide +kernel
theorem dX11_credit_26 : decode cX11_credit 26 = .ok (.iconst (-1), 1) := by decide +kernel
theorem dX11_credit_27 : decode cX11_credit 27 = .ok (.ireturn, 1) := by decide +kernel
theorem dX11_headroom_0 : decode cX11_headroom 0 = .ok (.aload_n 0, 1) := by decide +kernel
theorem dX11_headroom_1 : decode cX11_headroom 1 = .ok (.getfield 33, 3) := by decide +kernel
theorem dX11_headroom_4 : decode cX11_headroom 4 = .ok (.iload_n 1, 1) := by decide +kernel
theorem dX11_headroom_5 : decode cX11_headroom 5 = .ok (.invokevirtual 85, 3) := by decide +kernel
theorem dX11_headroom_8 : decode cX11_headroom 8 = .ok (.ifCond .eq 18, 3) := by decide +kernel
theorem dX11_headroom_11 : decode cX11_headroom 11 = .ok (.aload_n 0, 1) := by decide +kernel
theorem dX11_headroom_12 : decode cX11_headroom 12 = .ok (.getfield 40, 3) := by decide +kernel
theorem dX11_headroom_15 : decode cX11_headroom 15 = .ok (.getfield 143, 3) := by decide +kernel
theorem dX11_headroom_18 : decode cX11_headroom 18 = .ok (.getfield 155, 3) := by decide +kernel
theorem dX11_headroom_21 : decode cX11_headroom 21 = .ok (.iload_n 1, 1) := by decide +kernel
theorem dX11_headroom_22 : decode cX11_headroom 22 = .ok (.iaload, 1) := by decide +kernel
theorem dX11_headroom_23 : decode cX11_headroom 23 = .ok (.goto 4, 3) := by decide +kernel
theorem dX11_headroom_26 : decode cX11_headroom 26 = .ok (.iconst (-1), 1) := by decide +kernel
theorem dX11_headroom_27 : decode cX11_headroom 27 = .ok (.ireturn, 1) := by decide +kernel
theorem dX11_lender_0 : decode cX11_lender 0 = .ok (.aload_n 0, 1) := by decide +kernel
theorem dX11_lender_1 : decode cX11_lender 1 = .ok (.iload_n 1, 1) := by decide +kernel
theorem dX11_lender_2 : decode cX11_lender 2 = .ok (.iload_n 2, 1) := by decide +kernel
theorem dX11_lender_3 : decode cX11_lender 3 = .ok (.invokevirtual 158, 3) := by decide +kernel
theorem dX11_lender_6 : decode cX11_lender 6 = .ok (.ifCond .eq 22, 3) := by decide +kernel
theorem dX11_lender_9 : decode cX11_lender 9 = .ok (.aload_n 0, 1) := by decide +kernel
theorem dX11_lender_10 : decode cX11_lender 10 = .ok (.getfield 40, 3) := by decide +kernel
theorem dX11_lender_13 : decode cX11_lender 13 = .ok (.getfield 143, 3) := by decide +kernel
theorem dX11_lender_16 : decode cX11_lender 16 = .ok (.aload_n 0, 1) := by decide +kernel
theorem dX11_lender_17 : decode cX11_lender 17 = .ok (.getfield 33, 3) := by decide +kernel
theorem dX11_lender_20 : decode cX11_lender 20 = .ok (.iload_n 1, 1) := by decide +kernel
theorem dX11_lender_21 : decode cX11_lender 21 = .ok (.iload_n 2, 1) := by decide +kernel
theorem dX11_lender_22 : decode cX11_lender 22 = .ok (.invokevirtual 162, 3) := by decide +kernel
theorem dX11_lender_25 : decode cX11_lender 25 = .ok (.goto 4, 3) := by decide +kernel
theorem dX11_lender_28 : decode cX11_lender 28 = .ok (.iconst (-1), 1) := by decide +kernel
theorem dX11_lender_29 : decode cX11_lender 29 = .ok (.ireturn, 1) := by decide +kernel
theorem dX11_greatestCost_0 : decode cX11_greatestCost 0 = .ok (.aload_n 0, 1) := by decide +kernel
theorem dX11_greatestCost_1 : decode cX11_greatestCost 1 = .ok (.getfield 33, 3) := by decide +kernel
theorem dX11_greatestCost_4 : decode cX11_greatestCost 4 = .ok (.iload_n 1, 1) := by decide +kernel
theorem dX11_greatestCost_5 : decode cX11_greatestCost 5 = .ok (.invokevirtual 105, 3) := by decide +kernel
theorem dX11_greatestCost_8 : decode cX11_greatestCost 8 = .ok (.ifCond .ne 5, 3) := by decide +kernel
theorem dX11_greatestCost_11 : decode cX11_greatestCost 11 = .ok (.iconst (-1), 1) := by decide +kernel
theorem dX11_greatestCost_12 : decode cX11_greatestCost 12 = .ok (.ireturn, 1) := by decide +kernel
theorem dX11_greatestCost_13 : decode cX11_greatestCost 13 = .ok (.bipush 99, 2) := by decide +kernel
theorem dX11_greatestCost_15 : decode cX11_greatestCost 15 = .ok (.istore_n 2, 1) := by decide +kernel
theorem dX11_greatestCost_16 : decode cX11_greatestCost 16 = .ok (.iload_n 2, 1) := by decide +kernel
theorem dX11_greatestCost_17 : decode cX11_greatestCost 17 = .ok (.ifCond .le 32, 3) := by decide +kernel
theorem dX11_greatestCost_20 : decode cX11_greatestCost 20 = .ok (.aload_n 0, 1) := by decide +kernel
theorem dX11_greatestCost_21 : decode cX11_greatestCost 21 = .ok (.getfield 40, 3) := by decide +kernel
theorem dX11_greatestCost_24 : decode cX11_greatestCost 24 = .ok (.getfield 143, 3) := by decide +kernel
theorem dX11_greatestCost_27 : decode cX11_greatestCost 27 = .ok (.aload_n 0, 1) := by decide +kernel
theorem dX11_greatestCost_28 : decode cX11_greatestCost 28 = .ok (.getfield 33, 3) := by decide +kernel
theorem dX11_greatestCost_31 : decode cX11_greatestCost 31 = .ok (.iload_n 1, 1) := by decide +kernel
theorem dX11_greatestCost_32 : decode cX11_greatestCost 32 = .ok (.iload_n 2, 1) := by decide +kernel
theorem dX11_greatestCost_33 : decode cX11_greatestCost 33 = .ok (.invokevirtual 162, 3) := by decide +kernel
theorem dX11_greatestCost_36 : decode cX11_greatestCost 36 = .ok (.bipush (-2), 2) := by decide +kernel
theorem dX11_greatestCost_38 : decode cX11_greatestCost 38 = .ok (.if_icmp .eq 5, 3) := by decide +kernel
theorem dX11_greatestCost_41 : decode cX11_greatestCost 41 = .ok (.iload_n 2, 1) := by decide +kernel
theorem dX11_greatestCost_42 : decode cX11_greatestCost 42 = .ok (.ireturn, 1) := by decide +kernel
theorem dX11_greatestCost_43 : decode cX11_greatestCost 43 = .ok (.iinc 2 (-1), 3) := by decide +kernel
theorem dX11_greatestCost_46 : decode cX11_greatestCost 46 = .ok (.goto (-30), 3) := by decide +kernel
theorem dX11_greatestCost_49 : decode cX11_greatestCost 49 = .ok (.iconst 0, 1) := by decide +kernel
theorem dX11_greatestCost_50 : decode cX11_greatestCost 50 = .ok (.ireturn, 1) := by decide +kernel
theorem dX11_acquire_0 : decode cX11_acquire 0 = .ok (.aload_n 0, 1) := by decide +kernel
theorem dX11_acquire_1 : decode cX11_acquire 1 = .ok (.iload_n 1, 1) := by decide +kernel
theorem dX11_acquire_2 : decode cX11_acquire 2 = .ok (.iload_n 2, 1) := by decide +kernel
theorem dX11_acquire_3 : decode cX11_acquire 3 = .ok (.invokevirtual 158, 3) := by decide +kernel
theorem dX11_acquire_6 : decode cX11_acquire 6 = .ok (.ifCond .ne 5, 3) := by decide +kernel
theorem dX11_acquire_9 : decode cX11_acquire 9 = .ok (.iconst (-1), 1) := by decide +kernel
theorem dX11_acquire_10 : decode cX11_acquire 10 = .ok (.ireturn, 1) := by decide +kernel
theorem dX11_acquire_11 : decode cX11_acquire 11 = .ok (.aload_n 0, 1) := by decide +kernel
theorem dX11_acquire_12 : decode cX11_acquire 12 = .ok (.getfield 40, 3) := by decide +kernel
theorem dX11_acquire_15 : decode cX11_acquire 15 = .ok (.getfield 143, 3) := by decide +kernel
theorem dX11_acquire_18 : decode cX11_acquire 18 = .ok (.aload_n 0, 1) := by decide +kernel
theorem dX11_acquire_19 : decode cX11_acquire 19 = .ok (.getfield 33, 3) := by decide +kernel
theorem dX11_acquire_22 : decode cX11_acquire 22 = .ok (.iload_n 1, 1) := by decide +kernel
theorem dX11_acquire_23 : decode cX11_acquire 23 = .ok (.iload_n 2, 1) := by decide +kernel
theorem dX11_acquire_24 : decode cX11_acquire 24 = .ok (.invokevirtual 162, 3) := by decide +kernel
theorem dX11_acquire_27 : decode cX11_acquire 27 = .ok (.istore_n 3, 1) := by decide +kernel
theorem dX11_acquire_28 : decode cX11_acquire 28 = .ok (.iload_n 3, 1) := by decide +kernel
theorem dX11_acquire_29 : decode cX11_acquire 29 = .ok (.bipush (-2), 2) := by decide +kernel
theorem dX11_acquire_31 : decode cX11_acquire 31 = .ok (.if_icmp .ne 6, 3) := by decide +kernel
theorem dX11_acquire_34 : decode cX11_acquire 34 = .ok (.bipush (-2), 2) := by decide +kernel
theorem dX11_acquire_36 : decode cX11_acquire 36 = .ok (.ireturn, 1) := by decide +kernel
theorem dX11_acquire_37 : decode cX11_acquire 37 = .ok (.aload_n 0, 1) := by decide +kernel
theorem dX11_acquire_38 : decode cX11_acquire 38 = .ok (.getfield 40, 3) := by decide +kernel
theorem dX11_acquire_41 : decode cX11_acquire 41 = .ok (.aload_n 0, 1) := by decide +kernel
theorem dX11_acquire_42 : decode cX11_acquire 42 = .ok (.getfield 33, 3) := by decide +kernel
theorem dX11_acquire_45 : decode cX11_acquire 45 = .ok (.iload_n 1, 1) := by decide +kernel
theorem dX11_acquire_46 : decode cX11_acquire 46 = .ok (.iload_n 3, 1) := by decide +kernel
theorem dX11_acquire_47 : decode cX11_acquire 47 = .ok (.iload_n 2, 1) := by decide +kernel
theorem dX11_acquire_48 : decode cX11_acquire 48 = .ok (.invokevirtual 166, 3) := by decide +kernel
theorem dX11_acquire_51 : decode cX11_acquire 51 = .ok (.aload_n 0, 1) := by decide +kernel
theorem dX11_acquire_52 : decode cX11_acquire 52 = .ok (.getfield 33, 3) := by decide +kernel
theorem dX11_acquire_55 : decode cX11_acquire 55 = .ok (.iload_n 1, 1) := by decide +kernel
theorem dX11_acquire_56 : decode cX11_acquire 56 = .ok (.iload_n 3, 1) := by decide +kernel
theorem dX11_acquire_57 : decode cX11_acquire 57 = .ok (.invokevirtual 170, 3) := by decide +kernel
theorem dX11_acquire_60 : decode cX11_acquire 60 = .ok (.ireturn, 1) := by decide +kernel
theorem dX11_enqueue_0 : decode cX11_enqueue 0 = .ok (.aload_n 0, 1) := by decide +kernel
theorem dX11_enqueue_1 : decode cX11_enqueue 1 = .ok (.iload_n 1, 1) := by decide +kernel
theorem dX11_enqueue_2 : decode cX11_enqueue 2 = .ok (.iload_n 2, 1) := by decide +kernel
theorem dX11_enqueue_3 : decode cX11_enqueue 3 = .ok (.invokevirtual 158, 3) := by decide +kernel
theorem dX11_enqueue_6 : decode cX11_enqueue 6 = .ok (.ifCond .eq 15, 3) := by decide +kernel
theorem dX11_enqueue_9 : decode cX11_enqueue 9 = .ok (.aload_n 0, 1) := by decide +kernel
theorem dX11_enqueue_10 : decode cX11_enqueue 10 = .ok (.getfield 40, 3) := by decide +kernel
theorem dX11_enqueue_13 : decode cX11_enqueue 13 = .ok (.iload_n 1, 1) := by decide +kernel
theorem dX11_enqueue_14 : decode cX11_enqueue 14 = .ok (.iload_n 2, 1) := by decide +kernel
theorem dX11_enqueue_15 : decode cX11_enqueue 15 = .ok (.invokevirtual 173, 3) := by decide +kernel
theorem dX11_enqueue_18 : decode cX11_enqueue 18 = .ok (.goto 4, 3) := by decide +kernel
theorem dX11_enqueue_21 : decode cX11_enqueue 21 = .ok (.iconst (-1), 1) := by decide +kernel
theorem dX11_enqueue_22 : decode cX11_enqueue 22 = .ok (.ireturn, 1) := by decide +kernel
theorem dX11_waitTime_0 : decode cX11_waitTime 0 = .ok (.aload_n 0, 1) := by decide +kernel
theorem dX11_waitTime_1 : decode cX11_waitTime 1 = .ok (.iload_n 1, 1) := by decide +kernel
theorem dX11_waitTime_2 : decode cX11_waitTime 2 = .ok (.iload_n 2, 1) := by decide +kernel
theorem dX11_waitTime_3 : decode cX11_waitTime 3 = .ok (.invokevirtual 158, 3) := by decide +kernel
theorem dX11_waitTime_6 : decode cX11_waitTime 6 = .ok (.ifCond .eq 19, 3) := by decide +kernel
theorem dX11_waitTime_9 : decode cX11_waitTime 9 = .ok (.aload_n 0, 1) := by decide +kernel
theorem dX11_waitTime_10 : decode cX11_waitTime 10 = .ok (.getfield 40, 3) := by decide +kernel
theorem dX11_waitTime_13 : decode cX11_waitTime 13 = .ok (.aload_n 0, 1) := by decide +kernel
theorem dX11_waitTime_14 : decode cX11_waitTime 14 = .ok (.getfield 33, 3) := by decide +kernel
theorem dX11_waitTime_17 : decode cX11_waitTime 17 = .ok (.iload_n 1, 1) := by decide +kernel
theorem dX11_waitTime_18 : decode cX11_waitTime 18 = .ok (.iload_n 2, 1) := by decide +kernel
theorem dX11_waitTime_19 : decode cX11_waitTime 19 = .ok (.invokevirtual 176, 3) := by decide +kernel
theorem dX11_waitTime_22 : decode cX11_waitTime 22 = .ok (.goto 4, 3) := by decide +kernel
theorem dX11_waitTime_25 : decode cX11_waitTime 25 = .ok (.iconst (-1), 1) := by decide +kernel
theorem dX11_waitTime_26 : decode cX11_waitTime 26 = .ok (.ireturn, 1) := by decide +kernel
theorem dX11_repeats_0 : decode cX11_repeats 0 = .ok (.aload_n 0, 1) := by decide +kernel
theorem dX11_repeats_1 : decode cX11_repeats 1 = .ok (.iload_n 1, 1) := by decide +kernel
theorem dX11_repeats_2 : decode cX11_repeats 2 = .ok (.iload_n 2, 1) := by decide +kernel
theorem dX11_repeats_3 : decode cX11_repeats 3 = .ok (.invokevirtual 158, 3) := by decide +kernel
theorem dX11_repeats_6 : decode cX11_repeats 6 = .ok (.ifCond .ne 5, 3) := by decide +kernel
theorem dX11_repeats_9 : decode cX11_repeats 9 = .ok (.iconst (-1), 1) := by decide +kernel
theorem dX11_repeats_10 : decode cX11_repeats 10 = .ok (.ireturn, 1) := by decide +kernel
theorem dX11_repeats_11 : decode cX11_repeats 11 = .ok (.aload_n 0, 1) := by decide +kernel
theorem dX11_repeats_12 : decode cX11_repeats 12 = .ok (.getfield 44, 3) := by decide +kernel
theorem dX11_repeats_15 : decode cX11_repeats 15 = .ok (.getfield 143, 3) := by decide +kernel
theorem dX11_repeats_18 : decode cX11_repeats 18 = .ok (.aload_n 0, 1) := by decide +kernel
theorem dX11_repeats_19 : decode cX11_repeats 19 = .ok (.getfield 40, 3) := by decide +kernel
theorem dX11_repeats_22 : decode cX11_repeats 22 = .ok (.getfield 143, 3) := by decide +kernel
theorem dX11_repeats_25 : decode cX11_repeats 25 = .ok (.invokevirtual 179, 3) := by decide +kernel
theorem dX11_repeats_28 : decode cX11_repeats 28 = .ok (.aload_n 0, 1) := by decide +kernel
theorem dX11_repeats_29 : decode cX11_repeats 29 = .ok (.getfield 44, 3) := by decide +kernel
theorem dX11_repeats_32 : decode cX11_repeats 32 = .ok (.getfield 143, 3) := by decide +kernel
theorem dX11_repeats_35 : decode cX11_repeats 35 = .ok (.aload_n 0, 1) := by decide +kernel
theorem dX11_repeats_36 : decode cX11_repeats 36 = .ok (.getfield 33, 3) := by decide +kernel
theorem dX11_repeats_39 : decode cX11_repeats 39 = .ok (.iload_n 1, 1) := by decide +kernel
theorem dX11_repeats_40 : decode cX11_repeats 40 = .ok (.iload_n 2, 1) := by decide +kernel
theorem dX11_repeats_41 : decode cX11_repeats 41 = .ok (.invokevirtual 183, 3) := by decide +kernel
theorem dX11_repeats_44 : decode cX11_repeats 44 = .ok (.ireturn, 1) := by decide +kernel
theorem dX11_refusal_0 : decode cX11_refusal 0 = .ok (.aload_n 0, 1) := by decide +kernel
theorem dX11_refusal_1 : decode cX11_refusal 1 = .ok (.iload_n 1, 1) := by decide +kernel
theorem dX11_refusal_2 : decode cX11_refusal 2 = .ok (.iload_n 2, 1) := by decide +kernel
theorem dX11_refusal_3 : decode cX11_refusal 3 = .ok (.invokevirtual 158, 3) := by decide +kernel
theorem dX11_refusal_6 : decode cX11_refusal 6 = .ok (.ifCond .ne 5, 3) := by decide +kernel
theorem dX11_refusal_9 : decode cX11_refusal 9 = .ok (.iconst (-1), 1) := by decide +kernel
theorem dX11_refusal_10 : decode cX11_refusal 10 = .ok (.ireturn, 1) := by decide +kernel
theorem dX11_refusal_11 : decode cX11_refusal 11 = .ok (.aload_n 0, 1) := by decide +kernel
theorem dX11_refusal_12 : decode cX11_refusal 12 = .ok (.getfield 40, 3) := by decide +kernel
theorem dX11_refusal_15 : decode cX11_refusal 15 = .ok (.getfield 143, 3) := by decide +kernel
theorem dX11_refusal_18 : decode cX11_refusal 18 = .ok (.aload_n 0, 1) := by decide +kernel
theorem dX11_refusal_19 : decode cX11_refusal 19 = .ok (.getfield 33, 3) := by decide +kernel
theorem dX11_refusal_22 : decode cX11_refusal 22 = .ok (.iload_n 1, 1) := by decide +kernel
theorem dX11_refusal_23 : decode cX11_refusal 23 = .ok (.iload_n 2, 1) := by decide +kernel
theorem dX11_refusal_24 : decode cX11_refusal 24 = .ok (.invokevirtual 186, 3) := by decide +kernel
theorem dX11_refusal_27 : decode cX11_refusal 27 = .ok (.bipush (-2), 2) := by decide +kernel
theorem dX11_refusal_29 : decode cX11_refusal 29 = .ok (.if_icmp .eq 5, 3) := by decide +kernel
theorem dX11_refusal_32 : decode cX11_refusal 32 = .ok (.iconst 1, 1) := by decide +kernel
theorem dX11_refusal_33 : decode cX11_refusal 33 = .ok (.ireturn, 1) := by decide +kernel
theorem dX11_refusal_34 : decode cX11_refusal 34 = .ok (.aload_n 0, 1) := by decide +kernel
theorem dX11_refusal_35 : decode cX11_refusal 35 = .ok (.getfield 40, 3) := by decide +kernel
theorem dX11_refusal_38 : decode cX11_refusal 38 = .ok (.getfield 143, 3) := by decide +kernel
theorem dX11_refusal_41 : decode cX11_refusal 41 = .ok (.aload_n 0, 1) := by decide +kernel
theorem dX11_refusal_42 : decode cX11_refusal 42 = .ok (.getfield 33, 3) := by decide +kernel
theorem dX11_refusal_45 : decode cX11_refusal 45 = .ok (.iload_n 1, 1) := by decide +kernel
theorem dX11_refusal_46 : decode cX11_refusal 46 = .ok (.iload_n 2, 1) := by decide +kernel
theorem dX11_refusal_47 : decode cX11_refusal 47 = .ok (.invokevirtual 162, 3) := by decide +kernel
theorem dX11_refusal_50 : decode cX11_refusal 50 = .ok (.bipush (-2), 2) := by decide +kernel
theorem dX11_refusal_52 : decode cX11_refusal 52 = .ok (.if_icmp .ne 7, 3) := by decide +kernel
theorem dX11_refusal_55 : decode cX11_refusal 55 = .ok (.iconst 2, 1) := by decide +kernel
theorem dX11_refusal_56 : decode cX11_refusal 56 = .ok (.goto 4, 3) := by decide +kernel
theorem dX11_refusal_59 : decode cX11_refusal 59 = .ok (.iconst 0, 1) := by decide +kernel
theorem dX11_refusal_60 : decode cX11_refusal 60 = .ok (.ireturn, 1) := by decide +kernel
theorem dX11_blockingNode_0 : decode cX11_blockingNode 0 = .ok (.aload_n 0, 1) := by decide +kernel
theorem dX11_blockingNode_1 : decode cX11_blockingNode 1 = .ok (.iload_n 1, 1) := by decide +kernel
theorem dX11_blockingNode_2 : decode cX11_blockingNode 2 = .ok (.iload_n 2, 1) := by decide +kernel
theorem dX11_blockingNode_3 : decode cX11_blockingNode 3 = .ok (.invokevirtual 158, 3) := by decide +kernel
theorem dX11_blockingNode_6 : decode cX11_blockingNode 6 = .ok (.ifCond .eq 22, 3) := by decide +kernel
theorem dX11_blockingNode_9 : decode cX11_blockingNode 9 = .ok (.aload_n 0, 1) := by decide +kernel
theorem dX11_blockingNode_10 : decode cX11_blockingNode 10 = .ok (.getfield 40, 3) := by decide +kernel
theorem dX11_blockingNode_13 : decode cX11_blockingNode 13 = .ok (.getfield 143, 3) := by decide +kernel
theorem dX11_blockingNode_16 : decode cX11_blockingNode 16 = .ok (.aload_n 0, 1) := by decide +kernel
theorem dX11_blockingNode_17 : decode cX11_blockingNode 17 = .ok (.getfield 33, 3) := by decide +kernel
theorem dX11_blockingNode_20 : decode cX11_blockingNode 20 = .ok (.iload_n 1, 1) := by decide +kernel
theorem dX11_blockingNode_21 : decode cX11_blockingNode 21 = .ok (.iload_n 2, 1) := by decide +kernel
theorem dX11_blockingNode_22 : decode cX11_blockingNode 22 = .ok (.invokevirtual 186, 3) := by decide +kernel
theorem dX11_blockingNode_25 : decode cX11_blockingNode 25 = .ok (.goto 4, 3) := by decide +kernel
theorem dX11_blockingNode_28 : decode cX11_blockingNode 28 = .ok (.iconst (-1), 1) := by decide +kernel
theorem dX11_blockingNode_29 : decode cX11_blockingNode 29 = .ok (.ireturn, 1) := by decide +kernel
theorem dX11_queueLength_0 : decode cX11_queueLength 0 = .ok (.aload_n 0, 1) := by decide +kernel
theorem dX11_queueLength_1 : decode cX11_queueLength 1 = .ok (.getfield 33, 3) := by decide +kernel
theorem dX11_queueLength_4 : decode cX11_queueLength 4 = .ok (.iload_n 1, 1) := by decide +kernel
theorem dX11_queueLength_5 : decode cX11_queueLength 5 = .ok (.invokevirtual 105, 3) := by decide +kernel
theorem dX11_queueLength_8 : decode cX11_queueLength 8 = .ok (.ifCond .eq 18, 3) := by decide +kernel
theorem dX11_queueLength_11 : decode cX11_queueLength 11 = .ok (.aload_n 0, 1) := by decide +kernel
theorem dX11_queueLength_12 : decode cX11_queueLength 12 = .ok (.getfield 40, 3) := by decide +kernel
theorem dX11_queueLength_15 : decode cX11_queueLength 15 = .ok (.getfield 189, 3) := by decide +kernel
theorem dX11_queueLength_18 : decode cX11_queueLength 18 = .ok (.getfield 193, 3) := by decide +kernel
theorem dX11_queueLength_21 : decode cX11_queueLength 21 = .ok (.iload_n 1, 1) := by decide +kernel
theorem dX11_queueLength_22 : decode cX11_queueLength 22 = .ok (.iaload, 1) := by decide +kernel
theorem dX11_queueLength_23 : decode cX11_queueLength 23 = .ok (.goto 4, 3) := by decide +kernel
theorem dX11_queueLength_26 : decode cX11_queueLength 26 = .ok (.iconst (-1), 1) := by decide +kernel
theorem dX11_queueLength_27 : decode cX11_queueLength 27 = .ok (.ireturn, 1) := by decide +kernel
theorem dX11_nextLeaf_0 : decode cX11_nextLeaf 0 = .ok (.aload_n 0, 1) := by decide +kernel
theorem dX11_nextLeaf_1 : decode cX11_nextLeaf 1 = .ok (.getfield 40, 3) := by decide +kernel
theorem dX11_nextLeaf_4 : decode cX11_nextLeaf 4 = .ok (.aload_n 0, 1) := by decide +kernel
theorem dX11_nextLeaf_5 : decode cX11_nextLeaf 5 = .ok (.getfield 33, 3) := by decide +kernel
theorem dX11_nextLeaf_8 : decode cX11_nextLeaf 8 = .ok (.invokevirtual 197, 3) := by decide +kernel
theorem dX11_nextLeaf_11 : decode cX11_nextLeaf 11 = .ok (.ireturn, 1) := by decide +kernel
theorem dX11_queuedCost_0 : decode cX11_queuedCost 0 = .ok (.aload_n 0, 1) := by decide +kernel
theorem dX11_queuedCost_1 : decode cX11_queuedCost 1 = .ok (.getfield 33, 3) := by decide +kernel
theorem dX11_queuedCost_4 : decode cX11_queuedCost 4 = .ok (.iload_n 1, 1) := by decide +kernel
theorem dX11_queuedCost_5 : decode cX11_queuedCost 5 = .ok (.invokevirtual 105, 3) := by decide +kernel
theorem dX11_queuedCost_8 : decode cX11_queuedCost 8 = .ok (.ifCond .eq 17, 3) := by decide +kernel
theorem dX11_queuedCost_11 : decode cX11_queuedCost 11 = .ok (.aload_n 0, 1) := by decide +kernel
theorem dX11_queuedCost_12 : decode cX11_queuedCost 12 = .ok (.getfield 40, 3) := by decide +kernel
theorem dX11_queuedCost_15 : decode cX11_queuedCost 15 = .ok (.getfield 189, 3) := by decide +kernel
theorem dX11_queuedCost_18 : decode cX11_queuedCost 18 = .ok (.iload_n 1, 1) := by decide +kernel
theorem dX11_queuedCost_19 : decode cX11_queuedCost 19 = .ok (.invokevirtual 201, 3) := by decide +kernel
theorem dX11_queuedCost_22 : decode cX11_queuedCost 22 = .ok (.goto 4, 3) := by decide +kernel
theorem dX11_queuedCost_25 : decode cX11_queuedCost 25 = .ok (.iconst (-1), 1) := by decide +kernel
theorem dX11_queuedCost_26 : decode cX11_queuedCost 26 = .ok (.ireturn, 1) := by decide +kernel
theorem dX11_requestAt_0 : decode cX11_requestAt 0 = .ok (.aload_n 0, 1) := by decide +kernel
theorem dX11_requestAt_1 : decode cX11_requestAt 1 = .ok (.iload_n 1, 1) := by decide +kernel
theorem dX11_requestAt_2 : decode cX11_requestAt 2 = .ok (.iload_n 2, 1) := by decide +kernel
theorem dX11_requestAt_3 : decode cX11_requestAt 3 = .ok (.invokevirtual 205, 3) := by decide +kernel
theorem dX11_requestAt_6 : decode cX11_requestAt 6 = .ok (.istore_n 3, 1) := by decide +kernel
theorem dX11_requestAt_7 : decode cX11_requestAt 7 = .ok (.iload_n 3, 1) := by decide +kernel
theorem dX11_requestAt_8 : decode cX11_requestAt 8 = .ok (.ifCond .ge 7, 3) := by decide +kernel
theorem dX11_requestAt_11 : decode cX11_requestAt 11 = .ok (.iload_n 3, 1) := by decide +kernel
theorem dX11_requestAt_12 : decode cX11_requestAt 12 = .ok (.goto 15, 3) := by decide +kernel
theorem dX11_requestAt_15 : decode cX11_requestAt 15 = .ok (.aload_n 0, 1) := by decide +kernel
theorem dX11_requestAt_16 : decode cX11_requestAt 16 = .ok (.getfield 40, 3) := by decide +kernel
theorem dX11_requestAt_19 : decode cX11_requestAt 19 = .ok (.getfield 189, 3) := by decide +kernel
theorem dX11_requestAt_22 : decode cX11_requestAt 22 = .ok (.getfield 208, 3) := by decide +kernel
theorem dX11_requestAt_25 : decode cX11_requestAt 25 = .ok (.iload_n 3, 1) := by decide +kernel
theorem dX11_requestAt_26 : decode cX11_requestAt 26 = .ok (.iaload, 1) := by decide +kernel
theorem dX11_requestAt_27 : decode cX11_requestAt 27 = .ok (.ireturn, 1) := by decide +kernel
theorem dX11_costAt_0 : decode cX11_costAt 0 = .ok (.aload_n 0, 1) := by decide +kernel
theorem dX11_costAt_1 : decode cX11_costAt 1 = .ok (.iload_n 1, 1) := by decide +kernel
theorem dX11_costAt_2 : decode cX11_costAt 2 = .ok (.iload_n 2, 1) := by decide +kernel
theorem dX11_costAt_3 : decode cX11_costAt 3 = .ok (.invokevirtual 205, 3) := by decide +kernel
theorem dX11_costAt_6 : decode cX11_costAt 6 = .ok (.istore_n 3, 1) := by decide +kernel
theorem dX11_costAt_7 : decode cX11_costAt 7 = .ok (.iload_n 3, 1) := by decide +kernel
theorem dX11_costAt_8 : decode cX11_costAt 8 = .ok (.ifCond .ge 7, 3) := by decide +kernel
theorem dX11_costAt_11 : decode cX11_costAt 11 = .ok (.iload_n 3, 1) := by decide +kernel
theorem dX11_costAt_12 : decode cX11_costAt 12 = .ok (.goto 15, 3) := by decide +kernel
theorem dX11_costAt_15 : decode cX11_costAt 15 = .ok (.aload_n 0, 1) := by decide +kernel
theorem dX11_costAt_16 : decode cX11_costAt 16 = .ok (.getfield 40, 3) := by decide +kernel
theorem dX11_costAt_19 : decode cX11_costAt 19 = .ok (.getfield 189, 3) := by decide +kernel
theorem dX11_costAt_22 : decode cX11_costAt 22 = .ok (.getfield 211, 3) := by decide +kernel
theorem dX11_costAt_25 : decode cX11_costAt 25 = .ok (.iload_n 3, 1) := by decide +kernel
theorem dX11_costAt_26 : decode cX11_costAt 26 = .ok (.iaload, 1) := by decide +kernel
theorem dX11_costAt_27 : decode cX11_costAt 27 = .ok (.ireturn, 1) := by decide +kernel
theorem dX11_ageAt_0 : decode cX11_ageAt 0 = .ok (.aload_n 0, 1) := by decide +kernel
theorem dX11_ageAt_1 : decode cX11_ageAt 1 = .ok (.iload_n 1, 1) := by decide +kernel
theorem dX11_ageAt_2 : decode cX11_ageAt 2 = .ok (.iload_n 2, 1) := by decide +kernel
theorem dX11_ageAt_3 : decode cX11_ageAt 3 = .ok (.invokevirtual 205, 3) := by decide +kernel
theorem dX11_ageAt_6 : decode cX11_ageAt 6 = .ok (.istore_n 3, 1) := by decide +kernel
theorem dX11_ageAt_7 : decode cX11_ageAt 7 = .ok (.iload_n 3, 1) := by decide +kernel
theorem dX11_ageAt_8 : decode cX11_ageAt 8 = .ok (.ifCond .ge 7, 3) := by decide +kernel
theorem dX11_ageAt_11 : decode cX11_ageAt 11 = .ok (.iload_n 3, 1) := by decide +kernel
theorem dX11_ageAt_12 : decode cX11_ageAt 12 = .ok (.goto 23, 3) := by decide +kernel
theorem dX11_ageAt_15 : decode cX11_ageAt 15 = .ok (.aload_n 0, 1) := by decide +kernel
theorem dX11_ageAt_16 : decode cX11_ageAt 16 = .ok (.getfield 40, 3) := by decide +kernel
theorem dX11_ageAt_19 : decode cX11_ageAt 19 = .ok (.getfield 140, 3) := by decide +kernel
theorem dX11_ageAt_22 : decode cX11_ageAt 22 = .ok (.aload_n 0, 1) := by decide +kernel
theorem dX11_ageAt_23 : decode cX11_ageAt 23 = .ok (.getfield 40, 3) := by decide +kernel
theorem dX11_ageAt_26 : decode cX11_ageAt 26 = .ok (.getfield 189, 3) := by decide +kernel
theorem dX11_ageAt_29 : decode cX11_ageAt 29 = .ok (.getfield 214, 3) := by decide +kernel
theorem dX11_ageAt_32 : decode cX11_ageAt 32 = .ok (.iload_n 3, 1) := by decide +kernel
theorem dX11_ageAt_33 : decode cX11_ageAt 33 = .ok (.iaload, 1) := by decide +kernel
theorem dX11_ageAt_34 : decode cX11_ageAt 34 = .ok (.isub, 1) := by decide +kernel
theorem dX11_ageAt_35 : decode cX11_ageAt 35 = .ok (.ireturn, 1) := by decide +kernel
theorem dX11_advance_0 : decode cX11_advance 0 = .ok (.aload_n 0, 1) := by decide +kernel
theorem dX11_advance_1 : decode cX11_advance 1 = .ok (.iload_n 1, 1) := by decide +kernel
theorem dX11_advance_2 : decode cX11_advance 2 = .ok (.invokevirtual 217, 3) := by decide +kernel
theorem dX11_advance_5 : decode cX11_advance 5 = .ok (.ifCond .eq 18, 3) := by decide +kernel
theorem dX11_advance_8 : decode cX11_advance 8 = .ok (.aload_n 0, 1) := by decide +kernel
theorem dX11_advance_9 : decode cX11_advance 9 = .ok (.getfield 40, 3) := by decide +kernel
theorem dX11_advance_12 : decode cX11_advance 12 = .ok (.aload_n 0, 1) := by decide +kernel
theorem dX11_advance_13 : decode cX11_advance 13 = .ok (.getfield 33, 3) := by decide +kernel
theorem dX11_advance_16 : decode cX11_advance 16 = .ok (.iload_n 1, 1) := by decide +kernel
theorem dX11_advance_17 : decode cX11_advance 17 = .ok (.invokevirtual 220, 3) := by decide +kernel
theorem dX11_advance_20 : decode cX11_advance 20 = .ok (.goto 4, 3) := by decide +kernel
theorem dX11_advance_23 : decode cX11_advance 23 = .ok (.iconst (-1), 1) := by decide +kernel
theorem dX11_advance_24 : decode cX11_advance 24 = .ok (.ireturn, 1) := by decide +kernel
theorem dX11_forecast_0 : decode cX11_forecast 0 = .ok (.aload_n 0, 1) := by decide +kernel
theorem dX11_forecast_1 : decode cX11_forecast 1 = .ok (.getfield 33, 3) := by decide +kernel
theorem dX11_forecast_4 : decode cX11_forecast 4 = .ok (.iload_n 1, 1) := by decide +kernel
theorem dX11_forecast_5 : decode cX11_forecast 5 = .ok (.invokevirtual 105, 3) := by decide +kernel
theorem dX11_forecast_8 : decode cX11_forecast 8 = .ok (.ifCond .eq 11, 3) := by decide +kernel
theorem dX11_forecast_11 : decode cX11_forecast 11 = .ok (.aload_n 0, 1) := by decide +kernel
theorem dX11_forecast_12 : decode cX11_forecast 12 = .ok (.iload_n 2, 1) := by decide +kernel
theorem dX11_forecast_13 : decode cX11_forecast 13 = .ok (.invokevirtual 217, 3) := by decide +kernel
theorem dX11_forecast_16 : decode cX11_forecast 16 = .ok (.ifCond .ne 5, 3) := by decide +kernel
theorem dX11_forecast_19 : decode cX11_forecast 19 = .ok (.iconst (-1), 1) := by decide +kernel
theorem dX11_forecast_20 : decode cX11_forecast 20 = .ok (.ireturn, 1) := by decide +kernel
theorem dX11_forecast_21 : decode cX11_forecast 21 = .ok (.aload_n 0, 1) := by decide +kernel
theorem dX11_forecast_22 : decode cX11_forecast 22 = .ok (.getfield 44, 3) := by decide +kernel
theorem dX11_forecast_25 : decode cX11_forecast 25 = .ok (.aload_n 0, 1) := by decide +kernel
theorem dX11_forecast_26 : decode cX11_forecast 26 = .ok (.getfield 40, 3) := by decide +kernel
theorem dX11_forecast_29 : decode cX11_forecast 29 = .ok (.invokevirtual 223, 3) := by decide +kernel
theorem dX11_forecast_32 : decode cX11_forecast 32 = .ok (.aload_n 0, 1) := by decide +kernel
theorem dX11_forecast_33 : decode cX11_forecast 33 = .ok (.getfield 44, 3) := by decide +kernel
theorem dX11_forecast_36 : decode cX11_forecast 36 = .ok (.aload_n 0, 1) := by decide +kernel
theorem dX11_forecast_37 : decode cX11_forecast 37 = .ok (.getfield 33, 3) := by decide +kernel
theorem dX11_forecast_40 : decode cX11_forecast 40 = .ok (.iload_n 2, 1) := by decide +kernel
theorem dX11_forecast_41 : decode cX11_forecast 41 = .ok (.invokevirtual 220, 3) := by decide +kernel
theorem dX11_forecast_44 : decode cX11_forecast 44 = .ok (.pop, 1) := by decide +kernel
theorem dX11_forecast_45 : decode cX11_forecast 45 = .ok (.aload_n 0, 1) := by decide +kernel
theorem dX11_forecast_46 : decode cX11_forecast 46 = .ok (.getfield 44, 3) := by decide +kernel
theorem dX11_forecast_49 : decode cX11_forecast 49 = .ok (.getfield 226, 3) := by decide +kernel
theorem dX11_forecast_52 : decode cX11_forecast 52 = .ok (.getfield 230, 3) := by decide +kernel
theorem dX11_forecast_55 : decode cX11_forecast 55 = .ok (.iload_n 1, 1) := by decide +kernel
theorem dX11_forecast_56 : decode cX11_forecast 56 = .ok (.iaload, 1) := by decide +kernel
theorem dX11_forecast_57 : decode cX11_forecast 57 = .ok (.aload_n 0, 1) := by decide +kernel
theorem dX11_forecast_58 : decode cX11_forecast 58 = .ok (.getfield 40, 3) := by decide +kernel
theorem dX11_forecast_61 : decode cX11_forecast 61 = .ok (.getfield 226, 3) := by decide +kernel
theorem dX11_forecast_64 : decode cX11_forecast 64 = .ok (.getfield 230, 3) := by decide +kernel
theorem dX11_forecast_67 : decode cX11_forecast 67 = .ok (.iload_n 1, 1) := by decide +kernel
theorem dX11_forecast_68 : decode cX11_forecast 68 = .ok (.iaload, 1) := by decide +kernel
theorem dX11_forecast_69 : decode cX11_forecast 69 = .ok (.isub, 1) := by decide +kernel
theorem dX11_forecast_70 : decode cX11_forecast 70 = .ok (.ireturn, 1) := by decide +kernel
theorem dX11_drainTime_0 : decode cX11_drainTime 0 = .ok (.aload_n 0, 1) := by decide +kernel
theorem dX11_drainTime_1 : decode cX11_drainTime 1 = .ok (.getfield 33, 3) := by decide +kernel
theorem dX11_drainTime_4 : decode cX11_drainTime 4 = .ok (.iload_n 1, 1) := by decide +kernel
theorem dX11_drainTime_5 : decode cX11_drainTime 5 = .ok (.invokevirtual 105, 3) := by decide +kernel
theorem dX11_drainTime_8 : decode cX11_drainTime 8 = .ok (.ifCond .ne 5, 3) := by decide +kernel
theorem dX11_drainTime_11 : decode cX11_drainTime 11 = .ok (.iconst (-1), 1) := by decide +kernel
theorem dX11_drainTime_12 : decode cX11_drainTime 12 = .ok (.ireturn, 1) := by decide +kernel
theorem dX11_drainTime_13 : decode cX11_drainTime 13 = .ok (.aload_n 0, 1) := by decide +kernel
theorem dX11_drainTime_14 : decode cX11_drainTime 14 = .ok (.getfield 44, 3) := by decide +kernel
theorem dX11_drainTime_17 : decode cX11_drainTime 17 = .ok (.aload_n 0, 1) := by decide +kernel
theorem dX11_drainTime_18 : decode cX11_drainTime 18 = .ok (.getfield 40, 3) := by decide +kernel
theorem dX11_drainTime_21 : decode cX11_drainTime 21 = .ok (.invokevirtual 223, 3) := by decide +kernel
theorem dX11_drainTime_24 : decode cX11_drainTime 24 = .ok (.sipush 500, 3) := by decide +kernel
theorem dX11_drainTime_27 : decode cX11_drainTime 27 = .ok (.sipush 5000, 3) := by decide +kernel
theorem dX11_drainTime_30 : decode cX11_drainTime 30 = .ok (.aload_n 0, 1) := by decide +kernel
theorem dX11_drainTime_31 : decode cX11_drainTime 31 = .ok (.getfield 40, 3) := by decide +kernel
theorem dX11_drainTime_34 : decode cX11_drainTime 34 = .ok (.getfield 140, 3) := by decide +kernel
theorem dX11_drainTime_37 : decode cX11_drainTime 37 = .ok (.isub, 1) := by decide +kernel
theorem dX11_drainTime_38 : decode cX11_drainTime 38 = .ok (.invokestatic 235, 3) := by decide +kernel
theorem dX11_drainTime_41 : decode cX11_drainTime 41 = .ok (.istore_n 2, 1) := by decide +kernel
theorem dX11_drainTime_42 : decode cX11_drainTime 42 = .ok (.iconst 0, 1) := by decide +kernel
theorem dX11_drainTime_43 : decode cX11_drainTime 43 = .ok (.istore_n 3, 1) := by decide +kernel
theorem dX11_drainTime_44 : decode cX11_drainTime 44 = .ok (.iload_n 3, 1) := by decide +kernel
theorem dX11_drainTime_45 : decode cX11_drainTime 45 = .ok (.iload_n 2, 1) := by decide +kernel
theorem dX11_drainTime_46 : decode cX11_drainTime 46 = .ok (.if_icmp .ge 38, 3) := by decide +kernel
theorem dX11_drainTime_49 : decode cX11_drainTime 49 = .ok (.aload_n 0, 1) := by decide +kernel
theorem dX11_drainTime_50 : decode cX11_drainTime 50 = .ok (.getfield 44, 3) := by decide +kernel
theorem dX11_drainTime_53 : decode cX11_drainTime 53 = .ok (.getfield 189, 3) := by decide +kernel
theorem dX11_drainTime_56 : decode cX11_drainTime 56 = .ok (.getfield 193, 3) := by decide +kernel
theorem dX11_drainTime_59 : decode cX11_drainTime 59 = .ok (.iload_n 1, 1) := by decide +kernel
theorem dX11_drainTime_60 : decode cX11_drainTime 60 = .ok (.iaload, 1) := by decide +kernel
theorem dX11_drainTime_61 : decode cX11_drainTime 61 = .ok (.ifCond .ne 5, 3) := by decide +kernel
theorem dX11_drainTime_64 : decode cX11_drainTime 64 = .ok (.iload_n 3, 1) := by decide +kernel
theorem dX11_drainTime_65 : decode cX11_drainTime 65 = .ok (.ireturn, 1) := by decide +kernel
theorem dX11_drainTime_66 : decode cX11_drainTime 66 = .ok (.aload_n 0, 1) := by decide +kernel
theorem dX11_drainTime_67 : decode cX11_drainTime 67 = .ok (.getfield 44, 3) := by decide +kernel
theorem dX11_drainTime_70 : decode cX11_drainTime 70 = .ok (.aload_n 0, 1) := by decide +kernel
theorem dX11_drainTime_71 : decode cX11_drainTime 71 = .ok (.getfield 33, 3) := by decide +kernel
theorem dX11_drainTime_74 : decode cX11_drainTime 74 = .ok (.invokevirtual 240, 3) := by decide +kernel
theorem dX11_drainTime_77 : decode cX11_drainTime 77 = .ok (.pop, 1) := by decide +kernel
theorem dX11_drainTime_78 : decode cX11_drainTime 78 = .ok (.iinc 3 1, 3) := by decide +kernel
theorem dX11_drainTime_81 : decode cX11_drainTime 81 = .ok (.goto (-37), 3) := by decide +kernel
theorem dX11_drainTime_84 : decode cX11_drainTime 84 = .ok (.aload_n 0, 1) := by decide +kernel
theorem dX11_drainTime_85 : decode cX11_drainTime 85 = .ok (.getfield 44, 3) := by decide +kernel
theorem dX11_drainTime_88 : decode cX11_drainTime 88 = .ok (.getfield 189, 3) := by decide +kernel
theorem dX11_drainTime_91 : decode cX11_drainTime 91 = .ok (.getfield 193, 3) := by decide +kernel
theorem dX11_drainTime_94 : decode cX11_drainTime 94 = .ok (.iload_n 1, 1) := by decide +kernel
theorem dX11_drainTime_95 : decode cX11_drainTime 95 = .ok (.iaload, 1) := by decide +kernel
theorem dX11_drainTime_96 : decode cX11_drainTime 96 = .ok (.ifCond .ne 7, 3) := by decide +kernel
theorem dX11_drainTime_99 : decode cX11_drainTime 99 = .ok (.iload_n 2, 1) := by decide +kernel
theorem dX11_drainTime_100 : decode cX11_drainTime 100 = .ok (.goto 5, 3) := by decide +kernel
theorem dX11_drainTime_103 : decode cX11_drainTime 103 = .ok (.bipush (-2), 2) := by decide +kernel
theorem dX11_drainTime_105 : decode cX11_drainTime 105 = .ok (.ireturn, 1) := by decide +kernel
theorem dX11_sentCost_0 : decode cX11_sentCost 0 = .ok (.aload_n 0, 1) := by decide +kernel
theorem dX11_sentCost_1 : decode cX11_sentCost 1 = .ok (.getfield 33, 3) := by decide +kernel
theorem dX11_sentCost_4 : decode cX11_sentCost 4 = .ok (.iload_n 1, 1) := by decide +kernel
theorem dX11_sentCost_5 : decode cX11_sentCost 5 = .ok (.invokevirtual 105, 3) := by decide +kernel
theorem dX11_sentCost_8 : decode cX11_sentCost 8 = .ok (.ifCond .eq 18, 3) := by decide +kernel
theorem dX11_sentCost_11 : decode cX11_sentCost 11 = .ok (.aload_n 0, 1) := by decide +kernel
theorem dX11_sentCost_12 : decode cX11_sentCost 12 = .ok (.getfield 40, 3) := by decide +kernel
theorem dX11_sentCost_15 : decode cX11_sentCost 15 = .ok (.getfield 226, 3) := by decide +kernel
theorem dX11_sentCost_18 : decode cX11_sentCost 18 = .ok (.getfield 243, 3) := by decide +kernel
theorem dX11_sentCost_21 : decode cX11_sentCost 21 = .ok (.iload_n 1, 1) := by decide +kernel
theorem dX11_sentCost_22 : decode cX11_sentCost 22 = .ok (.iaload, 1) := by decide +kernel
theorem dX11_sentCost_23 : decode cX11_sentCost 23 = .ok (.goto 4, 3) := by decide +kernel
theorem dX11_sentCost_26 : decode cX11_sentCost 26 = .ok (.iconst (-1), 1) := by decide +kernel
theorem dX11_sentCost_27 : decode cX11_sentCost 27 = .ok (.ireturn, 1) := by decide +kernel
theorem dX11_sentCount_0 : decode cX11_sentCount 0 = .ok (.aload_n 0, 1) := by decide +kernel
theorem dX11_sentCount_1 : decode cX11_sentCount 1 = .ok (.getfield 33, 3) := by decide +kernel
theorem dX11_sentCount_4 : decode cX11_sentCount 4 = .ok (.iload_n 1, 1) := by decide +kernel
theorem dX11_sentCount_5 : decode cX11_sentCount 5 = .ok (.invokevirtual 105, 3) := by decide +kernel
theorem dX11_sentCount_8 : decode cX11_sentCount 8 = .ok (.ifCond .eq 18, 3) := by decide +kernel
theorem dX11_sentCount_11 : decode cX11_sentCount 11 = .ok (.aload_n 0, 1) := by decide +kernel
theorem dX11_sentCount_12 : decode cX11_sentCount 12 = .ok (.getfield 40, 3) := by decide +kernel
theorem dX11_sentCount_15 : decode cX11_sentCount 15 = .ok (.getfield 226, 3) := by decide +kernel
theorem dX11_sentCount_18 : decode cX11_sentCount 18 = .ok (.getfield 230, 3) := by decide +kernel
theorem dX11_sentCount_21 : decode cX11_sentCount 21 = .ok (.iload_n 1, 1) := by decide +kernel
theorem dX11_sentCount_22 : decode cX11_sentCount 22 = .ok (.iaload, 1) := by decide +kernel
theorem dX11_sentCount_23 : decode cX11_sentCount 23 = .ok (.goto 4, 3) := by decide +kernel
theorem dX11_sentCount_26 : decode cX11_sentCount 26 = .ok (.iconst (-1), 1) := by decide +kernel
theorem dX11_sentCount_27 : decode cX11_sentCount 27 = .ok (.ireturn, 1) := by decide +kernel
theorem dX11_borrowedCost_0 : decode cX11_borrowedCost 0 = .ok (.aload_n 0, 1) := by decide +kernel
theorem dX11_borrowedCost_1 : decode cX11_borrowedCost 1 = .ok (.getfield 33, 3) := by decide +kernel
theorem dX11_borrowedCost_4 : decode cX11_borrowedCost 4 = .ok (.iload_n 1, 1) := by decide +kernel
theorem dX11_borrowedCost_5 : decode cX11_borrowedCost 5 = .ok (.invokevirtual 105, 3) := by decide +kernel
theorem dX11_borrowedCost_8 : decode cX11_borrowedCost 8 = .ok (.ifCond .eq 18, 3) := by decide +kernel
theorem dX11_borrowedCost_11 : decode cX11_borrowedCost 11 = .ok (.aload_n 0, 1) := by decide +kernel
theorem dX11_borrowedCost_12 : decode cX11_borrowedCost 12 = .ok (.getfield 40, 3) := by decide +kernel
theorem dX11_borrowedCost_15 : decode cX11_borrowedCost 15 = .ok (.getfield 226, 3) := by decide +kernel
theorem dX11_borrowedCost_18 : decode cX11_borrowedCost 18 = .ok (.getfield 246, 3) := by decide +kernel
theorem dX11_borrowedCost_21 : decode cX11_borrowedCost 21 = .ok (.iload_n 1, 1) := by decide +kernel
theorem dX11_borrowedCost_22 : decode cX11_borrowedCost 22 = .ok (.iaload, 1) := by decide +kernel
theorem dX11_borrowedCost_23 : decode cX11_borrowedCost 23 = .ok (.goto 4, 3) := by decide +kernel
theorem dX11_borrowedCost_26 : decode cX11_borrowedCost 26 = .ok (.iconst (-1), 1) := by decide +kernel
theorem dX11_borrowedCost_27 : decode cX11_borrowedCost 27 = .ok (.ireturn, 1) := by decide +kernel
theorem dX11_lentCost_0 : decode cX11_lentCost 0 = .ok (.aload_n 0, 1) := by decide +kernel
theorem dX11_lentCost_1 : decode cX11_lentCost 1 = .ok (.getfield 33, 3) := by decide +kernel
theorem dX11_lentCost_4 : decode cX11_lentCost 4 = .ok (.iload_n 1, 1) := by decide +kernel
theorem dX11_lentCost_5 : decode cX11_lentCost 5 = .ok (.invokevirtual 85, 3) := by decide +kernel
theorem dX11_lentCost_8 : decode cX11_lentCost 8 = .ok (.ifCond .eq 18, 3) := by decide +kernel
theorem dX11_lentCost_11 : decode cX11_lentCost 11 = .ok (.aload_n 0, 1) := by decide +kernel
theorem dX11_lentCost_12 : decode cX11_lentCost 12 = .ok (.getfield 40, 3) := by decide +kernel
theorem dX11_lentCost_15 : decode cX11_lentCost 15 = .ok (.getfield 226, 3) := by decide +kernel
theorem dX11_lentCost_18 : decode cX11_lentCost 18 = .ok (.getfield 249, 3) := by decide +kernel
theorem dX11_lentCost_21 : decode cX11_lentCost 21 = .ok (.iload_n 1, 1) := by decide +kernel
theorem dX11_lentCost_22 : decode cX11_lentCost 22 = .ok (.iaload, 1) := by decide +kernel
theorem dX11_lentCost_23 : decode cX11_lentCost 23 = .ok (.goto 4, 3) := by decide +kernel
theorem dX11_lentCost_26 : decode cX11_lentCost 26 = .ok (.iconst (-1), 1) := by decide +kernel
theorem dX11_lentCost_27 : decode cX11_lentCost 27 = .ok (.ireturn, 1) := by decide +kernel
theorem dX11_droppedCount_0 : decode cX11_droppedCount 0 = .ok (.aload_n 0, 1) := by decide +kernel
theorem dX11_droppedCount_1 : decode cX11_droppedCount 1 = .ok (.getfield 33, 3) := by decide +kernel
theorem dX11_droppedCount_4 : decode cX11_droppedCount 4 = .ok (.iload_n 1, 1) := by decide +kernel
theorem dX11_droppedCount_5 : decode cX11_droppedCount 5 = .ok (.invokevirtual 105, 3) := by decide +kernel
theorem dX11_droppedCount_8 : decode cX11_droppedCount 8 = .ok (.ifCond .eq 18, 3) := by decide +kernel
theorem dX11_droppedCount_11 : decode cX11_droppedCount 11 = .ok (.aload_n 0, 1) := by decide +kernel
theorem dX11_droppedCount_12 : decode cX11_droppedCount 12 = .ok (.getfield 40, 3) := by decide +kernel
theorem dX11_droppedCount_15 : decode cX11_droppedCount 15 = .ok (.getfield 226, 3) := by decide +kernel
theorem dX11_droppedCount_18 : decode cX11_droppedCount 18 = .ok (.getfield 252, 3) := by decide +kernel
theorem dX11_droppedCount_21 : decode cX11_droppedCount 21 = .ok (.iload_n 1, 1) := by decide +kernel
theorem dX11_droppedCount_22 : decode cX11_droppedCount 22 = .ok (.iaload, 1) := by decide +kernel
theorem dX11_droppedCount_23 : decode cX11_droppedCount 23 = .ok (.goto 4, 3) := by decide +kernel
theorem dX11_droppedCount_26 : decode cX11_droppedCount 26 = .ok (.iconst (-1), 1) := by decide +kernel
theorem dX11_droppedCount_27 : decode cX11_droppedCount 27 = .ok (.ireturn, 1) := by decide +kernel
theorem dX11_fairness_0 : decode cX11_fairness 0 = .ok (.aload_n 0, 1) := by decide +kernel
theorem dX11_fairness_1 : decode cX11_fairness 1 = .ok (.getfield 33, 3) := by decide +kernel
theorem dX11_fairness_4 : decode cX11_fairness 4 = .ok (.getfield 79, 3) := by decide +kernel
theorem dX11_fairness_7 : decode cX11_fairness 7 = .ok (.ifCond .ne 5, 3) := by decide +kernel
theorem dX11_fairness_10 : decode cX11_fairness 10 = .ok (.iconst (-1), 1) := by decide +kernel
theorem dX11_fairness_11 : decode cX11_fairness 11 = .ok (.ireturn, 1) := by decide +kernel
theorem dX11_fairness_12 : decode cX11_fairness 12 = .ok (.lconst 0, 1) := by decide +kernel
theorem dX11_fairness_13 : decode cX11_fairness 13 = .ok (.lstore_n 1, 1) := by decide +kernel
theorem dX11_fairness_14 : decode cX11_fairness 14 = .ok (.lconst 0, 1) := by decide +kernel
theorem dX11_fairness_15 : decode cX11_fairness 15 = .ok (.lstore_n 3, 1) := by decide +kernel
theorem dX11_fairness_16 : decode cX11_fairness 16 = .ok (.lconst 0, 1) := by decide +kernel
theorem dX11_fairness_17 : decode cX11_fairness 17 = .ok (.lstore 5, 2) := by decide +kernel
theorem dX11_fairness_19 : decode cX11_fairness 19 = .ok (.iconst 0, 1) := by decide +kernel
theorem dX11_fairness_20 : decode cX11_fairness 20 = .ok (.istore 7, 2) := by decide +kernel
theorem dX11_fairness_22 : decode cX11_fairness 22 = .ok (.iload 7, 2) := by decide +kernel
theorem dX11_fairness_24 : decode cX11_fairness 24 = .ok (.aload_n 0, 1) := by decide +kernel
theorem dX11_fairness_25 : decode cX11_fairness 25 = .ok (.getfield 33, 3) := by decide +kernel
theorem dX11_fairness_28 : decode cX11_fairness 28 = .ok (.getfield 79, 3) := by decide +kernel
theorem dX11_fairness_31 : decode cX11_fairness 31 = .ok (.if_icmp .ge 74, 3) := by decide +kernel
theorem dX11_fairness_34 : decode cX11_fairness 34 = .ok (.aload_n 0, 1) := by decide +kernel
theorem dX11_fairness_35 : decode cX11_fairness 35 = .ok (.getfield 33, 3) := by decide +kernel
theorem dX11_fairness_38 : decode cX11_fairness 38 = .ok (.iload 7, 2) := by decide +kernel
theorem dX11_fairness_40 : decode cX11_fairness 40 = .ok (.invokevirtual 105, 3) := by decide +kernel
theorem dX11_fairness_43 : decode cX11_fairness 43 = .ok (.ifCond .eq 56, 3) := by decide +kernel
theorem dX11_fairness_46 : decode cX11_fairness 46 = .ok (.ldc2_w 255, 3) := by decide +kernel
theorem dX11_fairness_49 : decode cX11_fairness 49 = .ok (.aload_n 0, 1) := by decide +kernel
theorem dX11_fairness_50 : decode cX11_fairness 50 = .ok (.getfield 40, 3) := by decide +kernel
theorem dX11_fairness_53 : decode cX11_fairness 53 = .ok (.getfield 226, 3) := by decide +kernel
theorem dX11_fairness_56 : decode cX11_fairness 56 = .ok (.getfield 243, 3) := by decide +kernel
theorem dX11_fairness_59 : decode cX11_fairness 59 = .ok (.iload 7, 2) := by decide +kernel
theorem dX11_fairness_61 : decode cX11_fairness 61 = .ok (.iaload, 1) := by decide +kernel
theorem dX11_fairness_62 : decode cX11_fairness 62 = .ok (.i2l, 1) := by decide +kernel
theorem dX11_fairness_63 : decode cX11_fairness 63 = .ok (.lmul, 1) := by decide +kernel
theorem dX11_fairness_64 : decode cX11_fairness 64 = .ok (.aload_n 0, 1) := by decide +kernel
theorem dX11_fairness_65 : decode cX11_fairness 65 = .ok (.getfield 40, 3) := by decide +kernel
theorem dX11_fairness_68 : decode cX11_fairness 68 = .ok (.getfield 123, 3) := by decide +kernel
theorem dX11_fairness_71 : decode cX11_fairness 71 = .ok (.iload 7, 2) := by decide +kernel
theorem dX11_fairness_73 : decode cX11_fairness 73 = .ok (.iaload, 1) := by decide +kernel
theorem dX11_fairness_74 : decode cX11_fairness 74 = .ok (.i2l, 1) := by decide +kernel
theorem dX11_fairness_75 : decode cX11_fairness 75 = .ok (.invokestatic 257, 3) := by decide +kernel
theorem dX11_fairness_78 : decode cX11_fairness 78 = .ok (.lstore 8, 2) := by decide +kernel
theorem dX11_fairness_80 : decode cX11_fairness 80 = .ok (.lload_n 1, 1) := by decide +kernel
theorem dX11_fairness_81 : decode cX11_fairness 81 = .ok (.lconst 1, 1) := by decide +kernel
theorem dX11_fairness_82 : decode cX11_fairness 82 = .ok (.ladd, 1) := by decide +kernel
theorem dX11_fairness_83 : decode cX11_fairness 83 = .ok (.lstore_n 1, 1) := by decide +kernel
theorem dX11_fairness_84 : decode cX11_fairness 84 = .ok (.lload_n 3, 1) := by decide +kernel
theorem dX11_fairness_85 : decode cX11_fairness 85 = .ok (.lload 8, 2) := by decide +kernel
theorem dX11_fairness_87 : decode cX11_fairness 87 = .ok (.ladd, 1) := by decide +kernel
theorem dX11_fairness_88 : decode cX11_fairness 88 = .ok (.lstore_n 3, 1) := by decide +kernel
theorem dX11_fairness_89 : decode cX11_fairness 89 = .ok (.lload 5, 2) := by decide +kernel
theorem dX11_fairness_91 : decode cX11_fairness 91 = .ok (.lload 8, 2) := by decide +kernel
theorem dX11_fairness_93 : decode cX11_fairness 93 = .ok (.lload 8, 2) := by decide +kernel
theorem dX11_fairness_95 : decode cX11_fairness 95 = .ok (.lmul, 1) := by decide +kernel
theorem dX11_fairness_96 : decode cX11_fairness 96 = .ok (.ladd, 1) := by decide +kernel
theorem dX11_fairness_97 : decode cX11_fairness 97 = .ok (.lstore 5, 2) := by decide +kernel
theorem dX11_fairness_99 : decode cX11_fairness 99 = .ok (.iinc 7 1, 3) := by decide +kernel
theorem dX11_fairness_102 : decode cX11_fairness 102 = .ok (.goto (-80), 3) := by decide +kernel
theorem dX11_fairness_105 : decode cX11_fairness 105 = .ok (.lload 5, 2) := by decide +kernel
theorem dX11_fairness_107 : decode cX11_fairness 107 = .ok (.lconst 0, 1) := by decide +kernel
theorem dX11_fairness_108 : decode cX11_fairness 108 = .ok (.lcmp, 1) := by decide +kernel
theorem dX11_fairness_109 : decode cX11_fairness 109 = .ok (.ifCond .ne 9, 3) := by decide +kernel
theorem dX11_fairness_112 : decode cX11_fairness 112 = .ok (.sipush 1000, 3) := by decide +kernel
theorem dX11_fairness_115 : decode cX11_fairness 115 = .ok (.goto 18, 3) := by decide +kernel
theorem dX11_fairness_118 : decode cX11_fairness 118 = .ok (.ldc2_w 261, 3) := by decide +kernel
theorem dX11_fairness_121 : decode cX11_fairness 121 = .ok (.lload_n 3, 1) := by decide +kernel
theorem dX11_fairness_122 : decode cX11_fairness 122 = .ok (.lmul, 1) := by decide +kernel
theorem dX11_fairness_123 : decode cX11_fairness 123 = .ok (.lload_n 3, 1) := by decide +kernel
theorem dX11_fairness_124 : decode cX11_fairness 124 = .ok (.lmul, 1) := by decide +kernel
theorem dX11_fairness_125 : decode cX11_fairness 125 = .ok (.lload_n 1, 1) := by decide +kernel
theorem dX11_fairness_126 : decode cX11_fairness 126 = .ok (.lload 5, 2) := by decide +kernel
theorem dX11_fairness_128 : decode cX11_fairness 128 = .ok (.lmul, 1) := by decide +kernel
theorem dX11_fairness_129 : decode cX11_fairness 129 = .ok (.invokestatic 257, 3) := by decide +kernel
theorem dX11_fairness_132 : decode cX11_fairness 132 = .ok (.l2i, 1) := by decide +kernel
theorem dX11_fairness_133 : decode cX11_fairness 133 = .ok (.ireturn, 1) := by decide +kernel
theorem dX11_fairShare_0 : decode cX11_fairShare 0 = .ok (.aload_n 0, 1) := by decide +kernel
theorem dX11_fairShare_1 : decode cX11_fairShare 1 = .ok (.getfield 33, 3) := by decide +kernel
theorem dX11_fairShare_4 : decode cX11_fairShare 4 = .ok (.iload_n 1, 1) := by decide +kernel
theorem dX11_fairShare_5 : decode cX11_fairShare 5 = .ok (.invokevirtual 105, 3) := by decide +kernel
theorem dX11_fairShare_8 : decode cX11_fairShare 8 = .ok (.ifCond .ne 5, 3) := by decide +kernel
theorem dX11_fairShare_11 : decode cX11_fairShare 11 = .ok (.iconst (-1), 1) := by decide +kernel
theorem dX11_fairShare_12 : decode cX11_fairShare 12 = .ok (.ireturn, 1) := by decide +kernel
theorem dX11_fairShare_13 : decode cX11_fairShare 13 = .ok (.lconst 0, 1) := by decide +kernel
theorem dX11_fairShare_14 : decode cX11_fairShare 14 = .ok (.lstore_n 2, 1) := by decide +kernel
theorem dX11_fairShare_15 : decode cX11_fairShare 15 = .ok (.lconst 0, 1) := by decide +kernel
theorem dX11_fairShare_16 : decode cX11_fairShare 16 = .ok (.lstore 4, 2) := by decide +kernel
theorem dX11_fairShare_18 : decode cX11_fairShare 18 = .ok (.iconst 0, 1) := by decide +kernel
theorem dX11_fairShare_19 : decode cX11_fairShare 19 = .ok (.istore 6, 2) := by decide +kernel
theorem dX11_fairShare_21 : decode cX11_fairShare 21 = .ok (.iload 6, 2) := by decide +kernel
theorem dX11_fairShare_23 : decode cX11_fairShare 23 = .ok (.aload_n 0, 1) := by decide +kernel
theorem dX11_fairShare_24 : decode cX11_fairShare 24 = .ok (.getfield 33, 3) := by decide +kernel
theorem dX11_fairShare_27 : decode cX11_fairShare 27 = .ok (.getfield 79, 3) := by decide +kernel
theorem dX11_fairShare_30 : decode cX11_fairShare 30 = .ok (.if_icmp .ge 54, 3) := by decide +kernel
theorem dX11_fairShare_33 : decode cX11_fairShare 33 = .ok (.aload_n 0, 1) := by decide +kernel
theorem dX11_fairShare_34 : decode cX11_fairShare 34 = .ok (.getfield 33, 3) := by decide +kernel
theorem dX11_fairShare_37 : decode cX11_fairShare 37 = .ok (.iload 6, 2) := by decide +kernel
theorem dX11_fairShare_39 : decode cX11_fairShare 39 = .ok (.invokevirtual 105, 3) := by decide +kernel
theorem dX11_fairShare_42 : decode cX11_fairShare 42 = .ok (.ifCond .eq 36, 3) := by decide +kernel
theorem dX11_fairShare_45 : decode cX11_fairShare 45 = .ok (.lload_n 2, 1) := by decide +kernel
theorem dX11_fairShare_46 : decode cX11_fairShare 46 = .ok (.aload_n 0, 1) := by decide +kernel
theorem dX11_fairShare_47 : decode cX11_fairShare 47 = .ok (.getfield 40, 3) := by decide +kernel
theorem dX11_fairShare_50 : decode cX11_fairShare 50 = .ok (.getfield 226, 3) := by decide +kernel
theorem dX11_fairShare_53 : decode cX11_fairShare 53 = .ok (.getfield 243, 3) := by decide +kernel
theorem dX11_fairShare_56 : decode cX11_fairShare 56 = .ok (.iload 6, 2) := by decide +kernel
theorem dX11_fairShare_58 : decode cX11_fairShare 58 = .ok (.iaload, 1) := by decide +kernel
theorem dX11_fairShare_59 : decode cX11_fairShare 59 = .ok (.i2l, 1) := by decide +kernel
theorem dX11_fairShare_60 : decode cX11_fairShare 60 = .ok (.ladd, 1) := by decide +kernel
theorem dX11_fairShare_61 : decode cX11_fairShare 61 = .ok (.lstore_n 2, 1) := by decide +kernel
theorem dX11_fairShare_62 : decode cX11_fairShare 62 = .ok (.lload 4, 2) := by decide +kernel
theorem dX11_fairShare_64 : decode cX11_fairShare 64 = .ok (.aload_n 0, 1) := by decide +kernel
theorem dX11_fairShare_65 : decode cX11_fairShare 65 = .ok (.getfield 40, 3) := by decide +kernel
theorem dX11_fairShare_68 : decode cX11_fairShare 68 = .ok (.getfield 123, 3) := by decide +kernel
theorem dX11_fairShare_71 : decode cX11_fairShare 71 = .ok (.iload 6, 2) := by decide +kernel
theorem dX11_fairShare_73 : decode cX11_fairShare 73 = .ok (.iaload, 1) := by decide +kernel
theorem dX11_fairShare_74 : decode cX11_fairShare 74 = .ok (.i2l, 1) := by decide +kernel
theorem dX11_fairShare_75 : decode cX11_fairShare 75 = .ok (.ladd, 1) := by decide +kernel
theorem dX11_fairShare_76 : decode cX11_fairShare 76 = .ok (.lstore 4, 2) := by decide +kernel
theorem dX11_fairShare_78 : decode cX11_fairShare 78 = .ok (.iinc 6 1, 3) := by decide +kernel
theorem dX11_fairShare_81 : decode cX11_fairShare 81 = .ok (.goto (-60), 3) := by decide +kernel
theorem dX11_fairShare_84 : decode cX11_fairShare 84 = .ok (.lload_n 2, 1) := by decide +kernel
theorem dX11_fairShare_85 : decode cX11_fairShare 85 = .ok (.aload_n 0, 1) := by decide +kernel
theorem dX11_fairShare_86 : decode cX11_fairShare 86 = .ok (.getfield 40, 3) := by decide +kernel
theorem dX11_fairShare_89 : decode cX11_fairShare 89 = .ok (.getfield 123, 3) := by decide +kernel
theorem dX11_fairShare_92 : decode cX11_fairShare 92 = .ok (.iload_n 1, 1) := by decide +kernel
theorem dX11_fairShare_93 : decode cX11_fairShare 93 = .ok (.iaload, 1) := by decide +kernel
theorem dX11_fairShare_94 : decode cX11_fairShare 94 = .ok (.i2l, 1) := by decide +kernel
theorem dX11_fairShare_95 : decode cX11_fairShare 95 = .ok (.lmul, 1) := by decide +kernel
theorem dX11_fairShare_96 : decode cX11_fairShare 96 = .ok (.lload 4, 2) := by decide +kernel
theorem dX11_fairShare_98 : decode cX11_fairShare 98 = .ok (.invokestatic 257, 3) := by decide +kernel
theorem dX11_fairShare_101 : decode cX11_fairShare 101 = .ok (.l2i, 1) := by decide +kernel
theorem dX11_fairShare_102 : decode cX11_fairShare 102 = .ok (.ireturn, 1) := by decide +kernel
theorem dX11_mostServed_0 : decode cX11_mostServed 0 = .ok (.bipush (-2), 2) := by decide +kernel
theorem dX11_mostServed_2 : decode cX11_mostServed 2 = .ok (.istore_n 1, 1) := by decide +kernel
theorem dX11_mostServed_3 : decode cX11_mostServed 3 = .ok (.iconst 0, 1) := by decide +kernel
theorem dX11_mostServed_4 : decode cX11_mostServed 4 = .ok (.istore_n 2, 1) := by decide +kernel
theorem dX11_mostServed_5 : decode cX11_mostServed 5 = .ok (.iload_n 2, 1) := by decide +kernel
theorem dX11_mostServed_6 : decode cX11_mostServed 6 = .ok (.aload_n 0, 1) := by decide +kernel
theorem dX11_mostServed_7 : decode cX11_mostServed 7 = .ok (.getfield 33, 3) := by decide +kernel
theorem dX11_mostServed_10 : decode cX11_mostServed 10 = .ok (.getfield 79, 3) := by decide +kernel
theorem dX11_mostServed_13 : decode cX11_mostServed 13 = .ok (.if_icmp .ge 40, 3) := by decide +kernel
theorem dX11_mostServed_16 : decode cX11_mostServed 16 = .ok (.aload_n 0, 1) := by decide +kernel
theorem dX11_mostServed_17 : decode cX11_mostServed 17 = .ok (.getfield 33, 3) := by decide +kernel
theorem dX11_mostServed_20 : decode cX11_mostServed 20 = .ok (.iload_n 2, 1) := by decide +kernel
theorem dX11_mostServed_21 : decode cX11_mostServed 21 = .ok (.invokevirtual 105, 3) := by decide +kernel
theorem dX11_mostServed_24 : decode cX11_mostServed 24 = .ok (.ifCond .eq 23, 3) := by decide +kernel
theorem dX11_mostServed_27 : decode cX11_mostServed 27 = .ok (.iload_n 1, 1) := by decide +kernel
theorem dX11_mostServed_28 : decode cX11_mostServed 28 = .ok (.bipush (-2), 2) := by decide +kernel
theorem dX11_mostServed_30 : decode cX11_mostServed 30 = .ok (.if_icmp .eq 15, 3) := by decide +kernel
theorem dX11_mostServed_33 : decode cX11_mostServed 33 = .ok (.aload_n 0, 1) := by decide +kernel
theorem dX11_mostServed_34 : decode cX11_mostServed 34 = .ok (.getfield 40, 3) := by decide +kernel
theorem dX11_mostServed_37 : decode cX11_mostServed 37 = .ok (.iload_n 2, 1) := by decide +kernel
theorem dX11_mostServed_38 : decode cX11_mostServed 38 = .ok (.iload_n 1, 1) := by decide +kernel
theorem dX11_mostServed_39 : decode cX11_mostServed 39 = .ok (.invokevirtual 263, 3) := by decide +kernel
theorem dX11_mostServed_42 : decode cX11_mostServed 42 = .ok (.ifCond .le 5, 3) := by decide +kernel
theorem dX11_mostServed_45 : decode cX11_mostServed 45 = .ok (.iload_n 2, 1) := by decide +kernel
theorem dX11_mostServed_46 : decode cX11_mostServed 46 = .ok (.istore_n 1, 1) := by decide +kernel
theorem dX11_mostServed_47 : decode cX11_mostServed 47 = .ok (.iinc 2 1, 3) := by decide +kernel
theorem dX11_mostServed_50 : decode cX11_mostServed 50 = .ok (.goto (-45), 3) := by decide +kernel
theorem dX11_mostServed_53 : decode cX11_mostServed 53 = .ok (.iload_n 1, 1) := by decide +kernel
theorem dX11_mostServed_54 : decode cX11_mostServed 54 = .ok (.ireturn, 1) := by decide +kernel
theorem dX11_busiestCost_0 : decode cX11_busiestCost 0 = .ok (.iload_n 1, 1) := by decide +kernel
theorem dX11_busiestCost_1 : decode cX11_busiestCost 1 = .ok (.iconst 1, 1) := by decide +kernel
theorem dX11_busiestCost_2 : decode cX11_busiestCost 2 = .ok (.if_icmp .ge 7, 3) := by decide +kernel
theorem dX11_busiestCost_5 : decode cX11_busiestCost 5 = .ok (.iconst (-1), 1) := by decide +kernel
theorem dX11_busiestCost_6 : decode cX11_busiestCost 6 = .ok (.goto 14, 3) := by decide +kernel
theorem dX11_busiestCost_9 : decode cX11_busiestCost 9 = .ok (.aload_n 0, 1) := by decide +kernel
theorem dX11_busiestCost_10 : decode cX11_busiestCost 10 = .ok (.getfield 40, 3) := by decide +kernel
theorem dX11_busiestCost_13 : decode cX11_busiestCost 13 = .ok (.getfield 266, 3) := by decide +kernel
theorem dX11_busiestCost_16 : decode cX11_busiestCost 16 = .ok (.iload_n 1, 1) := by decide +kernel
theorem dX11_busiestCost_17 : decode cX11_busiestCost 17 = .ok (.invokevirtual 270, 3) := by decide +kernel
theorem dX11_busiestCost_20 : decode cX11_busiestCost 20 = .ok (.ireturn, 1) := by decide +kernel
theorem dX11_logCount_0 : decode cX11_logCount 0 = .ok (.aload_n 0, 1) := by decide +kernel
theorem dX11_logCount_1 : decode cX11_logCount 1 = .ok (.getfield 40, 3) := by decide +kernel
theorem dX11_logCount_4 : decode cX11_logCount 4 = .ok (.getfield 266, 3) := by decide +kernel
theorem dX11_logCount_7 : decode cX11_logCount 7 = .ok (.getfield 275, 3) := by decide +kernel
theorem dX11_logCount_10 : decode cX11_logCount 10 = .ok (.ireturn, 1) := by decide +kernel
theorem dX11_loggedLeaf_0 : decode cX11_loggedLeaf 0 = .ok (.aload_n 0, 1) := by decide +kernel
theorem dX11_loggedLeaf_1 : decode cX11_loggedLeaf 1 = .ok (.iload_n 1, 1) := by decide +kernel
theorem dX11_loggedLeaf_2 : decode cX11_loggedLeaf 2 = .ok (.invokevirtual 278, 3) := by decide +kernel
theorem dX11_loggedLeaf_5 : decode cX11_loggedLeaf 5 = .ok (.istore_n 2, 1) := by decide +kernel
theorem dX11_loggedLeaf_6 : decode cX11_loggedLeaf 6 = .ok (.iload_n 2, 1) := by decide +kernel
theorem dX11_loggedLeaf_7 : decode cX11_loggedLeaf 7 = .ok (.ifCond .ge 7, 3) := by decide +kernel
theorem dX11_loggedLeaf_10 : decode cX11_loggedLeaf 10 = .ok (.iload_n 2, 1) := by decide +kernel
theorem dX11_loggedLeaf_11 : decode cX11_loggedLeaf 11 = .ok (.goto 15, 3) := by decide +kernel
theorem dX11_loggedLeaf_14 : decode cX11_loggedLeaf 14 = .ok (.aload_n 0, 1) := by decide +kernel
theorem dX11_loggedLeaf_15 : decode cX11_loggedLeaf 15 = .ok (.getfield 40, 3) := by decide +kernel
theorem dX11_loggedLeaf_18 : decode cX11_loggedLeaf 18 = .ok (.getfield 266, 3) := by decide +kernel
theorem dX11_loggedLeaf_21 : decode cX11_loggedLeaf 21 = .ok (.getfield 281, 3) := by decide +kernel
theorem dX11_loggedLeaf_24 : decode cX11_loggedLeaf 24 = .ok (.iload_n 2, 1) := by decide +kernel
theorem dX11_loggedLeaf_25 : decode cX11_loggedLeaf 25 = .ok (.iaload, 1) := by decide +kernel
theorem dX11_loggedLeaf_26 : decode cX11_loggedLeaf 26 = .ok (.ireturn, 1) := by decide +kernel
theorem dX11_loggedCost_0 : decode cX11_loggedCost 0 = .ok (.aload_n 0, 1) := by decide +kernel
theorem dX11_loggedCost_1 : decode cX11_loggedCost 1 = .ok (.iload_n 1, 1) := by decide +kernel
theorem dX11_loggedCost_2 : decode cX11_loggedCost 2 = .ok (.invokevirtual 278, 3) := by decide +kernel
theorem dX11_loggedCost_5 : decode cX11_loggedCost 5 = .ok (.istore_n 2, 1) := by decide +kernel
theorem dX11_loggedCost_6 : decode cX11_loggedCost 6 = .ok (.iload_n 2, 1) := by decide +kernel
theorem dX11_loggedCost_7 : decode cX11_loggedCost 7 = .ok (.ifCond .ge 7, 3) := by decide +kernel
theorem dX11_loggedCost_10 : decode cX11_loggedCost 10 = .ok (.iload_n 2, 1) := by decide +kernel
theorem dX11_loggedCost_11 : decode cX11_loggedCost 11 = .ok (.goto 15, 3) := by decide +kernel
theorem dX11_loggedCost_14 : decode cX11_loggedCost 14 = .ok (.aload_n 0, 1) := by decide +kernel
theorem dX11_loggedCost_15 : decode cX11_loggedCost 15 = .ok (.getfield 40, 3) := by decide +kernel
theorem dX11_loggedCost_18 : decode cX11_loggedCost 18 = .ok (.getfield 266, 3) := by decide +kernel
theorem dX11_loggedCost_21 : decode cX11_loggedCost 21 = .ok (.getfield 284, 3) := by decide +kernel
theorem dX11_loggedCost_24 : decode cX11_loggedCost 24 = .ok (.iload_n 2, 1) := by decide +kernel
theorem dX11_loggedCost_25 : decode cX11_loggedCost 25 = .ok (.iaload, 1) := by decide +kernel
theorem dX11_loggedCost_26 : decode cX11_loggedCost 26 = .ok (.ireturn, 1) := by decide +kernel
theorem dX11_loggedLender_0 : decode cX11_loggedLender 0 = .ok (.aload_n 0, 1) := by decide +kernel
theorem dX11_loggedLender_1 : decode cX11_loggedLender 1 = .ok (.iload_n 1, 1) := by decide +kernel
theorem dX11_loggedLender_2 : decode cX11_loggedLender 2 = .ok (.invokevirtual 278, 3) := by decide +kernel
theorem dX11_loggedLender_5 : decode cX11_loggedLender 5 = .ok (.istore_n 2, 1) := by decide +kernel
theorem dX11_loggedLender_6 : decode cX11_loggedLender 6 = .ok (.iload_n 2, 1) := by decide +kernel
theorem dX11_loggedLender_7 : decode cX11_loggedLender 7 = .ok (.ifCond .ge 7, 3) := by decide +kernel
theorem dX11_loggedLender_10 : decode cX11_loggedLender 10 = .ok (.iload_n 2, 1) := by decide +kernel
theorem dX11_loggedLender_11 : decode cX11_loggedLender 11 = .ok (.goto 15, 3) := by decide +kernel
theorem dX11_loggedLender_14 : decode cX11_loggedLender 14 = .ok (.aload_n 0, 1) := by decide +kernel
theorem dX11_loggedLender_15 : decode cX11_loggedLender 15 = .ok (.getfield 40, 3) := by decide +kernel
theorem dX11_loggedLender_18 : decode cX11_loggedLender 18 = .ok (.getfield 266, 3) := by decide +kernel
theorem dX11_loggedLender_21 : decode cX11_loggedLender 21 = .ok (.getfield 285, 3) := by decide +kernel
theorem dX11_loggedLender_24 : decode cX11_loggedLender 24 = .ok (.iload_n 2, 1) := by decide +kernel
theorem dX11_loggedLender_25 : decode cX11_loggedLender 25 = .ok (.iaload, 1) := by decide +kernel
theorem dX11_loggedLender_26 : decode cX11_loggedLender 26 = .ok (.ireturn, 1) := by decide +kernel
theorem dX11_loggedTime_0 : decode cX11_loggedTime 0 = .ok (.aload_n 0, 1) := by decide +kernel
theorem dX11_loggedTime_1 : decode cX11_loggedTime 1 = .ok (.iload_n 1, 1) := by decide +kernel
theorem dX11_loggedTime_2 : decode cX11_loggedTime 2 = .ok (.invokevirtual 278, 3) := by decide +kernel
theorem dX11_loggedTime_5 : decode cX11_loggedTime 5 = .ok (.istore_n 2, 1) := by decide +kernel
theorem dX11_loggedTime_6 : decode cX11_loggedTime 6 = .ok (.iload_n 2, 1) := by decide +kernel
theorem dX11_loggedTime_7 : decode cX11_loggedTime 7 = .ok (.ifCond .ge 7, 3) := by decide +kernel
theorem dX11_loggedTime_10 : decode cX11_loggedTime 10 = .ok (.iload_n 2, 1) := by decide +kernel
theorem dX11_loggedTime_11 : decode cX11_loggedTime 11 = .ok (.goto 15, 3) := by decide +kernel
theorem dX11_loggedTime_14 : decode cX11_loggedTime 14 = .ok (.aload_n 0, 1) := by decide +kernel
theorem dX11_loggedTime_15 : decode cX11_loggedTime 15 = .ok (.getfield 40, 3) := by decide +kernel
theorem dX11_loggedTime_18 : decode cX11_loggedTime 18 = .ok (.getfield 266, 3) := by decide +kernel
theorem dX11_loggedTime_21 : decode cX11_loggedTime 21 = .ok (.getfield 288, 3) := by decide +kernel
theorem dX11_loggedTime_24 : decode cX11_loggedTime 24 = .ok (.iload_n 2, 1) := by decide +kernel
theorem dX11_loggedTime_25 : decode cX11_loggedTime 25 = .ok (.iaload, 1) := by decide +kernel
theorem dX11_loggedTime_26 : decode cX11_loggedTime 26 = .ok (.ireturn, 1) := by decide +kernel
theorem dX11_recentCost_0 : decode cX11_recentCost 0 = .ok (.iload_n 1, 1) := by decide +kernel
theorem dX11_recentCost_1 : decode cX11_recentCost 1 = .ok (.iconst 1, 1) := by decide +kernel
theorem dX11_recentCost_2 : decode cX11_recentCost 2 = .ok (.if_icmp .ge 7, 3) := by decide +kernel
theorem dX11_recentCost_5 : decode cX11_recentCost 5 = .ok (.iconst (-1), 1) := by decide +kernel
theorem dX11_recentCost_6 : decode cX11_recentCost 6 = .ok (.goto 21, 3) := by decide +kernel
theorem dX11_recentCost_9 : decode cX11_recentCost 9 = .ok (.aload_n 0, 1) := by decide +kernel
theorem dX11_recentCost_10 : decode cX11_recentCost 10 = .ok (.getfield 40, 3) := by decide +kernel
theorem dX11_recentCost_13 : decode cX11_recentCost 13 = .ok (.getfield 266, 3) := by decide +kernel
theorem dX11_recentCost_16 : decode cX11_recentCost 16 = .ok (.aload_n 0, 1) := by decide +kernel
theorem dX11_recentCost_17 : decode cX11_recentCost 17 = .ok (.getfield 40, 3) := by decide +kernel
theorem dX11_recentCost_20 : decode cX11_recentCost 20 = .ok (.getfield 140, 3) := by decide +kernel
theorem dX11_recentCost_23 : decode cX11_recentCost 23 = .ok (.iload_n 1, 1) := by decide +kernel
theorem dX11_recentCost_24 : decode cX11_recentCost 24 = .ok (.invokevirtual 290, 3) := by decide +kernel
theorem dX11_recentCost_27 : decode cX11_recentCost 27 = .ok (.ireturn, 1) := by decide +kernel
theorem dX11_setupLength_0 : decode cX11_setupLength 0 = .ok (.aload_n 0, 1) := by decide +kernel
theorem dX11_setupLength_1 : decode cX11_setupLength 1 = .ok (.getfield 26, 3) := by decide +kernel
theorem dX11_setupLength_4 : decode cX11_setupLength 4 = .ok (.aload_n 0, 1) := by decide +kernel
theorem dX11_setupLength_5 : decode cX11_setupLength 5 = .ok (.getfield 33, 3) := by decide +kernel
theorem dX11_setupLength_8 : decode cX11_setupLength 8 = .ok (.aload_n 0, 1) := by decide +kernel
theorem dX11_setupLength_9 : decode cX11_setupLength 9 = .ok (.getfield 40, 3) := by decide +kernel
theorem dX11_setupLength_12 : decode cX11_setupLength 12 = .ok (.bipush (-2), 2) := by decide +kernel
theorem dX11_setupLength_14 : decode cX11_setupLength 14 = .ok (.invokevirtual 293, 3) := by decide +kernel
theorem dX11_setupLength_17 : decode cX11_setupLength 17 = .ok (.aload_n 0, 1) := by decide +kernel
theorem dX11_setupLength_18 : decode cX11_setupLength 18 = .ok (.getfield 26, 3) := by decide +kernel
theorem dX11_setupLength_21 : decode cX11_setupLength 21 = .ok (.getfield 297, 3) := by decide +kernel
theorem dX11_setupLength_24 : decode cX11_setupLength 24 = .ok (.ireturn, 1) := by decide +kernel
theorem dX11_setupByte_0 : decode cX11_setupByte 0 = .ok (.iload_n 1, 1) := by decide +kernel
theorem dX11_setupByte_1 : decode cX11_setupByte 1 = .ok (.ifCond .ge 5, 3) := by decide +kernel
theorem dX11_setupByte_4 : decode cX11_setupByte 4 = .ok (.iconst (-1), 1) := by decide +kernel
theorem dX11_setupByte_5 : decode cX11_setupByte 5 = .ok (.ireturn, 1) := by decide +kernel
theorem dX11_setupByte_6 : decode cX11_setupByte 6 = .ok (.aload_n 0, 1) := by decide +kernel
theorem dX11_setupByte_7 : decode cX11_setupByte 7 = .ok (.getfield 26, 3) := by decide +kernel
theorem dX11_setupByte_10 : decode cX11_setupByte 10 = .ok (.aload_n 0, 1) := by decide +kernel
theorem dX11_setupByte_11 : decode cX11_setupByte 11 = .ok (.getfield 33, 3) := by decide +kernel
theorem dX11_setupByte_14 : decode cX11_setupByte 14 = .ok (.aload_n 0, 1) := by decide +kernel
theorem dX11_setupByte_15 : decode cX11_setupByte 15 = .ok (.getfield 40, 3) := by decide +kernel
theorem dX11_setupByte_18 : decode cX11_setupByte 18 = .ok (.iload_n 1, 1) := by decide +kernel
theorem dX11_setupByte_19 : decode cX11_setupByte 19 = .ok (.invokevirtual 293, 3) := by decide +kernel
theorem dX11_setupByte_22 : decode cX11_setupByte 22 = .ok (.aload_n 0, 1) := by decide +kernel
theorem dX11_setupByte_23 : decode cX11_setupByte 23 = .ok (.getfield 26, 3) := by decide +kernel
theorem dX11_setupByte_26 : decode cX11_setupByte 26 = .ok (.getfield 298, 3) := by decide +kernel
theorem dX11_setupByte_29 : decode cX11_setupByte 29 = .ok (.ireturn, 1) := by decide +kernel
theorem dX11_setRate_0 : decode cX11_setRate 0 = .ok (.aload_n 0, 1) := by decide +kernel
theorem dX11_setRate_1 : decode cX11_setRate 1 = .ok (.iload_n 1, 1) := by decide +kernel
theorem dX11_setRate_2 : decode cX11_setRate 2 = .ok (.iconst 0, 1) := by decide +kernel
theorem dX11_setRate_3 : decode cX11_setRate 3 = .ok (.iload_n 2, 1) := by decide +kernel
theorem dX11_setRate_4 : decode cX11_setRate 4 = .ok (.invokevirtual 301, 3) := by decide +kernel
theorem dX11_setRate_7 : decode cX11_setRate 7 = .ok (.ireturn, 1) := by decide +kernel
theorem dX11_setCeiling_0 : decode cX11_setCeiling 0 = .ok (.aload_n 0, 1) := by decide +kernel
theorem dX11_setCeiling_1 : decode cX11_setCeiling 1 = .ok (.iload_n 1, 1) := by decide +kernel
theorem dX11_setCeiling_2 : decode cX11_setCeiling 2 = .ok (.iconst 1, 1) := by decide +kernel
theorem dX11_setCeiling_3 : decode cX11_setCeiling 3 = .ok (.iload_n 2, 1) := by decide +kernel
theorem dX11_setCeiling_4 : decode cX11_setCeiling 4 = .ok (.invokevirtual 301, 3) := by decide +kernel
theorem dX11_setCeiling_7 : decode cX11_setCeiling 7 = .ok (.ireturn, 1) := by decide +kernel
theorem dX11_setWeight_0 : decode cX11_setWeight 0 = .ok (.aload_n 0, 1) := by decide +kernel
theorem dX11_setWeight_1 : decode cX11_setWeight 1 = .ok (.iload_n 1, 1) := by decide +kernel
theorem dX11_setWeight_2 : decode cX11_setWeight 2 = .ok (.iconst 4, 1) := by decide +kernel
theorem dX11_setWeight_3 : decode cX11_setWeight 3 = .ok (.iload_n 2, 1) := by decide +kernel
theorem dX11_setWeight_4 : decode cX11_setWeight 4 = .ok (.invokevirtual 301, 3) := by decide +kernel
theorem dX11_setWeight_7 : decode cX11_setWeight 7 = .ok (.ireturn, 1) := by decide +kernel
theorem dX11_clearQueue_0 : decode cX11_clearQueue 0 = .ok (.aload_n 0, 1) := by decide +kernel
theorem dX11_clearQueue_1 : decode cX11_clearQueue 1 = .ok (.getfield 33, 3) := by decide +kernel
theorem dX11_clearQueue_4 : decode cX11_clearQueue 4 = .ok (.iload_n 1, 1) := by decide +kernel
theorem dX11_clearQueue_5 : decode cX11_clearQueue 5 = .ok (.invokevirtual 105, 3) := by decide +kernel
theorem dX11_clearQueue_8 : decode cX11_clearQueue 8 = .ok (.ifCond .ne 5, 3) := by decide +kernel
theorem dX11_clearQueue_11 : decode cX11_clearQueue 11 = .ok (.iconst (-1), 1) := by decide +kernel
theorem dX11_clearQueue_12 : decode cX11_clearQueue 12 = .ok (.ireturn, 1) := by decide +kernel
theorem dX11_clearQueue_13 : decode cX11_clearQueue 13 = .ok (.aload_n 0, 1) := by decide +kernel
theorem dX11_clearQueue_14 : decode cX11_clearQueue 14 = .ok (.getfield 40, 3) := by decide +kernel
theorem dX11_clearQueue_17 : decode cX11_clearQueue 17 = .ok (.getfield 189, 3) := by decide +kernel
theorem dX11_clearQueue_20 : decode cX11_clearQueue 20 = .ok (.getfield 193, 3) := by decide +kernel
theorem dX11_clearQueue_23 : decode cX11_clearQueue 23 = .ok (.iload_n 1, 1) := by decide +kernel
theorem dX11_clearQueue_24 : decode cX11_clearQueue 24 = .ok (.iaload, 1) := by decide +kernel
theorem dX11_clearQueue_25 : decode cX11_clearQueue 25 = .ok (.istore_n 2, 1) := by decide +kernel
theorem dX11_clearQueue_26 : decode cX11_clearQueue 26 = .ok (.aload_n 0, 1) := by decide +kernel
theorem dX11_clearQueue_27 : decode cX11_clearQueue 27 = .ok (.getfield 40, 3) := by decide +kernel
theorem dX11_clearQueue_30 : decode cX11_clearQueue 30 = .ok (.getfield 189, 3) := by decide +kernel
theorem dX11_clearQueue_33 : decode cX11_clearQueue 33 = .ok (.getfield 193, 3) := by decide +kernel
theorem dX11_clearQueue_36 : decode cX11_clearQueue 36 = .ok (.iload_n 1, 1) := by decide +kernel
theorem dX11_clearQueue_37 : decode cX11_clearQueue 37 = .ok (.iconst 0, 1) := by decide +kernel
theorem dX11_clearQueue_38 : decode cX11_clearQueue 38 = .ok (.iastore, 1) := by decide +kernel
theorem dX11_clearQueue_39 : decode cX11_clearQueue 39 = .ok (.iload_n 2, 1) := by decide +kernel
theorem dX11_clearQueue_40 : decode cX11_clearQueue 40 = .ok (.ireturn, 1) := by decide +kernel
theorem dX11_save_0 : decode cX11_save 0 = .ok (.aload_n 0, 1) := by decide +kernel
theorem dX11_save_1 : decode cX11_save 1 = .ok (.iload_n 1, 1) := by decide +kernel
theorem dX11_save_2 : decode cX11_save 2 = .ok (.invokevirtual 305, 3) := by decide +kernel
theorem dX11_save_5 : decode cX11_save 5 = .ok (.astore_n 2, 1) := by decide +kernel
theorem dX11_save_6 : decode cX11_save 6 = .ok (.aload_n 2, 1) := by decide +kernel
theorem dX11_save_7 : decode cX11_save 7 = .ok (.ifnonnull 5, 3) := by decide +kernel
theorem dX11_save_10 : decode cX11_save 10 = .ok (.iconst 0, 1) := by decide +kernel
theorem dX11_save_11 : decode cX11_save 11 = .ok (.ireturn, 1) := by decide +kernel
theorem dX11_save_12 : decode cX11_save 12 = .ok (.aload_n 2, 1) := by decide +kernel
theorem dX11_save_13 : decode cX11_save 13 = .ok (.aload_n 0, 1) := by decide +kernel
theorem dX11_save_14 : decode cX11_save 14 = .ok (.getfield 40, 3) := by decide +kernel
theorem dX11_save_17 : decode cX11_save 17 = .ok (.invokevirtual 223, 3) := by decide +kernel
theorem dX11_save_20 : decode cX11_save 20 = .ok (.aload_n 2, 1) := by decide +kernel
theorem dX11_save_21 : decode cX11_save 21 = .ok (.iconst 1, 1) := by decide +kernel
theorem dX11_save_22 : decode cX11_save 22 = .ok (.putfield 75, 3) := by decide +kernel
theorem dX11_save_25 : decode cX11_save 25 = .ok (.iconst 1, 1) := by decide +kernel
theorem dX11_save_26 : decode cX11_save 26 = .ok (.ireturn, 1) := by decide +kernel
theorem dX11_restore_0 : decode cX11_restore 0 = .ok (.aload_n 0, 1) := by decide +kernel
theorem dX11_restore_1 : decode cX11_restore 1 = .ok (.iload_n 1, 1) := by decide +kernel
theorem dX11_restore_2 : decode cX11_restore 2 = .ok (.invokevirtual 305, 3) := by decide +kernel
theorem dX11_restore_5 : decode cX11_restore 5 = .ok (.astore_n 2, 1) := by decide +kernel
theorem dX11_restore_6 : decode cX11_restore 6 = .ok (.aload_n 2, 1) := by decide +kernel
theorem dX11_restore_7 : decode cX11_restore 7 = .ok (.ifnull 10, 3) := by decide +kernel
theorem dX11_restore_10 : decode cX11_restore 10 = .ok (.aload_n 2, 1) := by decide +kernel
theorem dX11_restore_11 : decode cX11_restore 11 = .ok (.getfield 75, 3) := by decide +kernel
theorem dX11_restore_14 : decode cX11_restore 14 = .ok (.ifCond .ne 5, 3) := by decide +kernel
theorem dX11_restore_17 : decode cX11_restore 17 = .ok (.iconst 0, 1) := by decide +kernel
theorem dX11_restore_18 : decode cX11_restore 18 = .ok (.ireturn, 1) := by decide +kernel
theorem dX11_restore_19 : decode cX11_restore 19 = .ok (.aload_n 0, 1) := by decide +kernel
theorem dX11_restore_20 : decode cX11_restore 20 = .ok (.getfield 40, 3) := by decide +kernel
theorem dX11_restore_23 : decode cX11_restore 23 = .ok (.aload_n 2, 1) := by decide +kernel
theorem dX11_restore_24 : decode cX11_restore 24 = .ok (.invokevirtual 223, 3) := by decide +kernel
theorem dX11_restore_27 : decode cX11_restore 27 = .ok (.iconst 1, 1) := by decide +kernel
theorem dX11_restore_28 : decode cX11_restore 28 = .ok (.ireturn, 1) := by decide +kernel
theorem dX11_isRequest_0 : decode cX11_isRequest 0 = .ok (.aload_n 0, 1) := by decide +kernel
theorem dX11_isRequest_1 : decode cX11_isRequest 1 = .ok (.getfield 33, 3) := by decide +kernel
theorem dX11_isRequest_4 : decode cX11_isRequest 4 = .ok (.iload_n 1, 1) := by decide +kernel
theorem dX11_isRequest_5 : decode cX11_isRequest 5 = .ok (.invokevirtual 105, 3) := by decide +kernel
theorem dX11_isRequest_8 : decode cX11_isRequest 8 = .ok (.ifCond .eq 18, 3) := by decide +kernel
theorem dX11_isRequest_11 : decode cX11_isRequest 11 = .ok (.iload_n 2, 1) := by decide +kernel
theorem dX11_isRequest_12 : decode cX11_isRequest 12 = .ok (.iconst 1, 1) := by decide +kernel
theorem dX11_isRequest_13 : decode cX11_isRequest 13 = .ok (.if_icmp .lt 13, 3) := by decide +kernel
theorem dX11_isRequest_16 : decode cX11_isRequest 16 = .ok (.iload_n 2, 1) := by decide +kernel
theorem dX11_isRequest_17 : decode cX11_isRequest 17 = .ok (.bipush 99, 2) := by decide +kernel
theorem dX11_isRequest_19 : decode cX11_isRequest 19 = .ok (.if_icmp .gt 7, 3) := by decide +kernel
theorem dX11_isRequest_22 : decode cX11_isRequest 22 = .ok (.iconst 1, 1) := by decide +kernel
theorem dX11_isRequest_23 : decode cX11_isRequest 23 = .ok (.goto 4, 3) := by decide +kernel
theorem dX11_isRequest_26 : decode cX11_isRequest 26 = .ok (.iconst 0, 1) := by decide +kernel
theorem dX11_isRequest_27 : decode cX11_isRequest 27 = .ok (.ireturn, 1) := by decide +kernel
theorem dX11_canAdvance_0 : decode cX11_canAdvance 0 = .ok (.aload_n 0, 1) := by decide +kernel
theorem dX11_canAdvance_1 : decode cX11_canAdvance 1 = .ok (.getfield 33, 3) := by decide +kernel
theorem dX11_canAdvance_4 : decode cX11_canAdvance 4 = .ok (.getfield 79, 3) := by decide +kernel
theorem dX11_canAdvance_7 : decode cX11_canAdvance 7 = .ok (.ifCond .le 34, 3) := by decide +kernel
theorem dX11_canAdvance_10 : decode cX11_canAdvance 10 = .ok (.iload_n 1, 1) := by decide +kernel
theorem dX11_canAdvance_11 : decode cX11_canAdvance 11 = .ok (.iconst 1, 1) := by decide +kernel
theorem dX11_canAdvance_12 : decode cX11_canAdvance 12 = .ok (.if_icmp .lt 29, 3) := by decide +kernel
theorem dX11_canAdvance_15 : decode cX11_canAdvance 15 = .ok (.iload_n 1, 1) := by decide +kernel
theorem dX11_canAdvance_16 : decode cX11_canAdvance 16 = .ok (.sipush 500, 3) := by decide +kernel
theorem dX11_canAdvance_19 : decode cX11_canAdvance 19 = .ok (.if_icmp .gt 22, 3) := by decide +kernel
theorem dX11_canAdvance_22 : decode cX11_canAdvance 22 = .ok (.aload_n 0, 1) := by decide +kernel
theorem dX11_canAdvance_23 : decode cX11_canAdvance 23 = .ok (.getfield 40, 3) := by decide +kernel
theorem dX11_canAdvance_26 : decode cX11_canAdvance 26 = .ok (.getfield 140, 3) := by decide +kernel
theorem dX11_canAdvance_29 : decode cX11_canAdvance 29 = .ok (.iload_n 1, 1) := by decide +kernel
theorem dX11_canAdvance_30 : decode cX11_canAdvance 30 = .ok (.iadd, 1) := by decide +kernel
theorem dX11_canAdvance_31 : decode cX11_canAdvance 31 = .ok (.sipush 5000, 3) := by decide +kernel
theorem dX11_canAdvance_34 : decode cX11_canAdvance 34 = .ok (.if_icmp .gt 7, 3) := by decide +kernel
theorem dX11_canAdvance_37 : decode cX11_canAdvance 37 = .ok (.iconst 1, 1) := by decide +kernel
theorem dX11_canAdvance_38 : decode cX11_canAdvance 38 = .ok (.goto 4, 3) := by decide +kernel
theorem dX11_canAdvance_41 : decode cX11_canAdvance 41 = .ok (.iconst 0, 1) := by decide +kernel
theorem dX11_canAdvance_42 : decode cX11_canAdvance 42 = .ok (.ireturn, 1) := by decide +kernel
theorem dX11_queueEntry_0 : decode cX11_queueEntry 0 = .ok (.aload_n 0, 1) := by decide +kernel
theorem dX11_queueEntry_1 : decode cX11_queueEntry 1 = .ok (.getfield 33, 3) := by decide +kernel
theorem dX11_queueEntry_4 : decode cX11_queueEntry 4 = .ok (.iload_n 1, 1) := by decide +kernel
theorem dX11_queueEntry_5 : decode cX11_queueEntry 5 = .ok (.invokevirtual 105, 3) := by decide +kernel
theorem dX11_queueEntry_8 : decode cX11_queueEntry 8 = .ok (.ifCond .eq 7, 3) := by decide +kernel
theorem dX11_queueEntry_11 : decode cX11_queueEntry 11 = .ok (.iload_n 2, 1) := by decide +kernel
theorem dX11_queueEntry_12 : decode cX11_queueEntry 12 = .ok (.ifCond .ge 5, 3) := by decide +kernel
theorem dX11_queueEntry_15 : decode cX11_queueEntry 15 = .ok (.iconst (-1), 1) := by decide +kernel
theorem dX11_queueEntry_16 : decode cX11_queueEntry 16 = .ok (.ireturn, 1) := by decide +kernel
theorem dX11_queueEntry_17 : decode cX11_queueEntry 17 = .ok (.iload_n 2, 1) := by decide +kernel
theorem dX11_queueEntry_18 : decode cX11_queueEntry 18 = .ok (.aload_n 0, 1) := by decide +kernel
theorem dX11_queueEntry_19 : decode cX11_queueEntry 19 = .ok (.getfield 40, 3) := by decide +kernel
theorem dX11_queueEntry_22 : decode cX11_queueEntry 22 = .ok (.getfield 189, 3) := by decide +kernel
theorem dX11_queueEntry_25 : decode cX11_queueEntry 25 = .ok (.getfield 193, 3) := by decide +kernel
theorem dX11_queueEntry_28 : decode cX11_queueEntry 28 = .ok (.iload_n 1, 1) := by decide +kernel
theorem dX11_queueEntry_29 : decode cX11_queueEntry 29 = .ok (.iaload, 1) := by decide +kernel
theorem dX11_queueEntry_30 : decode cX11_queueEntry 30 = .ok (.if_icmp .ge 12, 3) := by decide +kernel
theorem dX11_queueEntry_33 : decode cX11_queueEntry 33 = .ok (.iload_n 1, 1) := by decide +kernel
theorem dX11_queueEntry_34 : decode cX11_queueEntry 34 = .ok (.bipush 16, 2) := by decide +kernel
theorem dX11_queueEntry_36 : decode cX11_queueEntry 36 = .ok (.imul, 1) := by decide +kernel
theorem dX11_queueEntry_37 : decode cX11_queueEntry 37 = .ok (.iload_n 2, 1) := by decide +kernel
theorem dX11_queueEntry_38 : decode cX11_queueEntry 38 = .ok (.iadd, 1) := by decide +kernel
theorem dX11_queueEntry_39 : decode cX11_queueEntry 39 = .ok (.goto 5, 3) := by decide +kernel
theorem dX11_queueEntry_42 : decode cX11_queueEntry 42 = .ok (.bipush (-2), 2) := by decide +kernel
theorem dX11_queueEntry_44 : decode cX11_queueEntry 44 = .ok (.ireturn, 1) := by decide +kernel
theorem dX11_logEntry_0 : decode cX11_logEntry 0 = .ok (.iload_n 1, 1) := by decide +kernel
theorem dX11_logEntry_1 : decode cX11_logEntry 1 = .ok (.ifCond .ge 5, 3) := by decide +kernel
theorem dX11_logEntry_4 : decode cX11_logEntry 4 = .ok (.iconst (-1), 1) := by decide +kernel
theorem dX11_logEntry_5 : decode cX11_logEntry 5 = .ok (.ireturn, 1) := by decide +kernel
theorem dX11_logEntry_6 : decode cX11_logEntry 6 = .ok (.iload_n 1, 1) := by decide +kernel
theorem dX11_logEntry_7 : decode cX11_logEntry 7 = .ok (.aload_n 0, 1) := by decide +kernel
theorem dX11_logEntry_8 : decode cX11_logEntry 8 = .ok (.getfield 40, 3) := by decide +kernel
theorem dX11_logEntry_11 : decode cX11_logEntry 11 = .ok (.getfield 266, 3) := by decide +kernel
theorem dX11_logEntry_14 : decode cX11_logEntry 14 = .ok (.getfield 275, 3) := by decide +kernel
theorem dX11_logEntry_17 : decode cX11_logEntry 17 = .ok (.if_icmp .ge 7, 3) := by decide +kernel
theorem dX11_logEntry_20 : decode cX11_logEntry 20 = .ok (.iload_n 1, 1) := by decide +kernel
theorem dX11_logEntry_21 : decode cX11_logEntry 21 = .ok (.goto 5, 3) := by decide +kernel
theorem dX11_logEntry_24 : decode cX11_logEntry 24 = .ok (.bipush (-2), 2) := by decide +kernel
theorem dX11_logEntry_26 : decode cX11_logEntry 26 = .ok (.ireturn, 1) := by decide +kernel
theorem dX11_change_0 : decode cX11_change 0 = .ok (.aload_n 0, 1) := by decide +kernel
theorem dX11_change_1 : decode cX11_change 1 = .ok (.getfield 33, 3) := by decide +kernel
theorem dX11_change_4 : decode cX11_change 4 = .ok (.iload_n 1, 1) := by decide +kernel
theorem dX11_change_5 : decode cX11_change 5 = .ok (.invokevirtual 85, 3) := by decide +kernel
theorem dX11_change_8 : decode cX11_change 8 = .ok (.ifCond .eq 11, 3) := by decide +kernel
theorem dX11_change_11 : decode cX11_change 11 = .ok (.iload_n 2, 1) := by decide +kernel
theorem dX11_change_12 : decode cX11_change 12 = .ok (.iload_n 3, 1) := by decide +kernel
theorem dX11_change_13 : decode cX11_change 13 = .ok (.invokestatic 309, 3) := by decide +kernel
theorem dX11_change_16 : decode cX11_change 16 = .ok (.ifCond .ne 5, 3) := by decide +kernel
theorem dX11_change_19 : decode cX11_change 19 = .ok (.iconst (-1), 1) := by decide +kernel
theorem dX11_change_20 : decode cX11_change 20 = .ok (.ireturn, 1) := by decide +kernel
theorem dX11_change_21 : decode cX11_change 21 = .ok (.aload_n 0, 1) := by decide +kernel
theorem dX11_change_22 : decode cX11_change 22 = .ok (.getfield 40, 3) := by decide +kernel
theorem dX11_change_25 : decode cX11_change 25 = .ok (.iload_n 2, 1) := by decide +kernel
theorem dX11_change_26 : decode cX11_change 26 = .ok (.invokevirtual 312, 3) := by decide +kernel
theorem dX11_change_29 : decode cX11_change 29 = .ok (.astore 4, 2) := by decide +kernel
theorem dX11_change_31 : decode cX11_change 31 = .ok (.aload 4, 2) := by decide +kernel
theorem dX11_change_33 : decode cX11_change 33 = .ok (.iload_n 1, 1) := by decide +kernel
theorem dX11_change_34 : decode cX11_change 34 = .ok (.iaload, 1) := by decide +kernel
theorem dX11_change_35 : decode cX11_change 35 = .ok (.istore 5, 2) := by decide +kernel
theorem dX11_change_37 : decode cX11_change 37 = .ok (.aload 4, 2) := by decide +kernel
theorem dX11_change_39 : decode cX11_change 39 = .ok (.iload_n 1, 1) := by decide +kernel
theorem dX11_change_40 : decode cX11_change 40 = .ok (.iload_n 3, 1) := by decide +kernel
theorem dX11_change_41 : decode cX11_change 41 = .ok (.iastore, 1) := by decide +kernel
theorem dX11_change_42 : decode cX11_change 42 = .ok (.iload 5, 2) := by decide +kernel
theorem dX11_change_44 : decode cX11_change 44 = .ok (.ireturn, 1) := by decide +kernel
theorem dX11_snapshotAt_0 : decode cX11_snapshotAt 0 = .ok (.iload_n 1, 1) := by decide +kernel
theorem dX11_snapshotAt_1 : decode cX11_snapshotAt 1 = .ok (.lookupswitch 37 #[(0, 27), (1, 32)], 27) := by decide +kernel
theorem dX11_snapshotAt_28 : decode cX11_snapshotAt 28 = .ok (.aload_n 0, 1) := by decide +kernel
theorem dX11_snapshotAt_29 : decode cX11_snapshotAt 29 = .ok (.getfield 47, 3) := by decide +kernel
theorem dX11_snapshotAt_32 : decode cX11_snapshotAt 32 = .ok (.areturn, 1) := by decide +kernel
theorem dX11_snapshotAt_33 : decode cX11_snapshotAt 33 = .ok (.aload_n 0, 1) := by decide +kernel
theorem dX11_snapshotAt_34 : decode cX11_snapshotAt 34 = .ok (.getfield 50, 3) := by decide +kernel
theorem dX11_snapshotAt_37 : decode cX11_snapshotAt 37 = .ok (.areturn, 1) := by decide +kernel
theorem dX11_snapshotAt_38 : decode cX11_snapshotAt 38 = .ok (.aconst_null, 1) := by decide +kernel
theorem dX11_snapshotAt_39 : decode cX11_snapshotAt 39 = .ok (.areturn, 1) := by decide +kernel
theorem dX11_isInRange_0 : decode cX11_isInRange 0 = .ok (.iload_n 0, 1) := by decide +kernel
theorem dX11_isInRange_1 : decode cX11_isInRange 1 = .ok (.ifCond .lt 31, 3) := by decide +kernel
theorem dX11_isInRange_4 : decode cX11_isInRange 4 = .ok (.iload_n 0, 1) := by decide +kernel
theorem dX11_isInRange_5 : decode cX11_isInRange 5 = .ok (.bipush 6, 2) := by decide +kernel
theorem dX11_isInRange_7 : decode cX11_isInRange 7 = .ok (.if_icmp .ge 25, 3) := by decide +kernel
theorem dX11_isInRange_10 : decode cX11_isInRange 10 = .ok (.iload_n 1, 1) := by decide +kernel
theorem dX11_isInRange_11 : decode cX11_isInRange 11 = .ok (.getstatic 316, 3) := by decide +kernel
theorem dX11_isInRange_14 : decode cX11_isInRange 14 = .ok (.iload_n 0, 1) := by decide +kernel
theorem dX11_isInRange_15 : decode cX11_isInRange 15 = .ok (.iaload, 1) := by decide +kernel
theorem dX11_isInRange_16 : decode cX11_isInRange 16 = .ok (.if_icmp .lt 16, 3) := by decide +kernel
theorem dX11_isInRange_19 : decode cX11_isInRange 19 = .ok (.iload_n 1, 1) := by decide +kernel
theorem dX11_isInRange_20 : decode cX11_isInRange 20 = .ok (.getstatic 319, 3) := by decide +kernel
theorem dX11_isInRange_23 : decode cX11_isInRange 23 = .ok (.iload_n 0, 1) := by decide +kernel
theorem dX11_isInRange_24 : decode cX11_isInRange 24 = .ok (.iaload, 1) := by decide +kernel
theorem dX11_isInRange_25 : decode cX11_isInRange 25 = .ok (.if_icmp .gt 7, 3) := by decide +kernel
theorem dX11_isInRange_28 : decode cX11_isInRange 28 = .ok (.iconst 1, 1) := by decide +kernel
theorem dX11_isInRange_29 : decode cX11_isInRange 29 = .ok (.goto 4, 3) := by decide +kernel
theorem dX11_isInRange_32 : decode cX11_isInRange 32 = .ok (.iconst 0, 1) := by decide +kernel
theorem dX11_isInRange_33 : decode cX11_isInRange 33 = .ok (.ireturn, 1) := by decide +kernel
theorem dX11_quotient_0 : decode cX11_quotient 0 = .ok (.lload_n 2, 1) := by decide +kernel
theorem dX11_quotient_1 : decode cX11_quotient 1 = .ok (.lconst 0, 1) := by decide +kernel
theorem dX11_quotient_2 : decode cX11_quotient 2 = .ok (.lcmp, 1) := by decide +kernel
theorem dX11_quotient_3 : decode cX11_quotient 3 = .ok (.ifCond .ne 7, 3) := by decide +kernel
theorem dX11_quotient_6 : decode cX11_quotient 6 = .ok (.lconst 0, 1) := by decide +kernel
theorem dX11_quotient_7 : decode cX11_quotient 7 = .ok (.goto 6, 3) := by decide +kernel
theorem dX11_quotient_10 : decode cX11_quotient 10 = .ok (.lload_n 0, 1) := by decide +kernel
theorem dX11_quotient_11 : decode cX11_quotient 11 = .ok (.lload_n 2, 1) := by decide +kernel
theorem dX11_quotient_12 : decode cX11_quotient 12 = .ok (.ldiv, 1) := by decide +kernel
theorem dX11_quotient_13 : decode cX11_quotient 13 = .ok (.lreturn, 1) := by decide +kernel
theorem dX11_copyRow_0 : decode cX11_copyRow 0 = .ok (.aload_n 0, 1) := by decide +kernel
theorem dX11_copyRow_1 : decode cX11_copyRow 1 = .ok (.iconst 0, 1) := by decide +kernel
theorem dX11_copyRow_2 : decode cX11_copyRow 2 = .ok (.aload_n 1, 1) := by decide +kernel
theorem dX11_copyRow_3 : decode cX11_copyRow 3 = .ok (.iconst 0, 1) := by decide +kernel
theorem dX11_copyRow_4 : decode cX11_copyRow 4 = .ok (.aload_n 0, 1) := by decide +kernel
theorem dX11_copyRow_5 : decode cX11_copyRow 5 = .ok (.arraylength, 1) := by decide +kernel
theorem dX11_copyRow_6 : decode cX11_copyRow 6 = .ok (.aload_n 1, 1) := by decide +kernel
theorem dX11_copyRow_7 : decode cX11_copyRow 7 = .ok (.arraylength, 1) := by decide +kernel
theorem dX11_copyRow_8 : decode cX11_copyRow 8 = .ok (.invokestatic 235, 3) := by decide +kernel
theorem dX11_copyRow_11 : decode cX11_copyRow 11 = .ok (.invokestatic 322, 3) := by decide +kernel
theorem dX11_copyRow_14 : decode cX11_copyRow 14 = .ok (.return_, 1) := by decide +kernel
theorem dX11_clearRow_0 : decode cX11_clearRow 0 = .ok (.iconst 0, 1) := by decide +kernel
theorem dX11_clearRow_1 : decode cX11_clearRow 1 = .ok (.istore_n 1, 1) := by decide +kernel
theorem dX11_clearRow_2 : decode cX11_clearRow 2 = .ok (.iload_n 1, 1) := by decide +kernel
theorem dX11_clearRow_3 : decode cX11_clearRow 3 = .ok (.aload_n 0, 1) := by decide +kernel
theorem dX11_clearRow_4 : decode cX11_clearRow 4 = .ok (.arraylength, 1) := by decide +kernel
theorem dX11_clearRow_5 : decode cX11_clearRow 5 = .ok (.if_icmp .ge 13, 3) := by decide +kernel
theorem dX11_clearRow_8 : decode cX11_clearRow 8 = .ok (.aload_n 0, 1) := by decide +kernel
theorem dX11_clearRow_9 : decode cX11_clearRow 9 = .ok (.iload_n 1, 1) := by decide +kernel
theorem dX11_clearRow_10 : decode cX11_clearRow 10 = .ok (.iconst 0, 1) := by decide +kernel
theorem dX11_clearRow_11 : decode cX11_clearRow 11 = .ok (.iastore, 1) := by decide +kernel
theorem dX11_clearRow_12 : decode cX11_clearRow 12 = .ok (.iinc 1 1, 3) := by decide +kernel
theorem dX11_clearRow_15 : decode cX11_clearRow 15 = .ok (.goto (-13), 3) := by decide +kernel
theorem dX11_clearRow_18 : decode cX11_clearRow 18 = .ok (.return_, 1) := by decide +kernel
theorem dX11_keywordText_0 : decode cX11_keywordText 0 = .ok (.iload_n 0, 1) := by decide +kernel
theorem dX11_keywordText_1 : decode cX11_keywordText 1 = .ok (.tableswitch 111 0 11 #[63, 67, 71, 75, 79, 83, 87, 91, 95, 99, 103, 107], 63) := by decide +kernel
theorem dX11_keywordText_64 : decode cX11_keywordText 64 = .ok (.ldc_w 328, 3) := by decide +kernel
theorem dX11_keywordText_67 : decode cX11_keywordText 67 = .ok (.areturn, 1) := by decide +kernel
theorem dX11_keywordText_68 : decode cX11_keywordText 68 = .ok (.ldc_w 329, 3) := by decide +kernel
theorem dX11_keywordText_71 : decode cX11_keywordText 71 = .ok (.areturn, 1) := by decide +kernel
theorem dX11_keywordText_72 : decode cX11_keywordText 72 = .ok (.ldc_w 330, 3) := by decide +kernel
theorem dX11_keywordText_75 : decode cX11_keywordText 75 = .ok (.areturn, 1) := by decide +kernel
theorem dX11_keywordText_76 : decode cX11_keywordText 76 = .ok (.ldc_w 331, 3) := by decide +kernel
theorem dX11_keywordText_79 : decode cX11_keywordText 79 = .ok (.areturn, 1) := by decide +kernel
theorem dX11_keywordText_80 : decode cX11_keywordText 80 = .ok (.ldc_w 332, 3) := by decide +kernel
theorem dX11_keywordText_83 : decode cX11_keywordText 83 = .ok (.areturn, 1) := by decide +kernel
theorem dX11_keywordText_84 : decode cX11_keywordText 84 = .ok (.ldc_w 333, 3) := by decide +kernel
theorem dX11_keywordText_87 : decode cX11_keywordText 87 = .ok (.areturn, 1) := by decide +kernel
theorem dX11_keywordText_88 : decode cX11_keywordText 88 = .ok (.ldc_w 334, 3) := by decide +kernel
theorem dX11_keywordText_91 : decode cX11_keywordText 91 = .ok (.areturn, 1) := by decide +kernel
theorem dX11_keywordText_92 : decode cX11_keywordText 92 = .ok (.ldc_w 335, 3) := by decide +kernel
theorem dX11_keywordText_95 : decode cX11_keywordText 95 = .ok (.areturn, 1) := by decide +kernel
theorem dX11_keywordText_96 : decode cX11_keywordText 96 = .ok (.ldc_w 337, 3) := by decide +kernel
theorem dX11_keywordText_99 : decode cX11_keywordText 99 = .ok (.areturn, 1) := by decide +kernel
theorem dX11_keywordText_100 : decode cX11_keywordText 100 = .ok (.ldc_w 339, 3) := by decide +kernel
theorem dX11_keywordText_103 : decode cX11_keywordText 103 = .ok (.areturn, 1) := by decide +kernel
theorem dX11_keywordText_104 : decode cX11_keywordText 104 = .ok (.ldc_w 341, 3) := by decide +kernel
theorem dX11_keywordText_107 : decode cX11_keywordText 107 = .ok (.areturn, 1) := by decide +kernel
theorem dX11_keywordText_108 : decode cX11_keywordText 108 = .ok (.ldc_w 343, 3) := by decide +kernel
theorem dX11_keywordText_111 : decode cX11_keywordText 111 = .ok (.areturn, 1) := by decide +kernel
theorem dX11_keywordText_112 : decode cX11_keywordText 112 = .ok (.ldc_w 345, 3) := by decide +kernel
theorem dX11_keywordText_115 : decode cX11_keywordText 115 = .ok (.areturn, 1) := by decide +kernel
theorem dX11_withLetter_0 : decode cX11_withLetter 0 = .ok (.iload_n 2, 1) := by decide +kernel
theorem dX11_withLetter_1 : decode cX11_withLetter 1 = .ok (.bipush 8, 2) := by decide +kernel
theorem dX11_withLetter_3 : decode cX11_withLetter 3 = .ok (.if_icmp .ge 22, 3) := by decide +kernel
theorem dX11_withLetter_6 : decode cX11_withLetter 6 = .ok (.lload_n 0, 1) := by decide +kernel
theorem dX11_withLetter_7 : decode cX11_withLetter 7 = .ok (.iload_n 3, 1) := by decide +kernel
theorem dX11_withLetter_8 : decode cX11_withLetter 8 = .ok (.bipush 97, 2) := by decide +kernel
theorem dX11_withLetter_10 : decode cX11_withLetter 10 = .ok (.isub, 1) := by decide +kernel
theorem dX11_withLetter_11 : decode cX11_withLetter 11 = .ok (.iconst 1, 1) := by decide +kernel
theorem dX11_withLetter_12 : decode cX11_withLetter 12 = .ok (.iadd, 1) := by decide +kernel
theorem dX11_withLetter_13 : decode cX11_withLetter 13 = .ok (.i2l, 1) := by decide +kernel
theorem dX11_withLetter_14 : decode cX11_withLetter 14 = .ok (.iconst 5, 1) := by decide +kernel
theorem dX11_withLetter_15 : decode cX11_withLetter 15 = .ok (.bipush 7, 2) := by decide +kernel
theorem dX11_withLetter_17 : decode cX11_withLetter 17 = .ok (.iload_n 2, 1) := by decide +kernel
theorem dX11_withLetter_18 : decode cX11_withLetter 18 = .ok (.isub, 1) := by decide +kernel
theorem dX11_withLetter_19 : decode cX11_withLetter 19 = .ok (.imul, 1) := by decide +kernel
theorem dX11_withLetter_20 : decode cX11_withLetter 20 = .ok (.lshl, 1) := by decide +kernel
theorem dX11_withLetter_21 : decode cX11_withLetter 21 = .ok (.lor, 1) := by decide +kernel
theorem dX11_withLetter_22 : decode cX11_withLetter 22 = .ok (.goto 4, 3) := by decide +kernel
theorem dX11_withLetter_25 : decode cX11_withLetter 25 = .ok (.lload_n 0, 1) := by decide +kernel
theorem dX11_withLetter_26 : decode cX11_withLetter 26 = .ok (.lreturn, 1) := by decide +kernel
theorem dX11_letterOf_0 : decode cX11_letterOf 0 = .ok (.iload_n 2, 1) := by decide +kernel
theorem dX11_letterOf_1 : decode cX11_letterOf 1 = .ok (.bipush 8, 2) := by decide +kernel
theorem dX11_letterOf_3 : decode cX11_letterOf 3 = .ok (.if_icmp .ge 18, 3) := by decide +kernel
theorem dX11_letterOf_6 : decode cX11_letterOf 6 = .ok (.lload_n 0, 1) := by decide +kernel
theorem dX11_letterOf_7 : decode cX11_letterOf 7 = .ok (.iconst 5, 1) := by decide +kernel
theorem dX11_letterOf_8 : decode cX11_letterOf 8 = .ok (.bipush 7, 2) := by decide +kernel
theorem dX11_letterOf_10 : decode cX11_letterOf 10 = .ok (.iload_n 2, 1) := by decide +kernel
theorem dX11_letterOf_11 : decode cX11_letterOf 11 = .ok (.isub, 1) := by decide +kernel
theorem dX11_letterOf_12 : decode cX11_letterOf 12 = .ok (.imul, 1) := by decide +kernel
theorem dX11_letterOf_13 : decode cX11_letterOf 13 = .ok (.lshr, 1) := by decide +kernel
theorem dX11_letterOf_14 : decode cX11_letterOf 14 = .ok (.l2i, 1) := by decide +kernel
theorem dX11_letterOf_15 : decode cX11_letterOf 15 = .ok (.bipush 31, 2) := by decide +kernel
theorem dX11_letterOf_17 : decode cX11_letterOf 17 = .ok (.iand, 1) := by decide +kernel
theorem dX11_letterOf_18 : decode cX11_letterOf 18 = .ok (.goto 4, 3) := by decide +kernel
theorem dX11_letterOf_21 : decode cX11_letterOf 21 = .ok (.iconst 0, 1) := by decide +kernel
theorem dX11_letterOf_22 : decode cX11_letterOf 22 = .ok (.ireturn, 1) := by decide +kernel
theorem dX11_keywordOf_0 : decode cX11_keywordOf 0 = .ok (.iconst 0, 1) := by decide +kernel
theorem dX11_keywordOf_1 : decode cX11_keywordOf 1 = .ok (.istore_n 2, 1) := by decide +kernel
theorem dX11_keywordOf_2 : decode cX11_keywordOf 2 = .ok (.iload_n 2, 1) := by decide +kernel
theorem dX11_keywordOf_3 : decode cX11_keywordOf 3 = .ok (.bipush 12, 2) := by decide +kernel
theorem dX11_keywordOf_5 : decode cX11_keywordOf 5 = .ok (.if_icmp .ge 59, 3) := by decide +kernel
theorem dX11_keywordOf_8 : decode cX11_keywordOf 8 = .ok (.iload_n 2, 1) := by decide +kernel
theorem dX11_keywordOf_9 : decode cX11_keywordOf 9 = .ok (.invokestatic 347, 3) := by decide +kernel
theorem dX11_keywordOf_12 : decode cX11_keywordOf 12 = .ok (.astore_n 3, 1) := by decide +kernel
theorem dX11_keywordOf_13 : decode cX11_keywordOf 13 = .ok (.lconst 0, 1) := by decide +kernel
theorem dX11_keywordOf_14 : decode cX11_keywordOf 14 = .ok (.lstore 4, 2) := by decide +kernel
theorem dX11_keywordOf_16 : decode cX11_keywordOf 16 = .ok (.iconst 0, 1) := by decide +kernel
theorem dX11_keywordOf_17 : decode cX11_keywordOf 17 = .ok (.istore 6, 2) := by decide +kernel
theorem dX11_keywordOf_19 : decode cX11_keywordOf 19 = .ok (.iload 6, 2) := by decide +kernel
theorem dX11_keywordOf_21 : decode cX11_keywordOf 21 = .ok (.aload_n 3, 1) := by decide +kernel
theorem dX11_keywordOf_22 : decode cX11_keywordOf 22 = .ok (.invokevirtual 351, 3) := by decide +kernel
theorem dX11_keywordOf_25 : decode cX11_keywordOf 25 = .ok (.if_icmp .ge 24, 3) := by decide +kernel
theorem dX11_keywordOf_28 : decode cX11_keywordOf 28 = .ok (.lload 4, 2) := by decide +kernel
theorem dX11_keywordOf_30 : decode cX11_keywordOf 30 = .ok (.iload 6, 2) := by decide +kernel
theorem dX11_keywordOf_32 : decode cX11_keywordOf 32 = .ok (.aload_n 3, 1) := by decide +kernel
theorem dX11_keywordOf_33 : decode cX11_keywordOf 33 = .ok (.iload 6, 2) := by decide +kernel
theorem dX11_keywordOf_35 : decode cX11_keywordOf 35 = .ok (.invokevirtual 356, 3) := by decide +kernel
theorem dX11_keywordOf_38 : decode cX11_keywordOf 38 = .ok (.invokestatic 360, 3) := by decide +kernel
theorem dX11_keywordOf_41 : decode cX11_keywordOf 41 = .ok (.lstore 4, 2) := by decide +kernel
theorem dX11_keywordOf_43 : decode cX11_keywordOf 43 = .ok (.iinc 6 1, 3) := by decide +kernel
theorem dX11_keywordOf_46 : decode cX11_keywordOf 46 = .ok (.goto (-27), 3) := by decide +kernel
theorem dX11_keywordOf_49 : decode cX11_keywordOf 49 = .ok (.lload 4, 2) := by decide +kernel
theorem dX11_keywordOf_51 : decode cX11_keywordOf 51 = .ok (.lload_n 0, 1) := by decide +kernel
theorem dX11_keywordOf_52 : decode cX11_keywordOf 52 = .ok (.lcmp, 1) := by decide +kernel
theorem dX11_keywordOf_53 : decode cX11_keywordOf 53 = .ok (.ifCond .ne 5, 3) := by decide +kernel
theorem dX11_keywordOf_56 : decode cX11_keywordOf 56 = .ok (.iload_n 2, 1) := by decide +kernel
theorem dX11_keywordOf_57 : decode cX11_keywordOf 57 = .ok (.ireturn, 1) := by decide +kernel
theorem dX11_keywordOf_58 : decode cX11_keywordOf 58 = .ok (.iinc 2 1, 3) := by decide +kernel
theorem dX11_keywordOf_61 : decode cX11_keywordOf 61 = .ok (.goto (-59), 3) := by decide +kernel
theorem dX11_keywordOf_64 : decode cX11_keywordOf 64 = .ok (.iconst (-1), 1) := by decide +kernel
theorem dX11_keywordOf_65 : decode cX11_keywordOf 65 = .ok (.ireturn, 1) := by decide +kernel
theorem dX12_init_0 : decode cX12_init 0 = .ok (.aload_n 0, 1) := by decide +kernel
theorem dX12_init_1 : decode cX12_init 1 = .ok (.invokespecial 1, 3) := by decide +kernel
theorem dX12_init_4 : decode cX12_init 4 = .ok (.aload_n 0, 1) := by decide +kernel
theorem dX12_init_5 : decode cX12_init 5 = .ok (.sipush 3276, 3) := by decide +kernel
theorem dX12_init_8 : decode cX12_init 8 = .ok (.newarray .int, 2) := by decide +kernel
theorem dX12_init_10 : decode cX12_init 10 = .ok (.putfield 7, 3) := by decide +kernel
theorem dX12_init_13 : decode cX12_init 13 = .ok (.aload_n 0, 1) := by decide +kernel
theorem dX12_init_14 : decode cX12_init 14 = .ok (.iconst 2, 1) := by decide +kernel
theorem dX12_init_15 : decode cX12_init 15 = .ok (.newarray .boolean, 2) := by decide +kernel
theorem dX12_init_17 : decode cX12_init 17 = .ok (.putfield 13, 3) := by decide +kernel
theorem dX12_init_20 : decode cX12_init 20 = .ok (.aload_n 0, 1) := by decide +kernel
theorem dX12_init_21 : decode cX12_init 21 = .ok (.bipush 10, 2) := by decide +kernel
theorem dX12_init_23 : decode cX12_init 23 = .ok (.putfield 17, 3) := by decide +kernel
theorem dX12_init_26 : decode cX12_init 26 = .ok (.aload_n 0, 1) := by decide +kernel
theorem dX12_init_27 : decode cX12_init 27 = .ok (.iconst (-1), 1) := by decide +kernel
theorem dX12_init_28 : decode cX12_init 28 = .ok (.putfield 21, 3) := by decide +kernel
theorem dX12_init_31 : decode cX12_init 31 = .ok (.aload_n 0, 1) := by decide +kernel
theorem dX12_init_32 : decode cX12_init 32 = .ok (.bipush 12, 2) := by decide +kernel
theorem dX12_init_34 : decode cX12_init 34 = .ok (.newarray .long, 2) := by decide +kernel
theorem dX12_init_36 : decode cX12_init 36 = .ok (.putfield 24, 3) := by decide +kernel
theorem dX12_init_39 : decode cX12_init 39 = .ok (.aload_n 0, 1) := by decide +kernel
theorem dX12_init_40 : decode cX12_init 40 = .ok (.bipush 12, 2) := by decide +kernel
theorem dX12_init_42 : decode cX12_init 42 = .ok (.newarray .long, 2) := by decide +kernel
theorem dX12_init_44 : decode cX12_init 44 = .ok (.putfield 28, 3) := by decide +kernel
theorem dX12_init_47 : decode cX12_init 47 = .ok (.aload_n 0, 1) := by decide +kernel
theorem dX12_init_48 : decode cX12_init 48 = .ok (.bipush 12, 2) := by decide +kernel
theorem dX12_init_50 : decode cX12_init 50 = .ok (.newarray .int, 2) := by decide +kernel
theorem dX12_init_52 : decode cX12_init 52 = .ok (.putfield 31, 3) := by decide +kernel
theorem dX12_init_55 : decode cX12_init 55 = .ok (.aload_n 0, 1) := by decide +kernel
theorem dX12_init_56 : decode cX12_init 56 = .ok (.bipush 12, 2) := by decide +kernel
theorem dX12_init_58 : decode cX12_init 58 = .ok (.newarray .int, 2) := by decide +kernel
theorem dX12_init_60 : decode cX12_init 60 = .ok (.putfield 34, 3) := by decide +kernel
theorem dX12_init_63 : decode cX12_init 63 = .ok (.aload_n 0, 1) := by decide +kernel
theorem dX12_init_64 : decode cX12_init 64 = .ok (.bipush 12, 2) := by decide +kernel
theorem dX12_init_66 : decode cX12_init 66 = .ok (.newarray .int, 2) := by decide +kernel
theorem dX12_init_68 : decode cX12_init 68 = .ok (.putfield 37, 3) := by decide +kernel
theorem dX12_init_71 : decode cX12_init 71 = .ok (.aload_n 0, 1) := by decide +kernel
theorem dX12_init_72 : decode cX12_init 72 = .ok (.bipush 12, 2) := by decide +kernel
theorem dX12_init_74 : decode cX12_init 74 = .ok (.newarray .int, 2) := by decide +kernel
theorem dX12_init_76 : decode cX12_init 76 = .ok (.putfield 40, 3) := by decide +kernel
theorem dX12_init_79 : decode cX12_init 79 = .ok (.aload_n 0, 1) := by decide +kernel
theorem dX12_init_80 : decode cX12_init 80 = .ok (.bipush 12, 2) := by decide +kernel
theorem dX12_init_82 : decode cX12_init 82 = .ok (.newarray .boolean, 2) := by decide +kernel
theorem dX12_init_84 : decode cX12_init 84 = .ok (.putfield 43, 3) := by decide +kernel
theorem dX12_init_87 : decode cX12_init 87 = .ok (.aload_n 0, 1) := by decide +kernel
theorem dX12_init_88 : decode cX12_init 88 = .ok (.sipush 900, 3) := by decide +kernel
theorem dX12_init_91 : decode cX12_init 91 = .ok (.newarray .int, 2) := by decide +kernel
theorem dX12_init_93 : decode cX12_init 93 = .ok (.putfield 46, 3) := by decide +kernel
theorem dX12_init_96 : decode cX12_init 96 = .ok (.aload_n 0, 1) := by decide +kernel
theorem dX12_init_97 : decode cX12_init 97 = .ok (.bipush (-2), 2) := by decide +kernel
theorem dX12_init_99 : decode cX12_init 99 = .ok (.putfield 49, 3) := by decide +kernel
theorem dX12_init_102 : decode cX12_init 102 = .ok (.aload_n 0, 1) := by decide +kernel
theorem dX12_init_103 : decode cX12_init 103 = .ok (.bipush 12, 2) := by decide +kernel
theorem dX12_init_105 : decode cX12_init 105 = .ok (.newarray .int, 2) := by decide +kernel
theorem dX12_init_107 : decode cX12_init 107 = .ok (.putfield 52, 3) := by decide +kernel
theorem dX12_init_110 : decode cX12_init 110 = .ok (.aload_n 0, 1) := by decide +kernel
theorem dX12_init_111 : decode cX12_init 111 = .ok (.bipush 84, 2) := by decide +kernel
theorem dX12_init_113 : decode cX12_init 113 = .ok (.newarray .int, 2) := by decide +kernel
theorem dX12_init_115 : decode cX12_init 115 = .ok (.putfield 55, 3) := by decide +kernel
theorem dX12_init_118 : decode cX12_init 118 = .ok (.aload_n 0, 1) := by decide +kernel
theorem dX12_init_119 : decode cX12_init 119 = .ok (.bipush 84, 2) := by decide +kernel
theorem dX12_init_121 : decode cX12_init 121 = .ok (.newarray .boolean, 2) := by decide +kernel
theorem dX12_init_123 : decode cX12_init 123 = .ok (.putfield 58, 3) := by decide +kernel
theorem dX12_init_126 : decode cX12_init 126 = .ok (.aload_n 0, 1) := by decide +kernel
theorem dX12_init_127 : decode cX12_init 127 = .ok (.bipush 12, 2) := by decide +kernel
theorem dX12_init_129 : decode cX12_init 129 = .ok (.newarray .int, 2) := by decide +kernel
theorem dX12_init_131 : decode cX12_init 131 = .ok (.putfield 61, 3) := by decide +kernel
theorem dX12_init_134 : decode cX12_init 134 = .ok (.aload_n 0, 1) := by decide +kernel
theorem dX12_init_135 : decode cX12_init 135 = .ok (.bipush 12, 2) := by decide +kernel
theorem dX12_init_137 : decode cX12_init 137 = .ok (.newarray .int, 2) := by decide +kernel
theorem dX12_init_139 : decode cX12_init 139 = .ok (.putfield 64, 3) := by decide +kernel
theorem dX12_init_142 : decode cX12_init 142 = .ok (.aload_n 0, 1) := by decide +kernel
theorem dX12_init_143 : decode cX12_init 143 = .ok (.bipush 12, 2) := by decide +kernel
theorem dX12_init_145 : decode cX12_init 145 = .ok (.newarray .int, 2) := by decide +kernel
theorem dX12_init_147 : decode cX12_init 147 = .ok (.putfield 67, 3) := by decide +kernel
theorem dX12_init_150 : decode cX12_init 150 = .ok (.aload_n 0, 1) := by decide +kernel
theorem dX12_init_151 : decode cX12_init 151 = .ok (.bipush 12, 2) := by decide +kernel
theorem dX12_init_153 : decode cX12_init 153 = .ok (.newarray .int, 2) := by decide +kernel
theorem dX12_init_155 : decode cX12_init 155 = .ok (.putfield 70, 3) := by decide +kernel
theorem dX12_init_158 : decode cX12_init 158 = .ok (.aload_n 0, 1) := by decide +kernel
theorem dX12_init_159 : decode cX12_init 159 = .ok (.bipush 12, 2) := by decide +kernel
theorem dX12_init_161 : decode cX12_init 161 = .ok (.newarray .int, 2) := by decide +kernel
theorem dX12_init_163 : decode cX12_init 163 = .ok (.putfield 73, 3) := by decide +kernel
theorem dX12_init_166 : decode cX12_init 166 = .ok (.aload_n 0, 1) := by decide +kernel
theorem dX12_init_167 : decode cX12_init 167 = .ok (.bipush 12, 2) := by decide +kernel
theorem dX12_init_169 : decode cX12_init 169 = .ok (.newarray .int, 2) := by decide +kernel
theorem dX12_init_171 : decode cX12_init 171 = .ok (.putfield 76, 3) := by decide +kernel
theorem dX12_init_174 : decode cX12_init 174 = .ok (.aload_n 0, 1) := by decide +kernel
theorem dX12_init_175 : decode cX12_init 175 = .ok (.bipush 12, 2) := by decide +kernel
theorem dX12_init_177 : decode cX12_init 177 = .ok (.newarray .int, 2) := by decide +kernel
theorem dX12_init_179 : decode cX12_init 179 = .ok (.putfield 79, 3) := by decide +kernel
theorem dX12_init_182 : decode cX12_init 182 = .ok (.aload_n 0, 1) := by decide +kernel
theorem dX12_init_183 : decode cX12_init 183 = .ok (.bipush 12, 2) := by decide +kernel
theorem dX12_init_185 : decode cX12_init 185 = .ok (.newarray .int, 2) := by decide +kernel
theorem dX12_init_187 : decode cX12_init 187 = .ok (.putfield 82, 3) := by decide +kernel
theorem dX12_init_190 : decode cX12_init 190 = .ok (.aload_n 0, 1) := by decide +kernel
theorem dX12_init_191 : decode cX12_init 191 = .ok (.sipush 2000, 3) := by decide +kernel
theorem dX12_init_194 : decode cX12_init 194 = .ok (.newarray .int, 2) := by decide +kernel
theorem dX12_init_196 : decode cX12_init 196 = .ok (.putfield 85, 3) := by decide +kernel
theorem dX12_init_199 : decode cX12_init 199 = .ok (.return_, 1) := by decide +kernel
theorem dX12_in_0 : decode cX12_in 0 = .ok (.lload_n 0, 1) := by decide +kernel
theorem dX12_in_1 : decode cX12_in 1 = .ok (.lload_n 2, 1) := by decide +kernel
theorem dX12_in_2 : decode cX12_in 2 = .ok (.lcmp, 1) := by decide +kernel
theorem dX12_in_3 : decode cX12_in 3 = .ok (.ifCond .lt 14, 3) := by decide +kernel
theorem dX12_in_6 : decode cX12_in 6 = .ok (.lload_n 0, 1) := by decide +kernel
theorem dX12_in_7 : decode cX12_in 7 = .ok (.lload 4, 2) := by decide +kernel
theorem dX12_in_9 : decode cX12_in 9 = .ok (.lcmp, 1) := by decide +kernel
theorem dX12_in_10 : decode cX12_in 10 = .ok (.ifCond .gt 7, 3) := by decide +kernel
theorem dX12_in_13 : decode cX12_in 13 = .ok (.iconst 1, 1) := by decide +kernel
theorem dX12_in_14 : decode cX12_in 14 = .ok (.goto 4, 3) := by decide +kernel
theorem dX12_in_17 : decode cX12_in 17 = .ok (.iconst 0, 1) := by decide +kernel
theorem dX12_in_18 : decode cX12_in 18 = .ok (.ireturn, 1) := by decide +kernel
theorem dX12_copies_0 : decode cX12_copies 0 = .ok (.iconst 0, 1) := by decide +kernel
theorem dX12_copies_1 : decode cX12_copies 1 = .ok (.istore_n 3, 1) := by decide +kernel
theorem dX12_copies_2 : decode cX12_copies 2 = .ok (.iload_n 3, 1) := by decide +kernel
theorem dX12_copies_3 : decode cX12_copies 3 = .ok (.sipush 819, 3) := by decide +kernel
theorem dX12_copies_6 : decode cX12_copies 6 = .ok (.if_icmp .ge 33, 3) := by decide +kernel
theorem dX12_copies_9 : decode cX12_copies 9 = .ok (.aload_n 0, 1) := by decide +kernel
theorem dX12_copies_10 : decode cX12_copies 10 = .ok (.getfield 7, 3) := by decide +kernel
theorem dX12_copies_13 : decode cX12_copies 13 = .ok (.sipush 819, 3) := by decide +kernel
theorem dX12_copies_16 : decode cX12_copies 16 = .ok (.iload_n 2, 1) := by decide +kernel
theorem dX12_copies_17 : decode cX12_copies 17 = .ok (.imul, 1) := by decide +kernel
theorem dX12_copies_18 : decode cX12_copies 18 = .ok (.iload_n 3, 1) := by decide +kernel
theorem dX12_copies_19 : decode cX12_copies 19 = .ok (.iadd, 1) := by decide +kernel
theorem dX12_copies_20 : decode cX12_copies 20 = .ok (.aload_n 0, 1) := by decide +kernel
theorem dX12_copies_21 : decode cX12_copies 21 = .ok (.getfield 7, 3) := by decide +kernel
theorem dX12_copies_24 : decode cX12_copies 24 = .ok (.sipush 819, 3) := by decide +kernel
theorem dX12_copies_27 : decode cX12_copies 27 = .ok (.iload_n 1, 1) := by decide +kernel
theorem dX12_copies_28 : decode cX12_copies 28 = .ok (.imul, 1) := by decide +kernel
theorem dX12_copies_29 : decode cX12_copies 29 = .ok (.iload_n 3, 1) := by decide +kernel
theorem dX12_copies_30 : decode cX12_copies 30 = .ok (.iadd, 1) := by decide +kernel
theorem dX12_copies_31 : decode cX12_copies 31 = .ok (.iaload, 1) := by decide +kernel
theorem dX12_copies_32 : decode cX12_copies 32 = .ok (.iastore, 1) := by decide +kernel
theorem dX12_copies_33 : decode cX12_copies 33 = .ok (.iinc 3 1, 3) := by decide +kernel
theorem dX12_copies_36 : decode cX12_copies 36 = .ok (.goto (-34), 3) := by decide +kernel
theorem dX12_copies_39 : decode cX12_copies 39 = .ok (.return_, 1) := by decide +kernel
theorem dX12_isNode_0 : decode cX12_isNode 0 = .ok (.iload_n 1, 1) := by decide +kernel
theorem dX12_isNode_1 : decode cX12_isNode 1 = .ok (.i2l, 1) := by decide +kernel
theorem dX12_isNode_2 : decode cX12_isNode 2 = .ok (.lconst 0, 1) := by decide +kernel
theorem dX12_isNode_3 : decode cX12_isNode 3 = .ok (.aload_n 0, 1) := by decide +kernel
theorem dX12_isNode_4 : decode cX12_isNode 4 = .ok (.getfield 91, 3) := by decide +kernel
theorem dX12_isNode_7 : decode cX12_isNode 7 = .ok (.iconst 1, 1) := by decide +kernel
theorem dX12_isNode_8 : decode cX12_isNode 8 = .ok (.isub, 1) := by decide +kernel
theorem dX12_isNode_9 : decode cX12_isNode 9 = .ok (.i2l, 1) := by decide +kernel
theorem dX12_isNode_10 : decode cX12_isNode 10 = .ok (.invokestatic 94, 3) := by decide +kernel
theorem dX12_isNode_13 : decode cX12_isNode 13 = .ok (.ireturn, 1) := by decide +kernel
theorem dX12_isBare_0 : decode cX12_isBare 0 = .ok (.aload_n 0, 1) := by decide +kernel
theorem dX12_isBare_1 : decode cX12_isBare 1 = .ok (.iload_n 1, 1) := by decide +kernel
theorem dX12_isBare_2 : decode cX12_isBare 2 = .ok (.invokevirtual 98, 3) := by decide +kernel
theorem dX12_isBare_5 : decode cX12_isBare 5 = .ok (.ifCond .ne 5, 3) := by decide +kernel
theorem dX12_isBare_8 : decode cX12_isBare 8 = .ok (.iconst 0, 1) := by decide +kernel
theorem dX12_isBare_9 : decode cX12_isBare 9 = .ok (.ireturn, 1) := by decide +kernel
theorem dX12_isBare_10 : decode cX12_isBare 10 = .ok (.iload_n 1, 1) := by decide +kernel
theorem dX12_isBare_11 : decode cX12_isBare 11 = .ok (.iconst 1, 1) := by decide +kernel
theorem dX12_isBare_12 : decode cX12_isBare 12 = .ok (.iadd, 1) := by decide +kernel
theorem dX12_isBare_13 : decode cX12_isBare 13 = .ok (.istore_n 2, 1) := by decide +kernel
theorem dX12_isBare_14 : decode cX12_isBare 14 = .ok (.iload_n 2, 1) := by decide +kernel
theorem dX12_isBare_15 : decode cX12_isBare 15 = .ok (.aload_n 0, 1) := by decide +kernel
theorem dX12_isBare_16 : decode cX12_isBare 16 = .ok (.getfield 91, 3) := by decide +kernel
theorem dX12_isBare_19 : decode cX12_isBare 19 = .ok (.if_icmp .ge 21, 3) := by decide +kernel
theorem dX12_isBare_22 : decode cX12_isBare 22 = .ok (.aload_n 0, 1) := by decide +kernel
theorem dX12_isBare_23 : decode cX12_isBare 23 = .ok (.getfield 31, 3) := by decide +kernel
theorem dX12_isBare_26 : decode cX12_isBare 26 = .ok (.iload_n 2, 1) := by decide +kernel
theorem dX12_isBare_27 : decode cX12_isBare 27 = .ok (.iaload, 1) := by decide +kernel
theorem dX12_isBare_28 : decode cX12_isBare 28 = .ok (.iload_n 1, 1) := by decide +kernel
theorem dX12_isBare_29 : decode cX12_isBare 29 = .ok (.if_icmp .ne 5, 3) := by decide +kernel
theorem dX12_isBare_32 : decode cX12_isBare 32 = .ok (.iconst 0, 1) := by decide +kernel
theorem dX12_isBare_33 : decode cX12_isBare 33 = .ok (.ireturn, 1) := by decide +kernel
theorem dX12_isBare_34 : decode cX12_isBare 34 = .ok (.iinc 2 1, 3) := by decide +kernel
theorem dX12_isBare_37 : decode cX12_isBare 37 = .ok (.goto (-23), 3) := by decide +kernel
theorem dX12_isBare_40 : decode cX12_isBare 40 = .ok (.iconst 1, 1) := by decide +kernel
theorem dX12_isBare_41 : decode cX12_isBare 41 = .ok (.ireturn, 1) := by decide +kernel
theorem dX12_four_0 : decode cX12_four 0 = .ok (.bipush 24, 2) := by decide +kernel
theorem dX12_four_2 : decode cX12_four 2 = .ok (.istore_n 2, 1) := by decide +kernel
theorem dX12_four_3 : decode cX12_four 3 = .ok (.iload_n 2, 1) := by decide +kernel
theorem dX12_four_4 : decode cX12_four 4 = .ok (.ifCond .lt 35, 3) := by decide +kernel
theorem dX12_four_7 : decode cX12_four 7 = .ok (.aload_n 0, 1) := by decide +kernel
theorem dX12_four_8 : decode cX12_four 8 = .ok (.getfield 46, 3) := by decide +kernel
theorem dX12_four_11 : decode cX12_four 11 = .ok (.aload_n 0, 1) := by decide +kernel
theorem dX12_four_12 : decode cX12_four 12 = .ok (.getfield 102, 3) := by decide +kernel
theorem dX12_four_15 : decode cX12_four 15 = .ok (.iload_n 1, 1) := by decide +kernel
theorem dX12_four_16 : decode cX12_four 16 = .ok (.iload_n 2, 1) := by decide +kernel
theorem dX12_four_17 : decode cX12_four 17 = .ok (.ishr, 1) := by decide +kernel
theorem dX12_four_18 : decode cX12_four 18 = .ok (.sipush 255, 3) := by decide +kernel
theorem dX12_four_21 : decode cX12_four 21 = .ok (.iand, 1) := by decide +kernel
theorem dX12_four_22 : decode cX12_four 22 = .ok (.iastore, 1) := by decide +kernel
theorem dX12_four_23 : decode cX12_four 23 = .ok (.aload_n 0, 1) := by decide +kernel
theorem dX12_four_24 : decode cX12_four 24 = .ok (.dup, 1) := by decide +kernel
theorem dX12_four_25 : decode cX12_four 25 = .ok (.getfield 102, 3) := by decide +kernel
theorem dX12_four_28 : decode cX12_four 28 = .ok (.iconst 1, 1) := by decide +kernel
theorem dX12_four_29 : decode cX12_four 29 = .ok (.iadd, 1) := by decide +kernel
theorem dX12_four_30 : decode cX12_four 30 = .ok (.putfield 102, 3) := by decide +kernel
theorem dX12_four_33 : decode cX12_four 33 = .ok (.iinc 2 (-8), 3) := by decide +kernel
theorem dX12_four_36 : decode cX12_four 36 = .ok (.goto (-33), 3) := by decide +kernel
theorem dX12_four_39 : decode cX12_four 39 = .ok (.return_, 1) := by decide +kernel
theorem dX12_feed_0 : decode cX12_feed 0 = .ok (.aload_n 0, 1) := by decide +kernel
theorem dX12_feed_1 : decode cX12_feed 1 = .ok (.iconst 0, 1) := by decide +kernel
theorem dX12_feed_2 : decode cX12_feed 2 = .ok (.putfield 88, 3) := by decide +kernel
theorem dX12_feed_5 : decode cX12_feed 5 = .ok (.aload_n 0, 1) := by decide +kernel
theorem dX12_feed_6 : decode cX12_feed 6 = .ok (.getfield 102, 3) := by decide +kernel
theorem dX12_feed_9 : decode cX12_feed 9 = .ok (.bipush 20, 2) := by decide +kernel
theorem dX12_feed_11 : decode cX12_feed 11 = .ok (.iadd, 1) := by decide +kernel
theorem dX12_feed_12 : decode cX12_feed 12 = .ok (.sipush 900, 3) := by decide +kernel
theorem dX12_feed_15 : decode cX12_feed 15 = .ok (.if_icmp .le 5, 3) := by decide +kernel
theorem dX12_feed_18 : decode cX12_feed 18 = .ok (.iconst (-1), 1) := by decide +kernel
theorem dX12_feed_19 : decode cX12_feed 19 = .ok (.ireturn, 1) := by decide +kernel
theorem dX12_feed_20 : decode cX12_feed 20 = .ok (.aload_n 0, 1) := by decide +kernel
theorem dX12_feed_21 : decode cX12_feed 21 = .ok (.iload_n 1, 1) := by decide +kernel
theorem dX12_feed_22 : decode cX12_feed 22 = .ok (.invokevirtual 105, 3) := by decide +kernel
theorem dX12_feed_25 : decode cX12_feed 25 = .ok (.aload_n 0, 1) := by decide +kernel
theorem dX12_feed_26 : decode cX12_feed 26 = .ok (.iload_n 2, 1) := by decide +kernel
theorem dX12_feed_27 : decode cX12_feed 27 = .ok (.invokevirtual 105, 3) := by decide +kernel
theorem dX12_feed_30 : decode cX12_feed 30 = .ok (.aload_n 0, 1) := by decide +kernel
theorem dX12_feed_31 : decode cX12_feed 31 = .ok (.iload_n 3, 1) := by decide +kernel
theorem dX12_feed_32 : decode cX12_feed 32 = .ok (.invokevirtual 105, 3) := by decide +kernel
theorem dX12_feed_35 : decode cX12_feed 35 = .ok (.aload_n 0, 1) := by decide +kernel
theorem dX12_feed_36 : decode cX12_feed 36 = .ok (.iload 4, 2) := by decide +kernel
theorem dX12_feed_38 : decode cX12_feed 38 = .ok (.invokevirtual 105, 3) := by decide +kernel
theorem dX12_feed_41 : decode cX12_feed 41 = .ok (.aload_n 0, 1) := by decide +kernel
theorem dX12_feed_42 : decode cX12_feed 42 = .ok (.iload 5, 2) := by decide +kernel
theorem dX12_feed_44 : decode cX12_feed 44 = .ok (.invokevirtual 105, 3) := by decide +kernel
theorem dX12_feed_47 : decode cX12_feed 47 = .ok (.aload_n 0, 1) := by decide +kernel
theorem dX12_feed_48 : decode cX12_feed 48 = .ok (.getfield 102, 3) := by decide +kernel
theorem dX12_feed_51 : decode cX12_feed 51 = .ok (.ireturn, 1) := by decide +kernel
theorem dX12_truncate_0 : decode cX12_truncate 0 = .ok (.aload_n 0, 1) := by decide +kernel
theorem dX12_truncate_1 : decode cX12_truncate 1 = .ok (.iconst 0, 1) := by decide +kernel
theorem dX12_truncate_2 : decode cX12_truncate 2 = .ok (.putfield 88, 3) := by decide +kernel
theorem dX12_truncate_5 : decode cX12_truncate 5 = .ok (.iload_n 1, 1) := by decide +kernel
theorem dX12_truncate_6 : decode cX12_truncate 6 = .ok (.i2l, 1) := by decide +kernel
theorem dX12_truncate_7 : decode cX12_truncate 7 = .ok (.lconst 0, 1) := by decide +kernel
theorem dX12_truncate_8 : decode cX12_truncate 8 = .ok (.aload_n 0, 1) := by decide +kernel
theorem dX12_truncate_9 : decode cX12_truncate 9 = .ok (.getfield 102, 3) := by decide +kernel
theorem dX12_truncate_12 : decode cX12_truncate 12 = .ok (.i2l, 1) := by decide +kernel
theorem dX12_truncate_13 : decode cX12_truncate 13 = .ok (.invokestatic 94, 3) := by decide +kernel
theorem dX12_truncate_16 : decode cX12_truncate 16 = .ok (.ifCond .ne 5, 3) := by decide +kernel
theorem dX12_truncate_19 : decode cX12_truncate 19 = .ok (.iconst (-1), 1) := by decide +kernel
theorem dX12_truncate_20 : decode cX12_truncate 20 = .ok (.ireturn, 1) := by decide +kernel
theorem dX12_truncate_21 : decode cX12_truncate 21 = .ok (.aload_n 0, 1) := by decide +kernel
theorem dX12_truncate_22 : decode cX12_truncate 22 = .ok (.iload_n 1, 1) := by decide +kernel
theorem dX12_truncate_23 : decode cX12_truncate 23 = .ok (.putfield 102, 3) := by decide +kernel
theorem dX12_truncate_26 : decode cX12_truncate 26 = .ok (.iload_n 1, 1) := by decide +kernel
theorem dX12_truncate_27 : decode cX12_truncate 27 = .ok (.ireturn, 1) := by decide +kernel
theorem dX12_byteAt_0 : decode cX12_byteAt 0 = .ok (.iload_n 1, 1) := by decide +kernel
theorem dX12_byteAt_1 : decode cX12_byteAt 1 = .ok (.aload_n 0, 1) := by decide +kernel
theorem dX12_byteAt_2 : decode cX12_byteAt 2 = .ok (.getfield 102, 3) := by decide +kernel
theorem dX12_byteAt_5 : decode cX12_byteAt 5 = .ok (.if_icmp .ge 12, 3) := by decide +kernel
theorem dX12_byteAt_8 : decode cX12_byteAt 8 = .ok (.aload_n 0, 1) := by decide +kernel
theorem dX12_byteAt_9 : decode cX12_byteAt 9 = .ok (.getfield 46, 3) := by decide +kernel
theorem dX12_byteAt_12 : decode cX12_byteAt 12 = .ok (.iload_n 1, 1) := by decide +kernel
theorem dX12_byteAt_13 : decode cX12_byteAt 13 = .ok (.iaload, 1) := by decide +kernel
theorem dX12_byteAt_14 : decode cX12_byteAt 14 = .ok (.goto 5, 3) := by decide +kernel
theorem dX12_byteAt_17 : decode cX12_byteAt 17 = .ok (.bipush (-2), 2) := by decide +kernel
theorem dX12_byteAt_19 : decode cX12_byteAt 19 = .ok (.ireturn, 1) := by decide +kernel
theorem dX12_isSmall_0 : decode cX12_isSmall 0 = .ok (.iload_n 0, 1) := by decide +kernel
theorem dX12_isSmall_1 : decode cX12_isSmall 1 = .ok (.bipush 97, 2) := by decide +kernel
theorem dX12_isSmall_3 : decode cX12_isSmall 3 = .ok (.if_icmp .lt 13, 3) := by decide +kernel
theorem dX12_isSmall_6 : decode cX12_isSmall 6 = .ok (.iload_n 0, 1) := by decide +kernel
theorem dX12_isSmall_7 : decode cX12_isSmall 7 = .ok (.bipush 122, 2) := by decide +kernel
theorem dX12_isSmall_9 : decode cX12_isSmall 9 = .ok (.if_icmp .gt 7, 3) := by decide +kernel
theorem dX12_isSmall_12 : decode cX12_isSmall 12 = .ok (.iconst 1, 1) := by decide +kernel
theorem dX12_isSmall_13 : decode cX12_isSmall 13 = .ok (.goto 4, 3) := by decide +kernel
theorem dX12_isSmall_16 : decode cX12_isSmall 16 = .ok (.iconst 0, 1) := by decide +kernel
theorem dX12_isSmall_17 : decode cX12_isSmall 17 = .ok (.ireturn, 1) := by decide +kernel
theorem dX12_isDigit_0 : decode cX12_isDigit 0 = .ok (.iload_n 0, 1) := by decide +kernel
theorem dX12_isDigit_1 : decode cX12_isDigit 1 = .ok (.bipush 48, 2) := by decide +kernel
theorem dX12_isDigit_3 : decode cX12_isDigit 3 = .ok (.if_icmp .lt 13, 3) := by decide +kernel
theorem dX12_isDigit_6 : decode cX12_isDigit 6 = .ok (.iload_n 0, 1) := by decide +kernel
theorem dX12_isDigit_7 : decode cX12_isDigit 7 = .ok (.bipush 57, 2) := by decide +kernel
theorem dX12_isDigit_9 : decode cX12_isDigit 9 = .ok (.if_icmp .gt 7, 3) := by decide +kernel
theorem dX12_isDigit_12 : decode cX12_isDigit 12 = .ok (.iconst 1, 1) := by decide +kernel
theorem dX12_isDigit_13 : decode cX12_isDigit 13 = .ok (.goto 4, 3) := by decide +kernel
theorem dX12_isDigit_16 : decode cX12_isDigit 16 = .ok (.iconst 0, 1) := by decide +kernel
theorem dX12_isDigit_17 : decode cX12_isDigit 17 = .ok (.ireturn, 1) := by decide +kernel
theorem dX12_isGood_0 : decode cX12_isGood 0 = .ok (.aload_n 0, 1) := by decide +kernel
theorem dX12_isGood_1 : decode cX12_isGood 1 = .ok (.getfield 109, 3) := by decide +kernel
theorem dX12_isGood_4 : decode cX12_isGood 4 = .ok (.ifCond .ne 7, 3) := by decide +kernel
theorem dX12_isGood_7 : decode cX12_isGood 7 = .ok (.iconst 1, 1) := by decide +kernel
theorem dX12_isGood_8 : decode cX12_isGood 8 = .ok (.goto 4, 3) := by decide +kernel
theorem dX12_isGood_11 : decode cX12_isGood 11 = .ok (.iconst 0, 1) := by decide +kernel
theorem dX12_isGood_12 : decode cX12_isGood 12 = .ok (.ireturn, 1) := by decide +kernel
theorem dX12_must_0 : decode cX12_must 0 = .ok (.aload_n 0, 1) := by decide +kernel
theorem dX12_must_1 : decode cX12_must 1 = .ok (.invokevirtual 112, 3) := by decide +kernel
theorem dX12_must_4 : decode cX12_must 4 = .ok (.ifCond .eq 32, 3) := by decide +kernel
theorem dX12_must_7 : decode cX12_must 7 = .ok (.iload_n 1, 1) := by decide +kernel
theorem dX12_must_8 : decode cX12_must 8 = .ok (.ifCond .ne 28, 3) := by decide +kernel
theorem dX12_must_11 : decode cX12_must 11 = .ok (.aload_n 0, 1) := by decide +kernel
theorem dX12_must_12 : decode cX12_must 12 = .ok (.aload_n 0, 1) := by decide +kernel
theorem dX12_must_13 : decode cX12_must 13 = .ok (.getfield 116, 3) := by decide +kernel
theorem dX12_must_16 : decode cX12_must 16 = .ok (.iconst 4, 1) := by decide +kernel
theorem dX12_must_17 : decode cX12_must 17 = .ok (.if_icmp .ne 7, 3) := by decide +kernel
theorem dX12_must_20 : decode cX12_must 20 = .ok (.iconst 1, 1) := by decide +kernel
theorem dX12_must_21 : decode cX12_must 21 = .ok (.goto 4, 3) := by decide +kernel
theorem dX12_must_24 : decode cX12_must 24 = .ok (.iload_n 2, 1) := by decide +kernel
theorem dX12_must_25 : decode cX12_must 25 = .ok (.putfield 109, 3) := by decide +kernel
theorem dX12_must_28 : decode cX12_must 28 = .ok (.aload_n 0, 1) := by decide +kernel
theorem dX12_must_29 : decode cX12_must 29 = .ok (.aload_n 0, 1) := by decide +kernel
theorem dX12_must_30 : decode cX12_must 30 = .ok (.getfield 119, 3) := by decide +kernel
theorem dX12_must_33 : decode cX12_must 33 = .ok (.putfield 49, 3) := by decide +kernel
theorem dX12_must_36 : decode cX12_must 36 = .ok (.return_, 1) := by decide +kernel
theorem dX12_scans_0 : decode cX12_scans 0 = .ok (.aload_n 0, 1) := by decide +kernel
theorem dX12_scans_1 : decode cX12_scans 1 = .ok (.invokevirtual 112, 3) := by decide +kernel
theorem dX12_scans_4 : decode cX12_scans 4 = .ok (.ifCond .ne 4, 3) := by decide +kernel
theorem dX12_scans_7 : decode cX12_scans 7 = .ok (.return_, 1) := by decide +kernel
theorem dX12_scans_8 : decode cX12_scans 8 = .ok (.aload_n 0, 1) := by decide +kernel
theorem dX12_scans_9 : decode cX12_scans 9 = .ok (.aload_n 0, 1) := by decide +kernel
theorem dX12_scans_10 : decode cX12_scans 10 = .ok (.getfield 122, 3) := by decide +kernel
theorem dX12_scans_13 : decode cX12_scans 13 = .ok (.invokevirtual 125, 3) := by decide +kernel
theorem dX12_scans_16 : decode cX12_scans 16 = .ok (.bipush 32, 2) := by decide +kernel
theorem dX12_scans_18 : decode cX12_scans 18 = .ok (.if_icmp .eq 16, 3) := by decide +kernel
theorem dX12_scans_21 : decode cX12_scans 21 = .ok (.aload_n 0, 1) := by decide +kernel
theorem dX12_scans_22 : decode cX12_scans 22 = .ok (.aload_n 0, 1) := by decide +kernel
theorem dX12_scans_23 : decode cX12_scans 23 = .ok (.getfield 122, 3) := by decide +kernel
theorem dX12_scans_26 : decode cX12_scans 26 = .ok (.invokevirtual 125, 3) := by decide +kernel
theorem dX12_scans_29 : decode cX12_scans 29 = .ok (.bipush 10, 2) := by decide +kernel
theorem dX12_scans_31 : decode cX12_scans 31 = .ok (.if_icmp .ne 16, 3) := by decide +kernel
theorem dX12_scans_34 : decode cX12_scans 34 = .ok (.aload_n 0, 1) := by decide +kernel
theorem dX12_scans_35 : decode cX12_scans 35 = .ok (.dup, 1) := by decide +kernel
theorem dX12_scans_36 : decode cX12_scans 36 = .ok (.getfield 122, 3) := by decide +kernel
theorem dX12_scans_39 : decode cX12_scans 39 = .ok (.iconst 1, 1) := by decide +kernel
theorem dX12_scans_40 : decode cX12_scans 40 = .ok (.iadd, 1) := by decide +kernel
theorem dX12_scans_41 : decode cX12_scans 41 = .ok (.putfield 122, 3) := by decide +kernel
theorem dX12_scans_44 : decode cX12_scans 44 = .ok (.goto (-36), 3) := by decide +kernel
theorem dX12_scans_47 : decode cX12_scans 47 = .ok (.aload_n 0, 1) := by decide +kernel
theorem dX12_scans_48 : decode cX12_scans 48 = .ok (.aload_n 0, 1) := by decide +kernel
theorem dX12_scans_49 : decode cX12_scans 49 = .ok (.getfield 122, 3) := by decide +kernel
theorem dX12_scans_52 : decode cX12_scans 52 = .ok (.putfield 119, 3) := by decide +kernel
theorem dX12_scans_55 : decode cX12_scans 55 = .ok (.aload_n 0, 1) := by decide +kernel
theorem dX12_scans_56 : decode cX12_scans 56 = .ok (.aload_n 0, 1) := by decide +kernel
theorem dX12_scans_57 : decode cX12_scans 57 = .ok (.getfield 119, 3) := by decide +kernel
theorem dX12_scans_60 : decode cX12_scans 60 = .ok (.invokevirtual 125, 3) := by decide +kernel
theorem dX12_scans_63 : decode cX12_scans 63 = .ok (.istore_n 1, 1) := by decide +kernel
theorem dX12_scans_64 : decode cX12_scans 64 = .ok (.aload_n 0, 1) := by decide +kernel
theorem dX12_scans_65 : decode cX12_scans 65 = .ok (.iconst 0, 1) := by decide +kernel
theorem dX12_scans_66 : decode cX12_scans 66 = .ok (.putfield 129, 3) := by decide +kernel
theorem dX12_scans_69 : decode cX12_scans 69 = .ok (.aload_n 0, 1) := by decide +kernel
theorem dX12_scans_70 : decode cX12_scans 70 = .ok (.lconst 0, 1) := by decide +kernel
theorem dX12_scans_71 : decode cX12_scans 71 = .ok (.putfield 132, 3) := by decide +kernel
theorem dX12_scans_74 : decode cX12_scans 74 = .ok (.iload_n 1, 1) := by decide +kernel
theorem dX12_scans_75 : decode cX12_scans 75 = .ok (.bipush (-2), 2) := by decide +kernel
theorem dX12_scans_77 : decode cX12_scans 77 = .ok (.if_icmp .ne 11, 3) := by decide +kernel
theorem dX12_scans_80 : decode cX12_scans 80 = .ok (.aload_n 0, 1) := by decide +kernel
theorem dX12_scans_81 : decode cX12_scans 81 = .ok (.iconst 0, 1) := by decide +kernel
theorem dX12_scans_82 : decode cX12_scans 82 = .ok (.putfield 116, 3) := by decide +kernel
theorem dX12_scans_85 : decode cX12_scans 85 = .ok (.goto 233, 3) := by decide +kernel
theorem dX12_scans_88 : decode cX12_scans 88 = .ok (.iload_n 1, 1) := by decide +kernel
theorem dX12_scans_89 : decode cX12_scans 89 = .ok (.invokestatic 136, 3) := by decide +kernel
theorem dX12_scans_92 : decode cX12_scans 92 = .ok (.ifCond .eq 103, 3) := by decide +kernel
theorem dX12_scans_95 : decode cX12_scans 95 = .ok (.aload_n 0, 1) := by decide +kernel
theorem dX12_scans_96 : decode cX12_scans 96 = .ok (.aload_n 0, 1) := by decide +kernel
theorem dX12_scans_97 : decode cX12_scans 97 = .ok (.getfield 122, 3) := by decide +kernel
theorem dX12_scans_100 : decode cX12_scans 100 = .ok (.invokevirtual 125, 3) := by decide +kernel
theorem dX12_scans_103 : decode cX12_scans 103 = .ok (.invokestatic 136, 3) := by decide +kernel
theorem dX12_scans_106 : decode cX12_scans 106 = .ok (.ifCond .eq 63, 3) := by decide +kernel
theorem dX12_scans_109 : decode cX12_scans 109 = .ok (.aload_n 0, 1) := by decide +kernel
theorem dX12_scans_110 : decode cX12_scans 110 = .ok (.aload_n 0, 1) := by decide +kernel
theorem dX12_scans_111 : decode cX12_scans 111 = .ok (.getfield 122, 3) := by decide +kernel
theorem dX12_scans_114 : decode cX12_scans 114 = .ok (.aload_n 0, 1) := by decide +kernel
theorem dX12_scans_115 : decode cX12_scans 115 = .ok (.getfield 119, 3) := by decide +kernel
theorem dX12_scans_118 : decode cX12_scans 118 = .ok (.isub, 1) := by decide +kernel
theorem dX12_scans_119 : decode cX12_scans 119 = .ok (.bipush 8, 2) := by decide +kernel
theorem dX12_scans_121 : decode cX12_scans 121 = .ok (.if_icmp .ge 28, 3) := by decide +kernel
theorem dX12_scans_124 : decode cX12_scans 124 = .ok (.aload_n 0, 1) := by decide +kernel
theorem dX12_scans_125 : decode cX12_scans 125 = .ok (.getfield 132, 3) := by decide +kernel
theorem dX12_scans_128 : decode cX12_scans 128 = .ok (.ldc2_w 139, 3) := by decide +kernel
theorem dX12_scans_131 : decode cX12_scans 131 = .ok (.lmul, 1) := by decide +kernel
theorem dX12_scans_132 : decode cX12_scans 132 = .ok (.aload_n 0, 1) := by decide +kernel
theorem dX12_scans_133 : decode cX12_scans 133 = .ok (.aload_n 0, 1) := by decide +kernel
theorem dX12_scans_134 : decode cX12_scans 134 = .ok (.getfield 122, 3) := by decide +kernel
theorem dX12_scans_137 : decode cX12_scans 137 = .ok (.invokevirtual 125, 3) := by decide +kernel
theorem dX12_scans_140 : decode cX12_scans 140 = .ok (.i2l, 1) := by decide +kernel
theorem dX12_scans_141 : decode cX12_scans 141 = .ok (.ladd, 1) := by decide +kernel
theorem dX12_scans_142 : decode cX12_scans 142 = .ok (.ldc2_w 141, 3) := by decide +kernel
theorem dX12_scans_145 : decode cX12_scans 145 = .ok (.lsub, 1) := by decide +kernel
theorem dX12_scans_146 : decode cX12_scans 146 = .ok (.goto 7, 3) := by decide +kernel
theorem dX12_scans_149 : decode cX12_scans 149 = .ok (.aload_n 0, 1) := by decide +kernel
theorem dX12_scans_150 : decode cX12_scans 150 = .ok (.getfield 132, 3) := by decide +kernel
theorem dX12_scans_153 : decode cX12_scans 153 = .ok (.putfield 132, 3) := by decide +kernel
theorem dX12_scans_156 : decode cX12_scans 156 = .ok (.aload_n 0, 1) := by decide +kernel
theorem dX12_scans_157 : decode cX12_scans 157 = .ok (.dup, 1) := by decide +kernel
theorem dX12_scans_158 : decode cX12_scans 158 = .ok (.getfield 122, 3) := by decide +kernel
theorem dX12_scans_161 : decode cX12_scans 161 = .ok (.iconst 1, 1) := by decide +kernel
theorem dX12_scans_162 : decode cX12_scans 162 = .ok (.iadd, 1) := by decide +kernel
theorem dX12_scans_163 : decode cX12_scans 163 = .ok (.putfield 122, 3) := by decide +kernel
theorem dX12_scans_166 : decode cX12_scans 166 = .ok (.goto (-71), 3) := by decide +kernel
theorem dX12_scans_169 : decode cX12_scans 169 = .ok (.aload_n 0, 1) := by decide +kernel
theorem dX12_scans_170 : decode cX12_scans 170 = .ok (.aload_n 0, 1) := by decide +kernel
theorem dX12_scans_171 : decode cX12_scans 171 = .ok (.getfield 122, 3) := by decide +kernel
theorem dX12_scans_174 : decode cX12_scans 174 = .ok (.aload_n 0, 1) := by decide +kernel
theorem dX12_scans_175 : decode cX12_scans 175 = .ok (.getfield 119, 3) := by decide +kernel
theorem dX12_scans_178 : decode cX12_scans 178 = .ok (.isub, 1) := by decide +kernel
theorem dX12_scans_179 : decode cX12_scans 179 = .ok (.bipush 8, 2) := by decide +kernel
theorem dX12_scans_181 : decode cX12_scans 181 = .ok (.if_icmp .le 7, 3) := by decide +kernel
theorem dX12_scans_184 : decode cX12_scans 184 = .ok (.iconst 4, 1) := by decide +kernel
theorem dX12_scans_185 : decode cX12_scans 185 = .ok (.goto 4, 3) := by decide +kernel
theorem dX12_scans_188 : decode cX12_scans 188 = .ok (.iconst 1, 1) := by decide +kernel
theorem dX12_scans_189 : decode cX12_scans 189 = .ok (.putfield 116, 3) := by decide +kernel
theorem dX12_scans_192 : decode cX12_scans 192 = .ok (.goto 126, 3) := by decide +kernel
theorem dX12_scans_195 : decode cX12_scans 195 = .ok (.iload_n 1, 1) := by decide +kernel
theorem dX12_scans_196 : decode cX12_scans 196 = .ok (.invokestatic 143, 3) := by decide +kernel
theorem dX12_scans_199 : decode cX12_scans 199 = .ok (.ifCond .eq 94, 3) := by decide +kernel
theorem dX12_scans_202 : decode cX12_scans 202 = .ok (.aload_n 0, 1) := by decide +kernel
theorem dX12_scans_203 : decode cX12_scans 203 = .ok (.aload_n 0, 1) := by decide +kernel
theorem dX12_scans_204 : decode cX12_scans 204 = .ok (.getfield 122, 3) := by decide +kernel
theorem dX12_scans_207 : decode cX12_scans 207 = .ok (.invokevirtual 125, 3) := by decide +kernel
theorem dX12_scans_210 : decode cX12_scans 210 = .ok (.invokestatic 143, 3) := by decide +kernel
theorem dX12_scans_213 : decode cX12_scans 213 = .ok (.ifCond .eq 55, 3) := by decide +kernel
theorem dX12_scans_216 : decode cX12_scans 216 = .ok (.aload_n 0, 1) := by decide +kernel
theorem dX12_scans_217 : decode cX12_scans 217 = .ok (.aload_n 0, 1) := by decide +kernel
theorem dX12_scans_218 : decode cX12_scans 218 = .ok (.getfield 129, 3) := by decide +kernel
theorem dX12_scans_221 : decode cX12_scans 221 = .ok (.ldc 146, 2) := by decide +kernel
theorem dX12_scans_223 : decode cX12_scans 223 = .ok (.if_icmp .le 10, 3) := by decide +kernel
theorem dX12_scans_226 : decode cX12_scans 226 = .ok (.aload_n 0, 1) := by decide +kernel
theorem dX12_scans_227 : decode cX12_scans 227 = .ok (.getfield 129, 3) := by decide +kernel
theorem dX12_scans_230 : decode cX12_scans 230 = .ok (.goto 22, 3) := by decide +kernel
theorem dX12_scans_233 : decode cX12_scans 233 = .ok (.bipush 10, 2) := by decide +kernel
theorem dX12_scans_235 : decode cX12_scans 235 = .ok (.aload_n 0, 1) := by decide +kernel
theorem dX12_scans_236 : decode cX12_scans 236 = .ok (.getfield 129, 3) := by decide +kernel
theorem dX12_scans_239 : decode cX12_scans 239 = .ok (.imul, 1) := by decide +kernel
theorem dX12_scans_240 : decode cX12_scans 240 = .ok (.aload_n 0, 1) := by decide +kernel
theorem dX12_scans_241 : decode cX12_scans 241 = .ok (.aload_n 0, 1) := by decide +kernel
theorem dX12_scans_242 : decode cX12_scans 242 = .ok (.getfield 122, 3) := by decide +kernel
theorem dX12_scans_245 : decode cX12_scans 245 = .ok (.invokevirtual 125, 3) := by decide +kernel
theorem dX12_scans_248 : decode cX12_scans 248 = .ok (.iadd, 1) := by decide +kernel
theorem dX12_scans_249 : decode cX12_scans 249 = .ok (.bipush 48, 2) := by decide +kernel
theorem dX12_scans_251 : decode cX12_scans 251 = .ok (.isub, 1) := by decide +kernel
theorem dX12_scans_252 : decode cX12_scans 252 = .ok (.putfield 129, 3) := by decide +kernel
theorem dX12_scans_255 : decode cX12_scans 255 = .ok (.aload_n 0, 1) := by decide +kernel
theorem dX12_scans_256 : decode cX12_scans 256 = .ok (.dup, 1) := by decide +kernel
theorem dX12_scans_257 : decode cX12_scans 257 = .ok (.getfield 122, 3) := by decide +kernel
theorem dX12_scans_260 : decode cX12_scans 260 = .ok (.iconst 1, 1) := by decide +kernel
theorem dX12_scans_261 : decode cX12_scans 261 = .ok (.iadd, 1) := by decide +kernel
theorem dX12_scans_262 : decode cX12_scans 262 = .ok (.putfield 122, 3) := by decide +kernel
theorem dX12_scans_265 : decode cX12_scans 265 = .ok (.goto (-63), 3) := by decide +kernel
theorem dX12_scans_268 : decode cX12_scans 268 = .ok (.aload_n 0, 1) := by decide +kernel
theorem dX12_scans_269 : decode cX12_scans 269 = .ok (.aload_n 0, 1) := by decide +kernel
theorem dX12_scans_270 : decode cX12_scans 270 = .ok (.getfield 122, 3) := by decide +kernel
theorem dX12_scans_273 : decode cX12_scans 273 = .ok (.aload_n 0, 1) := by decide +kernel
theorem dX12_scans_274 : decode cX12_scans 274 = .ok (.getfield 119, 3) := by decide +kernel
theorem dX12_scans_277 : decode cX12_scans 277 = .ok (.isub, 1) := by decide +kernel
theorem dX12_scans_278 : decode cX12_scans 278 = .ok (.iconst 4, 1) := by decide +kernel
theorem dX12_scans_279 : decode cX12_scans 279 = .ok (.if_icmp .le 7, 3) := by decide +kernel
theorem dX12_scans_282 : decode cX12_scans 282 = .ok (.iconst 4, 1) := by decide +kernel
theorem dX12_scans_283 : decode cX12_scans 283 = .ok (.goto 4, 3) := by decide +kernel
theorem dX12_scans_286 : decode cX12_scans 286 = .ok (.iconst 2, 1) := by decide +kernel
theorem dX12_scans_287 : decode cX12_scans 287 = .ok (.putfield 116, 3) := by decide +kernel
theorem dX12_scans_290 : decode cX12_scans 290 = .ok (.goto 28, 3) := by decide +kernel
theorem dX12_scans_293 : decode cX12_scans 293 = .ok (.aload_n 0, 1) := by decide +kernel
theorem dX12_scans_294 : decode cX12_scans 294 = .ok (.dup, 1) := by decide +kernel
theorem dX12_scans_295 : decode cX12_scans 295 = .ok (.getfield 122, 3) := by decide +kernel
theorem dX12_scans_298 : decode cX12_scans 298 = .ok (.iconst 1, 1) := by decide +kernel
theorem dX12_scans_299 : decode cX12_scans 299 = .ok (.iadd, 1) := by decide +kernel
theorem dX12_scans_300 : decode cX12_scans 300 = .ok (.putfield 122, 3) := by decide +kernel
theorem dX12_scans_303 : decode cX12_scans 303 = .ok (.aload_n 0, 1) := by decide +kernel
theorem dX12_scans_304 : decode cX12_scans 304 = .ok (.iload_n 1, 1) := by decide +kernel
theorem dX12_scans_305 : decode cX12_scans 305 = .ok (.bipush 59, 2) := by decide +kernel
theorem dX12_scans_307 : decode cX12_scans 307 = .ok (.if_icmp .ne 7, 3) := by decide +kernel
theorem dX12_scans_310 : decode cX12_scans 310 = .ok (.iconst 3, 1) := by decide +kernel
theorem dX12_scans_311 : decode cX12_scans 311 = .ok (.goto 4, 3) := by decide +kernel
theorem dX12_scans_314 : decode cX12_scans 314 = .ok (.iconst 4, 1) := by decide +kernel
theorem dX12_scans_315 : decode cX12_scans 315 = .ok (.putfield 116, 3) := by decide +kernel
theorem dX12_scans_318 : decode cX12_scans 318 = .ok (.return_, 1) := by decide +kernel
theorem dX12_isWord_0 : decode cX12_isWord 0 = .ok (.aload_n 0, 1) := by decide +kernel
theorem dX12_isWord_1 : decode cX12_isWord 1 = .ok (.getfield 116, 3) := by decide +kernel
theorem dX12_isWord_4 : decode cX12_isWord 4 = .ok (.iconst 1, 1) := by decide +kernel
theorem dX12_isWord_5 : decode cX12_isWord 5 = .ok (.if_icmp .ne 16, 3) := by decide +kernel
theorem dX12_isWord_8 : decode cX12_isWord 8 = .ok (.aload_n 0, 1) := by decide +kernel
theorem dX12_isWord_9 : decode cX12_isWord 9 = .ok (.getfield 132, 3) := by decide +kernel
theorem dX12_isWord_12 : decode cX12_isWord 12 = .ok (.lload_n 1, 1) := by decide +kernel
theorem dX12_isWord_13 : decode cX12_isWord 13 = .ok (.lcmp, 1) := by decide +kernel
theorem dX12_isWord_14 : decode cX12_isWord 14 = .ok (.ifCond .ne 7, 3) := by decide +kernel
theorem dX12_isWord_17 : decode cX12_isWord 17 = .ok (.iconst 1, 1) := by decide +kernel
theorem dX12_isWord_18 : decode cX12_isWord 18 = .ok (.goto 4, 3) := by decide +kernel
theorem dX12_isWord_21 : decode cX12_isWord 21 = .ok (.iconst 0, 1) := by decide +kernel
theorem dX12_isWord_22 : decode cX12_isWord 22 = .ok (.ireturn, 1) := by decide +kernel
theorem dX12_settingHere_0 : decode cX12_settingHere 0 = .ok (.aload_n 0, 1) := by decide +kernel
theorem dX12_settingHere_1 : decode cX12_settingHere 1 = .ok (.getfield 116, 3) := by decide +kernel
theorem dX12_settingHere_4 : decode cX12_settingHere 4 = .ok (.iconst 1, 1) := by decide +kernel
theorem dX12_settingHere_5 : decode cX12_settingHere 5 = .ok (.if_icmp .eq 6, 3) := by decide +kernel
theorem dX12_settingHere_8 : decode cX12_settingHere 8 = .ok (.bipush (-2), 2) := by decide +kernel
theorem dX12_settingHere_10 : decode cX12_settingHere 10 = .ok (.ireturn, 1) := by decide +kernel
theorem dX12_settingHere_11 : decode cX12_settingHere 11 = .ok (.aload_n 0, 1) := by decide +kernel
theorem dX12_settingHere_12 : decode cX12_settingHere 12 = .ok (.getfield 132, 3) := by decide +kernel
theorem dX12_settingHere_15 : decode cX12_settingHere 15 = .ok (.ldc2_w 147, 3) := by decide +kernel
theorem dX12_settingHere_18 : decode cX12_settingHere 18 = .ok (.lcmp, 1) := by decide +kernel
theorem dX12_settingHere_19 : decode cX12_settingHere 19 = .ok (.ifCond .ne 5, 3) := by decide +kernel
theorem dX12_settingHere_22 : decode cX12_settingHere 22 = .ok (.iconst 0, 1) := by decide +kernel
theorem dX12_settingHere_23 : decode cX12_settingHere 23 = .ok (.ireturn, 1) := by decide +kernel
theorem dX12_settingHere_24 : decode cX12_settingHere 24 = .ok (.aload_n 0, 1) := by decide +kernel
theorem dX12_settingHere_25 : decode cX12_settingHere 25 = .ok (.getfield 132, 3) := by decide +kernel
theorem dX12_settingHere_28 : decode cX12_settingHere 28 = .ok (.ldc2_w 149, 3) := by decide +kernel
theorem dX12_settingHere_31 : decode cX12_settingHere 31 = .ok (.lcmp, 1) := by decide +kernel
theorem dX12_settingHere_32 : decode cX12_settingHere 32 = .ok (.ifCond .ne 5, 3) := by decide +kernel
theorem dX12_settingHere_35 : decode cX12_settingHere 35 = .ok (.iconst 1, 1) := by decide +kernel
theorem dX12_settingHere_36 : decode cX12_settingHere 36 = .ok (.ireturn, 1) := by decide +kernel
theorem dX12_settingHere_37 : decode cX12_settingHere 37 = .ok (.aload_n 0, 1) := by decide +kernel
theorem dX12_settingHere_38 : decode cX12_settingHere 38 = .ok (.getfield 132, 3) := by decide +kernel
theorem dX12_settingHere_41 : decode cX12_settingHere 41 = .ok (.ldc2_w 151, 3) := by decide +kernel
theorem dX12_settingHere_44 : decode cX12_settingHere 44 = .ok (.lcmp, 1) := by decide +kernel
theorem dX12_settingHere_45 : decode cX12_settingHere 45 = .ok (.ifCond .ne 5, 3) := by decide +kernel
theorem dX12_settingHere_48 : decode cX12_settingHere 48 = .ok (.iconst 2, 1) := by decide +kernel
theorem dX12_settingHere_49 : decode cX12_settingHere 49 = .ok (.ireturn, 1) := by decide +kernel
theorem dX12_settingHere_50 : decode cX12_settingHere 50 = .ok (.aload_n 0, 1) := by decide +kernel
theorem dX12_settingHere_51 : decode cX12_settingHere 51 = .ok (.getfield 132, 3) := by decide +kernel
theorem dX12_settingHere_54 : decode cX12_settingHere 54 = .ok (.ldc2_w 153, 3) := by decide +kernel
theorem dX12_settingHere_57 : decode cX12_settingHere 57 = .ok (.lcmp, 1) := by decide +kernel
theorem dX12_settingHere_58 : decode cX12_settingHere 58 = .ok (.ifCond .ne 5, 3) := by decide +kernel
theorem dX12_settingHere_61 : decode cX12_settingHere 61 = .ok (.iconst 3, 1) := by decide +kernel
theorem dX12_settingHere_62 : decode cX12_settingHere 62 = .ok (.ireturn, 1) := by decide +kernel
theorem dX12_settingHere_63 : decode cX12_settingHere 63 = .ok (.aload_n 0, 1) := by decide +kernel
theorem dX12_settingHere_64 : decode cX12_settingHere 64 = .ok (.getfield 132, 3) := by decide +kernel
theorem dX12_settingHere_67 : decode cX12_settingHere 67 = .ok (.ldc2_w 155, 3) := by decide +kernel
theorem dX12_settingHere_70 : decode cX12_settingHere 70 = .ok (.lcmp, 1) := by decide +kernel
theorem dX12_settingHere_71 : decode cX12_settingHere 71 = .ok (.ifCond .ne 5, 3) := by decide +kernel
theorem dX12_settingHere_74 : decode cX12_settingHere 74 = .ok (.iconst 4, 1) := by decide +kernel
theorem dX12_settingHere_75 : decode cX12_settingHere 75 = .ok (.ireturn, 1) := by decide +kernel
theorem dX12_settingHere_76 : decode cX12_settingHere 76 = .ok (.aload_n 0, 1) := by decide +kernel
theorem dX12_settingHere_77 : decode cX12_settingHere 77 = .ok (.getfield 132, 3) := by decide +kernel
theorem dX12_settingHere_80 : decode cX12_settingHere 80 = .ok (.ldc2_w 157, 3) := by decide +kernel
theorem dX12_settingHere_83 : decode cX12_settingHere 83 = .ok (.lcmp, 1) := by decide +kernel
theorem dX12_settingHere_84 : decode cX12_settingHere 84 = .ok (.ifCond .ne 5, 3) := by decide +kernel
theorem dX12_settingHere_87 : decode cX12_settingHere 87 = .ok (.iconst 5, 1) := by decide +kernel
theorem dX12_settingHere_88 : decode cX12_settingHere 88 = .ok (.ireturn, 1) := by decide +kernel
theorem dX12_settingHere_89 : decode cX12_settingHere 89 = .ok (.aload_n 0, 1) := by decide +kernel
theorem dX12_settingHere_90 : decode cX12_settingHere 90 = .ok (.getfield 132, 3) := by decide +kernel
theorem dX12_settingHere_93 : decode cX12_settingHere 93 = .ok (.ldc2_w 159, 3) := by decide +kernel
theorem dX12_settingHere_96 : decode cX12_settingHere 96 = .ok (.lcmp, 1) := by decide +kernel
theorem dX12_settingHere_97 : decode cX12_settingHere 97 = .ok (.ifCond .ne 8, 3) := by decide +kernel
theorem dX12_settingHere_100 : decode cX12_settingHere 100 = .ok (.bipush 6, 2) := by decide +kernel
theorem dX12_settingHere_102 : decode cX12_settingHere 102 = .ok (.goto 5, 3) := by decide +kernel
theorem dX12_settingHere_105 : decode cX12_settingHere 105 = .ok (.bipush (-2), 2) := by decide +kernel
theorem dX12_settingHere_107 : decode cX12_settingHere 107 = .ok (.ireturn, 1) := by decide +kernel
theorem dX12_isName_0 : decode cX12_isName 0 = .ok (.aload_n 0, 1) := by decide +kernel
theorem dX12_isName_1 : decode cX12_isName 1 = .ok (.getfield 116, 3) := by decide +kernel
