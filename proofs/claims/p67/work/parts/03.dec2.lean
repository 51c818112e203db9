theorem dX5_takeLimit_32 : decode cX5_takeLimit 32 = .ok (.ireturn, 1) := by decide +kernel
theorem dX5_takeAge_0 : decode cX5_takeAge 0 = .ok (.aload_n 0, 1) := by decide +kernel
theorem dX5_takeAge_1 : decode cX5_takeAge 1 = .ok (.getfield 18, 3) := by decide +kernel
theorem dX5_takeAge_4 : decode cX5_takeAge 4 = .ok (.aload_n 0, 1) := by decide +kernel
theorem dX5_takeAge_5 : decode cX5_takeAge 5 = .ok (.getfield 25, 3) := by decide +kernel
theorem dX5_takeAge_8 : decode cX5_takeAge 8 = .ok (.getfield 171, 3) := by decide +kernel
theorem dX5_takeAge_11 : decode cX5_takeAge 11 = .ok (.putfield 105, 3) := by decide +kernel
theorem dX5_takeAge_14 : decode cX5_takeAge 14 = .ok (.aload_n 0, 1) := by decide +kernel
theorem dX5_takeAge_15 : decode cX5_takeAge 15 = .ok (.bipush 12, 2) := by decide +kernel
theorem dX5_takeAge_17 : decode cX5_takeAge 17 = .ok (.putfield 39, 3) := by decide +kernel
theorem dX5_takeAge_20 : decode cX5_takeAge 20 = .ok (.aload_n 0, 1) := by decide +kernel
theorem dX5_takeAge_21 : decode cX5_takeAge 21 = .ok (.iconst 0, 1) := by decide +kernel
theorem dX5_takeAge_22 : decode cX5_takeAge 22 = .ok (.sipush 999, 3) := by decide +kernel
theorem dX5_takeAge_25 : decode cX5_takeAge 25 = .ok (.invokevirtual 181, 3) := by decide +kernel
theorem dX5_takeAge_28 : decode cX5_takeAge 28 = .ok (.ireturn, 1) := by decide +kernel
theorem dX5_takeChangeTime_0 : decode cX5_takeChangeTime 0 = .ok (.aload_n 0, 1) := by decide +kernel
theorem dX5_takeChangeTime_1 : decode cX5_takeChangeTime 1 = .ok (.aload_n 0, 1) := by decide +kernel
theorem dX5_takeChangeTime_2 : decode cX5_takeChangeTime 2 = .ok (.getfield 25, 3) := by decide +kernel
theorem dX5_takeChangeTime_5 : decode cX5_takeChangeTime 5 = .ok (.getfield 171, 3) := by decide +kernel
theorem dX5_takeChangeTime_8 : decode cX5_takeChangeTime 8 = .ok (.putfield 184, 3) := by decide +kernel
theorem dX5_takeChangeTime_11 : decode cX5_takeChangeTime 11 = .ok (.aload_n 0, 1) := by decide +kernel
theorem dX5_takeChangeTime_12 : decode cX5_takeChangeTime 12 = .ok (.bipush 9, 2) := by decide +kernel
theorem dX5_takeChangeTime_14 : decode cX5_takeChangeTime 14 = .ok (.putfield 39, 3) := by decide +kernel
theorem dX5_takeChangeTime_17 : decode cX5_takeChangeTime 17 = .ok (.aload_n 0, 1) := by decide +kernel
theorem dX5_takeChangeTime_18 : decode cX5_takeChangeTime 18 = .ok (.iconst 1, 1) := by decide +kernel
theorem dX5_takeChangeTime_19 : decode cX5_takeChangeTime 19 = .ok (.sipush 5000, 3) := by decide +kernel
theorem dX5_takeChangeTime_22 : decode cX5_takeChangeTime 22 = .ok (.invokevirtual 181, 3) := by decide +kernel
theorem dX5_takeChangeTime_25 : decode cX5_takeChangeTime 25 = .ok (.ireturn, 1) := by decide +kernel
theorem dX5_takeChangeName_0 : decode cX5_takeChangeName 0 = .ok (.aload_n 0, 1) := by decide +kernel
theorem dX5_takeChangeName_1 : decode cX5_takeChangeName 1 = .ok (.invokevirtual 117, 3) := by decide +kernel
theorem dX5_takeChangeName_4 : decode cX5_takeChangeName 4 = .ok (.ifCond .ne 5, 3) := by decide +kernel
theorem dX5_takeChangeName_7 : decode cX5_takeChangeName 7 = .ok (.iconst 1, 1) := by decide +kernel
theorem dX5_takeChangeName_8 : decode cX5_takeChangeName 8 = .ok (.ireturn, 1) := by decide +kernel
theorem dX5_takeChangeName_9 : decode cX5_takeChangeName 9 = .ok (.aload_n 0, 1) := by decide +kernel
theorem dX5_takeChangeName_10 : decode cX5_takeChangeName 10 = .ok (.aload_n 0, 1) := by decide +kernel
theorem dX5_takeChangeName_11 : decode cX5_takeChangeName 11 = .ok (.getfield 18, 3) := by decide +kernel
theorem dX5_takeChangeName_14 : decode cX5_takeChangeName 14 = .ok (.aload_n 0, 1) := by decide +kernel
theorem dX5_takeChangeName_15 : decode cX5_takeChangeName 15 = .ok (.getfield 25, 3) := by decide +kernel
theorem dX5_takeChangeName_18 : decode cX5_takeChangeName 18 = .ok (.getfield 121, 3) := by decide +kernel
theorem dX5_takeChangeName_21 : decode cX5_takeChangeName 21 = .ok (.invokevirtual 125, 3) := by decide +kernel
theorem dX5_takeChangeName_24 : decode cX5_takeChangeName 24 = .ok (.putfield 187, 3) := by decide +kernel
theorem dX5_takeChangeName_27 : decode cX5_takeChangeName 27 = .ok (.aload_n 0, 1) := by decide +kernel
theorem dX5_takeChangeName_28 : decode cX5_takeChangeName 28 = .ok (.bipush 10, 2) := by decide +kernel
theorem dX5_takeChangeName_30 : decode cX5_takeChangeName 30 = .ok (.putfield 39, 3) := by decide +kernel
theorem dX5_takeChangeName_33 : decode cX5_takeChangeName 33 = .ok (.aload_n 0, 1) := by decide +kernel
theorem dX5_takeChangeName_34 : decode cX5_takeChangeName 34 = .ok (.getfield 187, 3) := by decide +kernel
theorem dX5_takeChangeName_37 : decode cX5_takeChangeName 37 = .ok (.bipush (-2), 2) := by decide +kernel
theorem dX5_takeChangeName_39 : decode cX5_takeChangeName 39 = .ok (.if_icmp .ne 7, 3) := by decide +kernel
theorem dX5_takeChangeName_42 : decode cX5_takeChangeName 42 = .ok (.iconst 3, 1) := by decide +kernel
theorem dX5_takeChangeName_43 : decode cX5_takeChangeName 43 = .ok (.goto 4, 3) := by decide +kernel
theorem dX5_takeChangeName_46 : decode cX5_takeChangeName 46 = .ok (.iconst 0, 1) := by decide +kernel
theorem dX5_takeChangeName_47 : decode cX5_takeChangeName 47 = .ok (.ireturn, 1) := by decide +kernel
theorem dX5_takeChangeSetting_0 : decode cX5_takeChangeSetting 0 = .ok (.aload_n 0, 1) := by decide +kernel
theorem dX5_takeChangeSetting_1 : decode cX5_takeChangeSetting 1 = .ok (.aload_n 0, 1) := by decide +kernel
theorem dX5_takeChangeSetting_2 : decode cX5_takeChangeSetting 2 = .ok (.getfield 25, 3) := by decide +kernel
theorem dX5_takeChangeSetting_5 : decode cX5_takeChangeSetting 5 = .ok (.getfield 99, 3) := by decide +kernel
theorem dX5_takeChangeSetting_8 : decode cX5_takeChangeSetting 8 = .ok (.putfield 145, 3) := by decide +kernel
theorem dX5_takeChangeSetting_11 : decode cX5_takeChangeSetting 11 = .ok (.aload_n 0, 1) := by decide +kernel
theorem dX5_takeChangeSetting_12 : decode cX5_takeChangeSetting 12 = .ok (.bipush 11, 2) := by decide +kernel
theorem dX5_takeChangeSetting_14 : decode cX5_takeChangeSetting 14 = .ok (.putfield 39, 3) := by decide +kernel
theorem dX5_takeChangeSetting_17 : decode cX5_takeChangeSetting 17 = .ok (.aload_n 0, 1) := by decide +kernel
theorem dX5_takeChangeSetting_18 : decode cX5_takeChangeSetting 18 = .ok (.getfield 145, 3) := by decide +kernel
theorem dX5_takeChangeSetting_21 : decode cX5_takeChangeSetting 21 = .ok (.ifCond .eq 19, 3) := by decide +kernel
theorem dX5_takeChangeSetting_24 : decode cX5_takeChangeSetting 24 = .ok (.aload_n 0, 1) := by decide +kernel
theorem dX5_takeChangeSetting_25 : decode cX5_takeChangeSetting 25 = .ok (.getfield 145, 3) := by decide +kernel
theorem dX5_takeChangeSetting_28 : decode cX5_takeChangeSetting 28 = .ok (.iconst 1, 1) := by decide +kernel
theorem dX5_takeChangeSetting_29 : decode cX5_takeChangeSetting 29 = .ok (.if_icmp .eq 11, 3) := by decide +kernel
theorem dX5_takeChangeSetting_32 : decode cX5_takeChangeSetting 32 = .ok (.aload_n 0, 1) := by decide +kernel
theorem dX5_takeChangeSetting_33 : decode cX5_takeChangeSetting 33 = .ok (.getfield 145, 3) := by decide +kernel
theorem dX5_takeChangeSetting_36 : decode cX5_takeChangeSetting 36 = .ok (.iconst 4, 1) := by decide +kernel
theorem dX5_takeChangeSetting_37 : decode cX5_takeChangeSetting 37 = .ok (.if_icmp .ne 7, 3) := by decide +kernel
theorem dX5_takeChangeSetting_40 : decode cX5_takeChangeSetting 40 = .ok (.iconst 0, 1) := by decide +kernel
theorem dX5_takeChangeSetting_41 : decode cX5_takeChangeSetting 41 = .ok (.goto 4, 3) := by decide +kernel
theorem dX5_takeChangeSetting_44 : decode cX5_takeChangeSetting 44 = .ok (.iconst 1, 1) := by decide +kernel
theorem dX5_takeChangeSetting_45 : decode cX5_takeChangeSetting 45 = .ok (.ireturn, 1) := by decide +kernel
theorem dX5_takeChangeValue_0 : decode cX5_takeChangeValue 0 = .ok (.aload_n 0, 1) := by decide +kernel
theorem dX5_takeChangeValue_1 : decode cX5_takeChangeValue 1 = .ok (.aload_n 0, 1) := by decide +kernel
theorem dX5_takeChangeValue_2 : decode cX5_takeChangeValue 2 = .ok (.getfield 145, 3) := by decide +kernel
theorem dX5_takeChangeValue_5 : decode cX5_takeChangeValue 5 = .ok (.invokevirtual 163, 3) := by decide +kernel
theorem dX5_takeChangeValue_8 : decode cX5_takeChangeValue 8 = .ok (.istore_n 1, 1) := by decide +kernel
theorem dX5_takeChangeValue_9 : decode cX5_takeChangeValue 9 = .ok (.iload_n 1, 1) := by decide +kernel
theorem dX5_takeChangeValue_10 : decode cX5_takeChangeValue 10 = .ok (.ifCond .ne 32, 3) := by decide +kernel
theorem dX5_takeChangeValue_13 : decode cX5_takeChangeValue 13 = .ok (.aload_n 0, 1) := by decide +kernel
theorem dX5_takeChangeValue_14 : decode cX5_takeChangeValue 14 = .ok (.getfield 18, 3) := by decide +kernel
theorem dX5_takeChangeValue_17 : decode cX5_takeChangeValue 17 = .ok (.getfield 108, 3) := by decide +kernel
theorem dX5_takeChangeValue_20 : decode cX5_takeChangeValue 20 = .ok (.aload_n 0, 1) := by decide +kernel
theorem dX5_takeChangeValue_21 : decode cX5_takeChangeValue 21 = .ok (.getfield 184, 3) := by decide +kernel
theorem dX5_takeChangeValue_24 : decode cX5_takeChangeValue 24 = .ok (.aload_n 0, 1) := by decide +kernel
theorem dX5_takeChangeValue_25 : decode cX5_takeChangeValue 25 = .ok (.getfield 187, 3) := by decide +kernel
theorem dX5_takeChangeValue_28 : decode cX5_takeChangeValue 28 = .ok (.aload_n 0, 1) := by decide +kernel
theorem dX5_takeChangeValue_29 : decode cX5_takeChangeValue 29 = .ok (.getfield 145, 3) := by decide +kernel
theorem dX5_takeChangeValue_32 : decode cX5_takeChangeValue 32 = .ok (.aload_n 0, 1) := by decide +kernel
theorem dX5_takeChangeValue_33 : decode cX5_takeChangeValue 33 = .ok (.getfield 25, 3) := by decide +kernel
theorem dX5_takeChangeValue_36 : decode cX5_takeChangeValue 36 = .ok (.getfield 171, 3) := by decide +kernel
theorem dX5_takeChangeValue_39 : decode cX5_takeChangeValue 39 = .ok (.invokevirtual 190, 3) := by decide +kernel
theorem dX5_takeChangeValue_42 : decode cX5_takeChangeValue 42 = .ok (.aload_n 0, 1) := by decide +kernel
theorem dX5_takeChangeValue_43 : decode cX5_takeChangeValue 43 = .ok (.bipush 12, 2) := by decide +kernel
theorem dX5_takeChangeValue_45 : decode cX5_takeChangeValue 45 = .ok (.putfield 39, 3) := by decide +kernel
theorem dX5_takeChangeValue_48 : decode cX5_takeChangeValue 48 = .ok (.iload_n 1, 1) := by decide +kernel
theorem dX5_takeChangeValue_49 : decode cX5_takeChangeValue 49 = .ok (.ireturn, 1) := by decide +kernel
theorem dX5_takeStatementEnd_0 : decode cX5_takeStatementEnd 0 = .ok (.aload_n 0, 1) := by decide +kernel
theorem dX5_takeStatementEnd_1 : decode cX5_takeStatementEnd 1 = .ok (.iconst 0, 1) := by decide +kernel
theorem dX5_takeStatementEnd_2 : decode cX5_takeStatementEnd 2 = .ok (.putfield 39, 3) := by decide +kernel
theorem dX5_takeStatementEnd_5 : decode cX5_takeStatementEnd 5 = .ok (.aload_n 0, 1) := by decide +kernel
theorem dX5_takeStatementEnd_6 : decode cX5_takeStatementEnd 6 = .ok (.getfield 25, 3) := by decide +kernel
theorem dX5_takeStatementEnd_9 : decode cX5_takeStatementEnd 9 = .ok (.getfield 36, 3) := by decide +kernel
theorem dX5_takeStatementEnd_12 : decode cX5_takeStatementEnd 12 = .ok (.iconst 3, 1) := by decide +kernel
theorem dX5_takeStatementEnd_13 : decode cX5_takeStatementEnd 13 = .ok (.if_icmp .ne 7, 3) := by decide +kernel
theorem dX5_takeStatementEnd_16 : decode cX5_takeStatementEnd 16 = .ok (.iconst 0, 1) := by decide +kernel
theorem dX5_takeStatementEnd_17 : decode cX5_takeStatementEnd 17 = .ok (.goto 4, 3) := by decide +kernel
theorem dX5_takeStatementEnd_20 : decode cX5_takeStatementEnd 20 = .ok (.iconst 1, 1) := by decide +kernel
theorem dX5_takeStatementEnd_21 : decode cX5_takeStatementEnd 21 = .ok (.ireturn, 1) := by decide +kernel
theorem dX6_init_0 : decode cX6_init 0 = .ok (.aload_n 0, 1) := by decide +kernel
theorem dX6_init_1 : decode cX6_init 1 = .ok (.invokespecial 3, 3) := by decide +kernel
theorem dX6_init_4 : decode cX6_init 4 = .ok (.return_, 1) := by decide +kernel
theorem dX6_begin_0 : decode cX6_begin 0 = .ok (.aload_n 0, 1) := by decide +kernel
theorem dX6_begin_1 : decode cX6_begin 1 = .ok (.iconst 0, 1) := by decide +kernel
theorem dX6_begin_2 : decode cX6_begin 2 = .ok (.putfield 9, 3) := by decide +kernel
theorem dX6_begin_5 : decode cX6_begin 5 = .ok (.return_, 1) := by decide +kernel
theorem dX6_scan_0 : decode cX6_scan 0 = .ok (.aload_n 0, 1) := by decide +kernel
theorem dX6_scan_1 : decode cX6_scan 1 = .ok (.aload_n 1, 1) := by decide +kernel
theorem dX6_scan_2 : decode cX6_scan 2 = .ok (.invokevirtual 15, 3) := by decide +kernel
theorem dX6_scan_5 : decode cX6_scan 5 = .ok (.aload_n 0, 1) := by decide +kernel
theorem dX6_scan_6 : decode cX6_scan 6 = .ok (.aload_n 0, 1) := by decide +kernel
theorem dX6_scan_7 : decode cX6_scan 7 = .ok (.getfield 9, 3) := by decide +kernel
theorem dX6_scan_10 : decode cX6_scan 10 = .ok (.putfield 19, 3) := by decide +kernel
theorem dX6_scan_13 : decode cX6_scan 13 = .ok (.aload_n 0, 1) := by decide +kernel
theorem dX6_scan_14 : decode cX6_scan 14 = .ok (.iconst (-1), 1) := by decide +kernel
theorem dX6_scan_15 : decode cX6_scan 15 = .ok (.putfield 22, 3) := by decide +kernel
theorem dX6_scan_18 : decode cX6_scan 18 = .ok (.aload_n 1, 1) := by decide +kernel
theorem dX6_scan_19 : decode cX6_scan 19 = .ok (.aload_n 0, 1) := by decide +kernel
theorem dX6_scan_20 : decode cX6_scan 20 = .ok (.getfield 9, 3) := by decide +kernel
theorem dX6_scan_23 : decode cX6_scan 23 = .ok (.invokevirtual 25, 3) := by decide +kernel
theorem dX6_scan_26 : decode cX6_scan 26 = .ok (.istore_n 2, 1) := by decide +kernel
theorem dX6_scan_27 : decode cX6_scan 27 = .ok (.aload_n 0, 1) := by decide +kernel
theorem dX6_scan_28 : decode cX6_scan 28 = .ok (.getfield 9, 3) := by decide +kernel
theorem dX6_scan_31 : decode cX6_scan 31 = .ok (.aload_n 1, 1) := by decide +kernel
theorem dX6_scan_32 : decode cX6_scan 32 = .ok (.getfield 31, 3) := by decide +kernel
theorem dX6_scan_35 : decode cX6_scan 35 = .ok (.if_icmp .lt 11, 3) := by decide +kernel
theorem dX6_scan_38 : decode cX6_scan 38 = .ok (.aload_n 0, 1) := by decide +kernel
theorem dX6_scan_39 : decode cX6_scan 39 = .ok (.iconst 0, 1) := by decide +kernel
theorem dX6_scan_40 : decode cX6_scan 40 = .ok (.putfield 34, 3) := by decide +kernel
theorem dX6_scan_43 : decode cX6_scan 43 = .ok (.goto 58, 3) := by decide +kernel
theorem dX6_scan_46 : decode cX6_scan 46 = .ok (.iload_n 2, 1) := by decide +kernel
theorem dX6_scan_47 : decode cX6_scan 47 = .ok (.invokestatic 37, 3) := by decide +kernel
theorem dX6_scan_50 : decode cX6_scan 50 = .ok (.ifCond .eq 11, 3) := by decide +kernel
theorem dX6_scan_53 : decode cX6_scan 53 = .ok (.aload_n 0, 1) := by decide +kernel
theorem dX6_scan_54 : decode cX6_scan 54 = .ok (.aload_n 1, 1) := by decide +kernel
theorem dX6_scan_55 : decode cX6_scan 55 = .ok (.invokevirtual 41, 3) := by decide +kernel
theorem dX6_scan_58 : decode cX6_scan 58 = .ok (.goto 43, 3) := by decide +kernel
theorem dX6_scan_61 : decode cX6_scan 61 = .ok (.iload_n 2, 1) := by decide +kernel
theorem dX6_scan_62 : decode cX6_scan 62 = .ok (.invokestatic 44, 3) := by decide +kernel
theorem dX6_scan_65 : decode cX6_scan 65 = .ok (.ifCond .eq 11, 3) := by decide +kernel
theorem dX6_scan_68 : decode cX6_scan 68 = .ok (.aload_n 0, 1) := by decide +kernel
theorem dX6_scan_69 : decode cX6_scan 69 = .ok (.aload_n 1, 1) := by decide +kernel
theorem dX6_scan_70 : decode cX6_scan 70 = .ok (.invokevirtual 47, 3) := by decide +kernel
theorem dX6_scan_73 : decode cX6_scan 73 = .ok (.goto 28, 3) := by decide +kernel
theorem dX6_scan_76 : decode cX6_scan 76 = .ok (.aload_n 0, 1) := by decide +kernel
theorem dX6_scan_77 : decode cX6_scan 77 = .ok (.iload_n 2, 1) := by decide +kernel
theorem dX6_scan_78 : decode cX6_scan 78 = .ok (.bipush 59, 2) := by decide +kernel
theorem dX6_scan_80 : decode cX6_scan 80 = .ok (.if_icmp .ne 7, 3) := by decide +kernel
theorem dX6_scan_83 : decode cX6_scan 83 = .ok (.iconst 3, 1) := by decide +kernel
theorem dX6_scan_84 : decode cX6_scan 84 = .ok (.goto 4, 3) := by decide +kernel
theorem dX6_scan_87 : decode cX6_scan 87 = .ok (.iconst 4, 1) := by decide +kernel
theorem dX6_scan_88 : decode cX6_scan 88 = .ok (.putfield 34, 3) := by decide +kernel
theorem dX6_scan_91 : decode cX6_scan 91 = .ok (.aload_n 0, 1) := by decide +kernel
theorem dX6_scan_92 : decode cX6_scan 92 = .ok (.dup, 1) := by decide +kernel
theorem dX6_scan_93 : decode cX6_scan 93 = .ok (.getfield 9, 3) := by decide +kernel
theorem dX6_scan_96 : decode cX6_scan 96 = .ok (.iconst 1, 1) := by decide +kernel
theorem dX6_scan_97 : decode cX6_scan 97 = .ok (.iadd, 1) := by decide +kernel
theorem dX6_scan_98 : decode cX6_scan 98 = .ok (.putfield 9, 3) := by decide +kernel
theorem dX6_scan_101 : decode cX6_scan 101 = .ok (.return_, 1) := by decide +kernel
theorem dX6_skipSpaces_0 : decode cX6_skipSpaces 0 = .ok (.aload_n 0, 1) := by decide +kernel
theorem dX6_skipSpaces_1 : decode cX6_skipSpaces 1 = .ok (.getfield 9, 3) := by decide +kernel
theorem dX6_skipSpaces_4 : decode cX6_skipSpaces 4 = .ok (.aload_n 1, 1) := by decide +kernel
theorem dX6_skipSpaces_5 : decode cX6_skipSpaces 5 = .ok (.getfield 31, 3) := by decide +kernel
theorem dX6_skipSpaces_8 : decode cX6_skipSpaces 8 = .ok (.if_icmp .ge 42, 3) := by decide +kernel
theorem dX6_skipSpaces_11 : decode cX6_skipSpaces 11 = .ok (.aload_n 1, 1) := by decide +kernel
theorem dX6_skipSpaces_12 : decode cX6_skipSpaces 12 = .ok (.aload_n 0, 1) := by decide +kernel
theorem dX6_skipSpaces_13 : decode cX6_skipSpaces 13 = .ok (.getfield 9, 3) := by decide +kernel
theorem dX6_skipSpaces_16 : decode cX6_skipSpaces 16 = .ok (.invokevirtual 25, 3) := by decide +kernel
theorem dX6_skipSpaces_19 : decode cX6_skipSpaces 19 = .ok (.bipush 32, 2) := by decide +kernel
theorem dX6_skipSpaces_21 : decode cX6_skipSpaces 21 = .ok (.if_icmp .eq 16, 3) := by decide +kernel
theorem dX6_skipSpaces_24 : decode cX6_skipSpaces 24 = .ok (.aload_n 1, 1) := by decide +kernel
theorem dX6_skipSpaces_25 : decode cX6_skipSpaces 25 = .ok (.aload_n 0, 1) := by decide +kernel
theorem dX6_skipSpaces_26 : decode cX6_skipSpaces 26 = .ok (.getfield 9, 3) := by decide +kernel
theorem dX6_skipSpaces_29 : decode cX6_skipSpaces 29 = .ok (.invokevirtual 25, 3) := by decide +kernel
theorem dX6_skipSpaces_32 : decode cX6_skipSpaces 32 = .ok (.bipush 10, 2) := by decide +kernel
theorem dX6_skipSpaces_34 : decode cX6_skipSpaces 34 = .ok (.if_icmp .ne 16, 3) := by decide +kernel
theorem dX6_skipSpaces_37 : decode cX6_skipSpaces 37 = .ok (.aload_n 0, 1) := by decide +kernel
theorem dX6_skipSpaces_38 : decode cX6_skipSpaces 38 = .ok (.dup, 1) := by decide +kernel
theorem dX6_skipSpaces_39 : decode cX6_skipSpaces 39 = .ok (.getfield 9, 3) := by decide +kernel
theorem dX6_skipSpaces_42 : decode cX6_skipSpaces 42 = .ok (.iconst 1, 1) := by decide +kernel
theorem dX6_skipSpaces_43 : decode cX6_skipSpaces 43 = .ok (.iadd, 1) := by decide +kernel
theorem dX6_skipSpaces_44 : decode cX6_skipSpaces 44 = .ok (.putfield 9, 3) := by decide +kernel
theorem dX6_skipSpaces_47 : decode cX6_skipSpaces 47 = .ok (.goto (-47), 3) := by decide +kernel
theorem dX6_skipSpaces_50 : decode cX6_skipSpaces 50 = .ok (.return_, 1) := by decide +kernel
theorem dX6_scanWord_0 : decode cX6_scanWord 0 = .ok (.aload_n 0, 1) := by decide +kernel
theorem dX6_scanWord_1 : decode cX6_scanWord 1 = .ok (.lconst 0, 1) := by decide +kernel
theorem dX6_scanWord_2 : decode cX6_scanWord 2 = .ok (.putfield 50, 3) := by decide +kernel
theorem dX6_scanWord_5 : decode cX6_scanWord 5 = .ok (.aload_n 0, 1) := by decide +kernel
theorem dX6_scanWord_6 : decode cX6_scanWord 6 = .ok (.getfield 9, 3) := by decide +kernel
theorem dX6_scanWord_9 : decode cX6_scanWord 9 = .ok (.aload_n 1, 1) := by decide +kernel
theorem dX6_scanWord_10 : decode cX6_scanWord 10 = .ok (.getfield 31, 3) := by decide +kernel
theorem dX6_scanWord_13 : decode cX6_scanWord 13 = .ok (.if_icmp .ge 58, 3) := by decide +kernel
theorem dX6_scanWord_16 : decode cX6_scanWord 16 = .ok (.aload_n 1, 1) := by decide +kernel
theorem dX6_scanWord_17 : decode cX6_scanWord 17 = .ok (.aload_n 0, 1) := by decide +kernel
theorem dX6_scanWord_18 : decode cX6_scanWord 18 = .ok (.getfield 9, 3) := by decide +kernel
theorem dX6_scanWord_21 : decode cX6_scanWord 21 = .ok (.invokevirtual 25, 3) := by decide +kernel
theorem dX6_scanWord_24 : decode cX6_scanWord 24 = .ok (.invokestatic 37, 3) := by decide +kernel
theorem dX6_scanWord_27 : decode cX6_scanWord 27 = .ok (.ifCond .eq 44, 3) := by decide +kernel
theorem dX6_scanWord_30 : decode cX6_scanWord 30 = .ok (.aload_n 0, 1) := by decide +kernel
theorem dX6_scanWord_31 : decode cX6_scanWord 31 = .ok (.aload_n 0, 1) := by decide +kernel
theorem dX6_scanWord_32 : decode cX6_scanWord 32 = .ok (.getfield 50, 3) := by decide +kernel
theorem dX6_scanWord_35 : decode cX6_scanWord 35 = .ok (.aload_n 0, 1) := by decide +kernel
theorem dX6_scanWord_36 : decode cX6_scanWord 36 = .ok (.getfield 9, 3) := by decide +kernel
theorem dX6_scanWord_39 : decode cX6_scanWord 39 = .ok (.aload_n 0, 1) := by decide +kernel
theorem dX6_scanWord_40 : decode cX6_scanWord 40 = .ok (.getfield 19, 3) := by decide +kernel
theorem dX6_scanWord_43 : decode cX6_scanWord 43 = .ok (.isub, 1) := by decide +kernel
theorem dX6_scanWord_44 : decode cX6_scanWord 44 = .ok (.aload_n 1, 1) := by decide +kernel
theorem dX6_scanWord_45 : decode cX6_scanWord 45 = .ok (.aload_n 0, 1) := by decide +kernel
theorem dX6_scanWord_46 : decode cX6_scanWord 46 = .ok (.getfield 9, 3) := by decide +kernel
theorem dX6_scanWord_49 : decode cX6_scanWord 49 = .ok (.invokevirtual 25, 3) := by decide +kernel
theorem dX6_scanWord_52 : decode cX6_scanWord 52 = .ok (.invokestatic 54, 3) := by decide +kernel
theorem dX6_scanWord_55 : decode cX6_scanWord 55 = .ok (.putfield 50, 3) := by decide +kernel
theorem dX6_scanWord_58 : decode cX6_scanWord 58 = .ok (.aload_n 0, 1) := by decide +kernel
theorem dX6_scanWord_59 : decode cX6_scanWord 59 = .ok (.dup, 1) := by decide +kernel
theorem dX6_scanWord_60 : decode cX6_scanWord 60 = .ok (.getfield 9, 3) := by decide +kernel
theorem dX6_scanWord_63 : decode cX6_scanWord 63 = .ok (.iconst 1, 1) := by decide +kernel
theorem dX6_scanWord_64 : decode cX6_scanWord 64 = .ok (.iadd, 1) := by decide +kernel
theorem dX6_scanWord_65 : decode cX6_scanWord 65 = .ok (.putfield 9, 3) := by decide +kernel
theorem dX6_scanWord_68 : decode cX6_scanWord 68 = .ok (.goto (-63), 3) := by decide +kernel
theorem dX6_scanWord_71 : decode cX6_scanWord 71 = .ok (.aload_n 0, 1) := by decide +kernel
theorem dX6_scanWord_72 : decode cX6_scanWord 72 = .ok (.aload_n 0, 1) := by decide +kernel
theorem dX6_scanWord_73 : decode cX6_scanWord 73 = .ok (.getfield 9, 3) := by decide +kernel
theorem dX6_scanWord_76 : decode cX6_scanWord 76 = .ok (.aload_n 0, 1) := by decide +kernel
theorem dX6_scanWord_77 : decode cX6_scanWord 77 = .ok (.getfield 19, 3) := by decide +kernel
theorem dX6_scanWord_80 : decode cX6_scanWord 80 = .ok (.isub, 1) := by decide +kernel
theorem dX6_scanWord_81 : decode cX6_scanWord 81 = .ok (.bipush 8, 2) := by decide +kernel
theorem dX6_scanWord_83 : decode cX6_scanWord 83 = .ok (.if_icmp .gt 7, 3) := by decide +kernel
theorem dX6_scanWord_86 : decode cX6_scanWord 86 = .ok (.iconst 1, 1) := by decide +kernel
theorem dX6_scanWord_87 : decode cX6_scanWord 87 = .ok (.goto 4, 3) := by decide +kernel
theorem dX6_scanWord_90 : decode cX6_scanWord 90 = .ok (.iconst 4, 1) := by decide +kernel
theorem dX6_scanWord_91 : decode cX6_scanWord 91 = .ok (.putfield 34, 3) := by decide +kernel
theorem dX6_scanWord_94 : decode cX6_scanWord 94 = .ok (.aload_n 0, 1) := by decide +kernel
theorem dX6_scanWord_95 : decode cX6_scanWord 95 = .ok (.getfield 34, 3) := by decide +kernel
theorem dX6_scanWord_98 : decode cX6_scanWord 98 = .ok (.iconst 1, 1) := by decide +kernel
theorem dX6_scanWord_99 : decode cX6_scanWord 99 = .ok (.if_icmp .ne 14, 3) := by decide +kernel
theorem dX6_scanWord_102 : decode cX6_scanWord 102 = .ok (.aload_n 0, 1) := by decide +kernel
theorem dX6_scanWord_103 : decode cX6_scanWord 103 = .ok (.aload_n 0, 1) := by decide +kernel
theorem dX6_scanWord_104 : decode cX6_scanWord 104 = .ok (.getfield 50, 3) := by decide +kernel
theorem dX6_scanWord_107 : decode cX6_scanWord 107 = .ok (.invokestatic 58, 3) := by decide +kernel
theorem dX6_scanWord_110 : decode cX6_scanWord 110 = .ok (.putfield 22, 3) := by decide +kernel
theorem dX6_scanWord_113 : decode cX6_scanWord 113 = .ok (.return_, 1) := by decide +kernel
theorem dX6_scanNumber_0 : decode cX6_scanNumber 0 = .ok (.aload_n 0, 1) := by decide +kernel
theorem dX6_scanNumber_1 : decode cX6_scanNumber 1 = .ok (.iconst 0, 1) := by decide +kernel
theorem dX6_scanNumber_2 : decode cX6_scanNumber 2 = .ok (.putfield 62, 3) := by decide +kernel
theorem dX6_scanNumber_5 : decode cX6_scanNumber 5 = .ok (.aload_n 0, 1) := by decide +kernel
theorem dX6_scanNumber_6 : decode cX6_scanNumber 6 = .ok (.getfield 9, 3) := by decide +kernel
theorem dX6_scanNumber_9 : decode cX6_scanNumber 9 = .ok (.aload_n 1, 1) := by decide +kernel
theorem dX6_scanNumber_10 : decode cX6_scanNumber 10 = .ok (.getfield 31, 3) := by decide +kernel
theorem dX6_scanNumber_13 : decode cX6_scanNumber 13 = .ok (.if_icmp .ge 53, 3) := by decide +kernel
theorem dX6_scanNumber_16 : decode cX6_scanNumber 16 = .ok (.aload_n 1, 1) := by decide +kernel
theorem dX6_scanNumber_17 : decode cX6_scanNumber 17 = .ok (.aload_n 0, 1) := by decide +kernel
theorem dX6_scanNumber_18 : decode cX6_scanNumber 18 = .ok (.getfield 9, 3) := by decide +kernel
theorem dX6_scanNumber_21 : decode cX6_scanNumber 21 = .ok (.invokevirtual 25, 3) := by decide +kernel
theorem dX6_scanNumber_24 : decode cX6_scanNumber 24 = .ok (.invokestatic 44, 3) := by decide +kernel
theorem dX6_scanNumber_27 : decode cX6_scanNumber 27 = .ok (.ifCond .eq 39, 3) := by decide +kernel
theorem dX6_scanNumber_30 : decode cX6_scanNumber 30 = .ok (.aload_n 0, 1) := by decide +kernel
theorem dX6_scanNumber_31 : decode cX6_scanNumber 31 = .ok (.aload_n 0, 1) := by decide +kernel
theorem dX6_scanNumber_32 : decode cX6_scanNumber 32 = .ok (.getfield 62, 3) := by decide +kernel
theorem dX6_scanNumber_35 : decode cX6_scanNumber 35 = .ok (.bipush 10, 2) := by decide +kernel
theorem dX6_scanNumber_37 : decode cX6_scanNumber 37 = .ok (.imul, 1) := by decide +kernel
theorem dX6_scanNumber_38 : decode cX6_scanNumber 38 = .ok (.aload_n 1, 1) := by decide +kernel
theorem dX6_scanNumber_39 : decode cX6_scanNumber 39 = .ok (.aload_n 0, 1) := by decide +kernel
theorem dX6_scanNumber_40 : decode cX6_scanNumber 40 = .ok (.getfield 9, 3) := by decide +kernel
theorem dX6_scanNumber_43 : decode cX6_scanNumber 43 = .ok (.invokevirtual 25, 3) := by decide +kernel
theorem dX6_scanNumber_46 : decode cX6_scanNumber 46 = .ok (.bipush 48, 2) := by decide +kernel
theorem dX6_scanNumber_48 : decode cX6_scanNumber 48 = .ok (.isub, 1) := by decide +kernel
theorem dX6_scanNumber_49 : decode cX6_scanNumber 49 = .ok (.iadd, 1) := by decide +kernel
theorem dX6_scanNumber_50 : decode cX6_scanNumber 50 = .ok (.putfield 62, 3) := by decide +kernel
theorem dX6_scanNumber_53 : decode cX6_scanNumber 53 = .ok (.aload_n 0, 1) := by decide +kernel
theorem dX6_scanNumber_54 : decode cX6_scanNumber 54 = .ok (.dup, 1) := by decide +kernel
theorem dX6_scanNumber_55 : decode cX6_scanNumber 55 = .ok (.getfield 9, 3) := by decide +kernel
theorem dX6_scanNumber_58 : decode cX6_scanNumber 58 = .ok (.iconst 1, 1) := by decide +kernel
theorem dX6_scanNumber_59 : decode cX6_scanNumber 59 = .ok (.iadd, 1) := by decide +kernel
theorem dX6_scanNumber_60 : decode cX6_scanNumber 60 = .ok (.putfield 9, 3) := by decide +kernel
theorem dX6_scanNumber_63 : decode cX6_scanNumber 63 = .ok (.goto (-58), 3) := by decide +kernel
theorem dX6_scanNumber_66 : decode cX6_scanNumber 66 = .ok (.aload_n 0, 1) := by decide +kernel
theorem dX6_scanNumber_67 : decode cX6_scanNumber 67 = .ok (.aload_n 0, 1) := by decide +kernel
theorem dX6_scanNumber_68 : decode cX6_scanNumber 68 = .ok (.getfield 9, 3) := by decide +kernel
theorem dX6_scanNumber_71 : decode cX6_scanNumber 71 = .ok (.aload_n 0, 1) := by decide +kernel
theorem dX6_scanNumber_72 : decode cX6_scanNumber 72 = .ok (.getfield 19, 3) := by decide +kernel
theorem dX6_scanNumber_75 : decode cX6_scanNumber 75 = .ok (.isub, 1) := by decide +kernel
theorem dX6_scanNumber_76 : decode cX6_scanNumber 76 = .ok (.iconst 4, 1) := by decide +kernel
theorem dX6_scanNumber_77 : decode cX6_scanNumber 77 = .ok (.if_icmp .gt 7, 3) := by decide +kernel
theorem dX6_scanNumber_80 : decode cX6_scanNumber 80 = .ok (.iconst 2, 1) := by decide +kernel
theorem dX6_scanNumber_81 : decode cX6_scanNumber 81 = .ok (.goto 4, 3) := by decide +kernel
theorem dX6_scanNumber_84 : decode cX6_scanNumber 84 = .ok (.iconst 4, 1) := by decide +kernel
theorem dX6_scanNumber_85 : decode cX6_scanNumber 85 = .ok (.putfield 34, 3) := by decide +kernel
theorem dX6_scanNumber_88 : decode cX6_scanNumber 88 = .ok (.return_, 1) := by decide +kernel
theorem dX6_isLetter_0 : decode cX6_isLetter 0 = .ok (.iload_n 0, 1) := by decide +kernel
theorem dX6_isLetter_1 : decode cX6_isLetter 1 = .ok (.bipush 97, 2) := by decide +kernel
theorem dX6_isLetter_3 : decode cX6_isLetter 3 = .ok (.if_icmp .lt 13, 3) := by decide +kernel
theorem dX6_isLetter_6 : decode cX6_isLetter 6 = .ok (.iload_n 0, 1) := by decide +kernel
theorem dX6_isLetter_7 : decode cX6_isLetter 7 = .ok (.bipush 122, 2) := by decide +kernel
theorem dX6_isLetter_9 : decode cX6_isLetter 9 = .ok (.if_icmp .gt 7, 3) := by decide +kernel
theorem dX6_isLetter_12 : decode cX6_isLetter 12 = .ok (.iconst 1, 1) := by decide +kernel
theorem dX6_isLetter_13 : decode cX6_isLetter 13 = .ok (.goto 4, 3) := by decide +kernel
theorem dX6_isLetter_16 : decode cX6_isLetter 16 = .ok (.iconst 0, 1) := by decide +kernel
theorem dX6_isLetter_17 : decode cX6_isLetter 17 = .ok (.ireturn, 1) := by decide +kernel
theorem dX6_isDigit_0 : decode cX6_isDigit 0 = .ok (.iload_n 0, 1) := by decide +kernel
theorem dX6_isDigit_1 : decode cX6_isDigit 1 = .ok (.bipush 48, 2) := by decide +kernel
theorem dX6_isDigit_3 : decode cX6_isDigit 3 = .ok (.if_icmp .lt 13, 3) := by decide +kernel
theorem dX6_isDigit_6 : decode cX6_isDigit 6 = .ok (.iload_n 0, 1) := by decide +kernel
theorem dX6_isDigit_7 : decode cX6_isDigit 7 = .ok (.bipush 57, 2) := by decide +kernel
theorem dX6_isDigit_9 : decode cX6_isDigit 9 = .ok (.if_icmp .gt 7, 3) := by decide +kernel
theorem dX6_isDigit_12 : decode cX6_isDigit 12 = .ok (.iconst 1, 1) := by decide +kernel
theorem dX6_isDigit_13 : decode cX6_isDigit 13 = .ok (.goto 4, 3) := by decide +kernel
theorem dX6_isDigit_16 : decode cX6_isDigit 16 = .ok (.iconst 0, 1) := by decide +kernel
theorem dX6_isDigit_17 : decode cX6_isDigit 17 = .ok (.ireturn, 1) := by decide +kernel
theorem dX7_init_0 : decode cX7_init 0 = .ok (.aload_n 0, 1) := by decide +kernel
theorem dX7_init_1 : decode cX7_init 1 = .ok (.invokespecial 3, 3) := by decide +kernel
theorem dX7_init_4 : decode cX7_init 4 = .ok (.aload_n 0, 1) := by decide +kernel
theorem dX7_init_5 : decode cX7_init 5 = .ok (.bipush 12, 2) := by decide +kernel
theorem dX7_init_7 : decode cX7_init 7 = .ok (.newarray .long, 2) := by decide +kernel
theorem dX7_init_9 : decode cX7_init 9 = .ok (.putfield 9, 3) := by decide +kernel
theorem dX7_init_12 : decode cX7_init 12 = .ok (.aload_n 0, 1) := by decide +kernel
theorem dX7_init_13 : decode cX7_init 13 = .ok (.bipush 12, 2) := by decide +kernel
theorem dX7_init_15 : decode cX7_init 15 = .ok (.newarray .int, 2) := by decide +kernel
theorem dX7_init_17 : decode cX7_init 17 = .ok (.putfield 15, 3) := by decide +kernel
theorem dX7_init_20 : decode cX7_init 20 = .ok (.aload_n 0, 1) := by decide +kernel
theorem dX7_init_21 : decode cX7_init 21 = .ok (.bipush 12, 2) := by decide +kernel
theorem dX7_init_23 : decode cX7_init 23 = .ok (.newarray .int, 2) := by decide +kernel
theorem dX7_init_25 : decode cX7_init 25 = .ok (.putfield 19, 3) := by decide +kernel
theorem dX7_init_28 : decode cX7_init 28 = .ok (.aload_n 0, 1) := by decide +kernel
theorem dX7_init_29 : decode cX7_init 29 = .ok (.bipush 12, 2) := by decide +kernel
theorem dX7_init_31 : decode cX7_init 31 = .ok (.newarray .int, 2) := by decide +kernel
theorem dX7_init_33 : decode cX7_init 33 = .ok (.putfield 22, 3) := by decide +kernel
theorem dX7_init_36 : decode cX7_init 36 = .ok (.aload_n 0, 1) := by decide +kernel
theorem dX7_init_37 : decode cX7_init 37 = .ok (.bipush 12, 2) := by decide +kernel
theorem dX7_init_39 : decode cX7_init 39 = .ok (.newarray .int, 2) := by decide +kernel
theorem dX7_init_41 : decode cX7_init 41 = .ok (.putfield 25, 3) := by decide +kernel
theorem dX7_init_44 : decode cX7_init 44 = .ok (.aload_n 0, 1) := by decide +kernel
theorem dX7_init_45 : decode cX7_init 45 = .ok (.bipush 12, 2) := by decide +kernel
theorem dX7_init_47 : decode cX7_init 47 = .ok (.newarray .int, 2) := by decide +kernel
theorem dX7_init_49 : decode cX7_init 49 = .ok (.putfield 28, 3) := by decide +kernel
theorem dX7_init_52 : decode cX7_init 52 = .ok (.aload_n 0, 1) := by decide +kernel
theorem dX7_init_53 : decode cX7_init 53 = .ok (.bipush 12, 2) := by decide +kernel
theorem dX7_init_55 : decode cX7_init 55 = .ok (.newarray .int, 2) := by decide +kernel
theorem dX7_init_57 : decode cX7_init 57 = .ok (.putfield 31, 3) := by decide +kernel
theorem dX7_init_60 : decode cX7_init 60 = .ok (.aload_n 0, 1) := by decide +kernel
theorem dX7_init_61 : decode cX7_init 61 = .ok (.bipush 12, 2) := by decide +kernel
theorem dX7_init_63 : decode cX7_init 63 = .ok (.newarray .int, 2) := by decide +kernel
theorem dX7_init_65 : decode cX7_init 65 = .ok (.putfield 34, 3) := by decide +kernel
theorem dX7_init_68 : decode cX7_init 68 = .ok (.aload_n 0, 1) := by decide +kernel
theorem dX7_init_69 : decode cX7_init 69 = .ok (.bipush 12, 2) := by decide +kernel
theorem dX7_init_71 : decode cX7_init 71 = .ok (.newarray .int, 2) := by decide +kernel
theorem dX7_init_73 : decode cX7_init 73 = .ok (.putfield 37, 3) := by decide +kernel
theorem dX7_init_76 : decode cX7_init 76 = .ok (.aload_n 0, 1) := by decide +kernel
theorem dX7_init_77 : decode cX7_init 77 = .ok (.bipush 12, 2) := by decide +kernel
theorem dX7_init_79 : decode cX7_init 79 = .ok (.newarray .int, 2) := by decide +kernel
theorem dX7_init_81 : decode cX7_init 81 = .ok (.putfield 40, 3) := by decide +kernel
theorem dX7_init_84 : decode cX7_init 84 = .ok (.aload_n 0, 1) := by decide +kernel
theorem dX7_init_85 : decode cX7_init 85 = .ok (.bipush 12, 2) := by decide +kernel
theorem dX7_init_87 : decode cX7_init 87 = .ok (.newarray .boolean, 2) := by decide +kernel
theorem dX7_init_89 : decode cX7_init 89 = .ok (.putfield 43, 3) := by decide +kernel
theorem dX7_init_92 : decode cX7_init 92 = .ok (.aload_n 0, 1) := by decide +kernel
theorem dX7_init_93 : decode cX7_init 93 = .ok (.new 47, 3) := by decide +kernel
theorem dX7_init_96 : decode cX7_init 96 = .ok (.dup, 1) := by decide +kernel
theorem dX7_init_97 : decode cX7_init 97 = .ok (.invokespecial 49, 3) := by decide +kernel
theorem dX7_init_100 : decode cX7_init 100 = .ok (.putfield 50, 3) := by decide +kernel
theorem dX7_init_103 : decode cX7_init 103 = .ok (.aload_n 0, 1) := by decide +kernel
theorem dX7_init_104 : decode cX7_init 104 = .ok (.bipush 10, 2) := by decide +kernel
theorem dX7_init_106 : decode cX7_init 106 = .ok (.putfield 54, 3) := by decide +kernel
theorem dX7_init_109 : decode cX7_init 109 = .ok (.aload_n 0, 1) := by decide +kernel
theorem dX7_init_110 : decode cX7_init 110 = .ok (.iconst (-1), 1) := by decide +kernel
theorem dX7_init_111 : decode cX7_init 111 = .ok (.putfield 58, 3) := by decide +kernel
theorem dX7_init_114 : decode cX7_init 114 = .ok (.return_, 1) := by decide +kernel
theorem dX7_clear_0 : decode cX7_clear 0 = .ok (.aload_n 0, 1) := by decide +kernel
theorem dX7_clear_1 : decode cX7_clear 1 = .ok (.iconst 0, 1) := by decide +kernel
theorem dX7_clear_2 : decode cX7_clear 2 = .ok (.putfield 61, 3) := by decide +kernel
theorem dX7_clear_5 : decode cX7_clear 5 = .ok (.aload_n 0, 1) := by decide +kernel
theorem dX7_clear_6 : decode cX7_clear 6 = .ok (.getfield 50, 3) := by decide +kernel
theorem dX7_clear_9 : decode cX7_clear 9 = .ok (.iconst 0, 1) := by decide +kernel
theorem dX7_clear_10 : decode cX7_clear 10 = .ok (.putfield 64, 3) := by decide +kernel
theorem dX7_clear_13 : decode cX7_clear 13 = .ok (.aload_n 0, 1) := by decide +kernel
theorem dX7_clear_14 : decode cX7_clear 14 = .ok (.bipush 10, 2) := by decide +kernel
theorem dX7_clear_16 : decode cX7_clear 16 = .ok (.putfield 54, 3) := by decide +kernel
theorem dX7_clear_19 : decode cX7_clear 19 = .ok (.aload_n 0, 1) := by decide +kernel
theorem dX7_clear_20 : decode cX7_clear 20 = .ok (.iconst (-1), 1) := by decide +kernel
theorem dX7_clear_21 : decode cX7_clear 21 = .ok (.putfield 58, 3) := by decide +kernel
theorem dX7_clear_24 : decode cX7_clear 24 = .ok (.return_, 1) := by decide +kernel
theorem dX7_hasNode_0 : decode cX7_hasNode 0 = .ok (.iload_n 1, 1) := by decide +kernel
theorem dX7_hasNode_1 : decode cX7_hasNode 1 = .ok (.ifCond .lt 21, 3) := by decide +kernel
theorem dX7_hasNode_4 : decode cX7_hasNode 4 = .ok (.iload_n 1, 1) := by decide +kernel
theorem dX7_hasNode_5 : decode cX7_hasNode 5 = .ok (.aload_n 0, 1) := by decide +kernel
theorem dX7_hasNode_6 : decode cX7_hasNode 6 = .ok (.getfield 61, 3) := by decide +kernel
theorem dX7_hasNode_9 : decode cX7_hasNode 9 = .ok (.if_icmp .ge 13, 3) := by decide +kernel
theorem dX7_hasNode_12 : decode cX7_hasNode 12 = .ok (.iload_n 1, 1) := by decide +kernel
theorem dX7_hasNode_13 : decode cX7_hasNode 13 = .ok (.bipush 12, 2) := by decide +kernel
theorem dX7_hasNode_15 : decode cX7_hasNode 15 = .ok (.if_icmp .ge 7, 3) := by decide +kernel
theorem dX7_hasNode_18 : decode cX7_hasNode 18 = .ok (.iconst 1, 1) := by decide +kernel
theorem dX7_hasNode_19 : decode cX7_hasNode 19 = .ok (.goto 4, 3) := by decide +kernel
theorem dX7_hasNode_22 : decode cX7_hasNode 22 = .ok (.iconst 0, 1) := by decide +kernel
theorem dX7_hasNode_23 : decode cX7_hasNode 23 = .ok (.ireturn, 1) := by decide +kernel
theorem dX7_hasLeaf_0 : decode cX7_hasLeaf 0 = .ok (.aload_n 0, 1) := by decide +kernel
theorem dX7_hasLeaf_1 : decode cX7_hasLeaf 1 = .ok (.iload_n 1, 1) := by decide +kernel
theorem dX7_hasLeaf_2 : decode cX7_hasLeaf 2 = .ok (.invokevirtual 67, 3) := by decide +kernel
theorem dX7_hasLeaf_5 : decode cX7_hasLeaf 5 = .ok (.ifCond .eq 16, 3) := by decide +kernel
theorem dX7_hasLeaf_8 : decode cX7_hasLeaf 8 = .ok (.aload_n 0, 1) := by decide +kernel
theorem dX7_hasLeaf_9 : decode cX7_hasLeaf 9 = .ok (.getfield 22, 3) := by decide +kernel
theorem dX7_hasLeaf_12 : decode cX7_hasLeaf 12 = .ok (.iload_n 1, 1) := by decide +kernel
theorem dX7_hasLeaf_13 : decode cX7_hasLeaf 13 = .ok (.iaload, 1) := by decide +kernel
theorem dX7_hasLeaf_14 : decode cX7_hasLeaf 14 = .ok (.ifCond .ne 7, 3) := by decide +kernel
theorem dX7_hasLeaf_17 : decode cX7_hasLeaf 17 = .ok (.iconst 1, 1) := by decide +kernel
theorem dX7_hasLeaf_18 : decode cX7_hasLeaf 18 = .ok (.goto 4, 3) := by decide +kernel
theorem dX7_hasLeaf_21 : decode cX7_hasLeaf 21 = .ok (.iconst 0, 1) := by decide +kernel
theorem dX7_hasLeaf_22 : decode cX7_hasLeaf 22 = .ok (.ireturn, 1) := by decide +kernel
theorem dX7_findNode_0 : decode cX7_findNode 0 = .ok (.iconst 0, 1) := by decide +kernel
theorem dX7_findNode_1 : decode cX7_findNode 1 = .ok (.istore_n 3, 1) := by decide +kernel
theorem dX7_findNode_2 : decode cX7_findNode 2 = .ok (.iload_n 3, 1) := by decide +kernel
theorem dX7_findNode_3 : decode cX7_findNode 3 = .ok (.aload_n 0, 1) := by decide +kernel
theorem dX7_findNode_4 : decode cX7_findNode 4 = .ok (.getfield 61, 3) := by decide +kernel
theorem dX7_findNode_7 : decode cX7_findNode 7 = .ok (.if_icmp .ge 22, 3) := by decide +kernel
theorem dX7_findNode_10 : decode cX7_findNode 10 = .ok (.aload_n 0, 1) := by decide +kernel
theorem dX7_findNode_11 : decode cX7_findNode 11 = .ok (.getfield 9, 3) := by decide +kernel
theorem dX7_findNode_14 : decode cX7_findNode 14 = .ok (.iload_n 3, 1) := by decide +kernel
theorem dX7_findNode_15 : decode cX7_findNode 15 = .ok (.laload, 1) := by decide +kernel
theorem dX7_findNode_16 : decode cX7_findNode 16 = .ok (.lload_n 1, 1) := by decide +kernel
theorem dX7_findNode_17 : decode cX7_findNode 17 = .ok (.lcmp, 1) := by decide +kernel
theorem dX7_findNode_18 : decode cX7_findNode 18 = .ok (.ifCond .ne 5, 3) := by decide +kernel
theorem dX7_findNode_21 : decode cX7_findNode 21 = .ok (.iload_n 3, 1) := by decide +kernel
theorem dX7_findNode_22 : decode cX7_findNode 22 = .ok (.ireturn, 1) := by decide +kernel
theorem dX7_findNode_23 : decode cX7_findNode 23 = .ok (.iinc 3 1, 3) := by decide +kernel
theorem dX7_findNode_26 : decode cX7_findNode 26 = .ok (.goto (-24), 3) := by decide +kernel
theorem dX7_findNode_29 : decode cX7_findNode 29 = .ok (.bipush (-2), 2) := by decide +kernel
theorem dX7_findNode_31 : decode cX7_findNode 31 = .ok (.ireturn, 1) := by decide +kernel
theorem dX7_addNode_0 : decode cX7_addNode 0 = .ok (.aload_n 0, 1) := by decide +kernel
theorem dX7_addNode_1 : decode cX7_addNode 1 = .ok (.getfield 61, 3) := by decide +kernel
theorem dX7_addNode_4 : decode cX7_addNode 4 = .ok (.bipush 12, 2) := by decide +kernel
theorem dX7_addNode_6 : decode cX7_addNode 6 = .ok (.if_icmp .lt 4, 3) := by decide +kernel
theorem dX7_addNode_9 : decode cX7_addNode 9 = .ok (.return_, 1) := by decide +kernel
theorem dX7_addNode_10 : decode cX7_addNode 10 = .ok (.aload_n 0, 1) := by decide +kernel
theorem dX7_addNode_11 : decode cX7_addNode 11 = .ok (.getfield 61, 3) := by decide +kernel
theorem dX7_addNode_14 : decode cX7_addNode 14 = .ok (.istore 4, 2) := by decide +kernel
theorem dX7_addNode_16 : decode cX7_addNode 16 = .ok (.aload_n 0, 1) := by decide +kernel
theorem dX7_addNode_17 : decode cX7_addNode 17 = .ok (.dup, 1) := by decide +kernel
theorem dX7_addNode_18 : decode cX7_addNode 18 = .ok (.getfield 61, 3) := by decide +kernel
theorem dX7_addNode_21 : decode cX7_addNode 21 = .ok (.iconst 1, 1) := by decide +kernel
theorem dX7_addNode_22 : decode cX7_addNode 22 = .ok (.iadd, 1) := by decide +kernel
theorem dX7_addNode_23 : decode cX7_addNode 23 = .ok (.putfield 61, 3) := by decide +kernel
theorem dX7_addNode_26 : decode cX7_addNode 26 = .ok (.aload_n 0, 1) := by decide +kernel
theorem dX7_addNode_27 : decode cX7_addNode 27 = .ok (.getfield 9, 3) := by decide +kernel
theorem dX7_addNode_30 : decode cX7_addNode 30 = .ok (.iload 4, 2) := by decide +kernel
theorem dX7_addNode_32 : decode cX7_addNode 32 = .ok (.lload_n 1, 1) := by decide +kernel
theorem dX7_addNode_33 : decode cX7_addNode 33 = .ok (.lastore, 1) := by decide +kernel
theorem dX7_addNode_34 : decode cX7_addNode 34 = .ok (.aload_n 0, 1) := by decide +kernel
theorem dX7_addNode_35 : decode cX7_addNode 35 = .ok (.getfield 15, 3) := by decide +kernel
theorem dX7_addNode_38 : decode cX7_addNode 38 = .ok (.iload 4, 2) := by decide +kernel
theorem dX7_addNode_40 : decode cX7_addNode 40 = .ok (.iload_n 3, 1) := by decide +kernel
theorem dX7_addNode_41 : decode cX7_addNode 41 = .ok (.iastore, 1) := by decide +kernel
theorem dX7_addNode_42 : decode cX7_addNode 42 = .ok (.aload_n 0, 1) := by decide +kernel
theorem dX7_addNode_43 : decode cX7_addNode 43 = .ok (.getfield 19, 3) := by decide +kernel
theorem dX7_addNode_46 : decode cX7_addNode 46 = .ok (.iload 4, 2) := by decide +kernel
theorem dX7_addNode_48 : decode cX7_addNode 48 = .ok (.iconst 0, 1) := by decide +kernel
theorem dX7_addNode_49 : decode cX7_addNode 49 = .ok (.iastore, 1) := by decide +kernel
theorem dX7_addNode_50 : decode cX7_addNode 50 = .ok (.aload_n 0, 1) := by decide +kernel
theorem dX7_addNode_51 : decode cX7_addNode 51 = .ok (.getfield 22, 3) := by decide +kernel
theorem dX7_addNode_54 : decode cX7_addNode 54 = .ok (.iload 4, 2) := by decide +kernel
theorem dX7_addNode_56 : decode cX7_addNode 56 = .ok (.iconst 0, 1) := by decide +kernel
theorem dX7_addNode_57 : decode cX7_addNode 57 = .ok (.iastore, 1) := by decide +kernel
theorem dX7_addNode_58 : decode cX7_addNode 58 = .ok (.aload_n 0, 1) := by decide +kernel
theorem dX7_addNode_59 : decode cX7_addNode 59 = .ok (.getfield 43, 3) := by decide +kernel
theorem dX7_addNode_62 : decode cX7_addNode 62 = .ok (.iload 4, 2) := by decide +kernel
theorem dX7_addNode_64 : decode cX7_addNode 64 = .ok (.iconst 0, 1) := by decide +kernel
theorem dX7_addNode_65 : decode cX7_addNode 65 = .ok (.bastore, 1) := by decide +kernel
theorem dX7_addNode_66 : decode cX7_addNode 66 = .ok (.iconst 0, 1) := by decide +kernel
theorem dX7_addNode_67 : decode cX7_addNode 67 = .ok (.istore 5, 2) := by decide +kernel
theorem dX7_addNode_69 : decode cX7_addNode 69 = .ok (.iload 5, 2) := by decide +kernel
theorem dX7_addNode_71 : decode cX7_addNode 71 = .ok (.bipush 6, 2) := by decide +kernel
theorem dX7_addNode_73 : decode cX7_addNode 73 = .ok (.if_icmp .ge 24, 3) := by decide +kernel
theorem dX7_addNode_76 : decode cX7_addNode 76 = .ok (.aload_n 0, 1) := by decide +kernel
theorem dX7_addNode_77 : decode cX7_addNode 77 = .ok (.iload 5, 2) := by decide +kernel
theorem dX7_addNode_79 : decode cX7_addNode 79 = .ok (.invokevirtual 71, 3) := by decide +kernel
theorem dX7_addNode_82 : decode cX7_addNode 82 = .ok (.iload 4, 2) := by decide +kernel
theorem dX7_addNode_84 : decode cX7_addNode 84 = .ok (.getstatic 75, 3) := by decide +kernel
theorem dX7_addNode_87 : decode cX7_addNode 87 = .ok (.iload 5, 2) := by decide +kernel
theorem dX7_addNode_89 : decode cX7_addNode 89 = .ok (.iaload, 1) := by decide +kernel
theorem dX7_addNode_90 : decode cX7_addNode 90 = .ok (.iastore, 1) := by decide +kernel
theorem dX7_addNode_91 : decode cX7_addNode 91 = .ok (.iinc 5 1, 3) := by decide +kernel
theorem dX7_addNode_94 : decode cX7_addNode 94 = .ok (.goto (-25), 3) := by decide +kernel
theorem dX7_addNode_97 : decode cX7_addNode 97 = .ok (.iload_n 3, 1) := by decide +kernel
theorem dX7_addNode_98 : decode cX7_addNode 98 = .ok (.ifCond .lt 34, 3) := by decide +kernel
theorem dX7_addNode_101 : decode cX7_addNode 101 = .ok (.iload_n 3, 1) := by decide +kernel
theorem dX7_addNode_102 : decode cX7_addNode 102 = .ok (.iload 4, 2) := by decide +kernel
theorem dX7_addNode_104 : decode cX7_addNode 104 = .ok (.if_icmp .ge 28, 3) := by decide +kernel
theorem dX7_addNode_107 : decode cX7_addNode 107 = .ok (.aload_n 0, 1) := by decide +kernel
theorem dX7_addNode_108 : decode cX7_addNode 108 = .ok (.getfield 19, 3) := by decide +kernel
theorem dX7_addNode_111 : decode cX7_addNode 111 = .ok (.iload 4, 2) := by decide +kernel
theorem dX7_addNode_113 : decode cX7_addNode 113 = .ok (.aload_n 0, 1) := by decide +kernel
theorem dX7_addNode_114 : decode cX7_addNode 114 = .ok (.getfield 19, 3) := by decide +kernel
theorem dX7_addNode_117 : decode cX7_addNode 117 = .ok (.iload_n 3, 1) := by decide +kernel
theorem dX7_addNode_118 : decode cX7_addNode 118 = .ok (.iaload, 1) := by decide +kernel
theorem dX7_addNode_119 : decode cX7_addNode 119 = .ok (.iconst 1, 1) := by decide +kernel
theorem dX7_addNode_120 : decode cX7_addNode 120 = .ok (.iadd, 1) := by decide +kernel
theorem dX7_addNode_121 : decode cX7_addNode 121 = .ok (.iastore, 1) := by decide +kernel
theorem dX7_addNode_122 : decode cX7_addNode 122 = .ok (.aload_n 0, 1) := by decide +kernel
theorem dX7_addNode_123 : decode cX7_addNode 123 = .ok (.getfield 22, 3) := by decide +kernel
theorem dX7_addNode_126 : decode cX7_addNode 126 = .ok (.iload_n 3, 1) := by decide +kernel
theorem dX7_addNode_127 : decode cX7_addNode 127 = .ok (.dup2, 1) := by decide +kernel
theorem dX7_addNode_128 : decode cX7_addNode 128 = .ok (.iaload, 1) := by decide +kernel
theorem dX7_addNode_129 : decode cX7_addNode 129 = .ok (.iconst 1, 1) := by decide +kernel
theorem dX7_addNode_130 : decode cX7_addNode 130 = .ok (.iadd, 1) := by decide +kernel
theorem dX7_addNode_131 : decode cX7_addNode 131 = .ok (.iastore, 1) := by decide +kernel
theorem dX7_addNode_132 : decode cX7_addNode 132 = .ok (.return_, 1) := by decide +kernel
theorem dX7_row_0 : decode cX7_row 0 = .ok (.iload_n 1, 1) := by decide +kernel
theorem dX7_row_1 : decode cX7_row 1 = .ok (.tableswitch 60 0 4 #[35, 40, 45, 50, 55], 35) := by decide +kernel
theorem dX7_row_36 : decode cX7_row 36 = .ok (.aload_n 0, 1) := by decide +kernel
theorem dX7_row_37 : decode cX7_row 37 = .ok (.getfield 25, 3) := by decide +kernel
theorem dX7_row_40 : decode cX7_row 40 = .ok (.areturn, 1) := by decide +kernel
theorem dX7_row_41 : decode cX7_row 41 = .ok (.aload_n 0, 1) := by decide +kernel
theorem dX7_row_42 : decode cX7_row 42 = .ok (.getfield 28, 3) := by decide +kernel
theorem dX7_row_45 : decode cX7_row 45 = .ok (.areturn, 1) := by decide +kernel
theorem dX7_row_46 : decode cX7_row 46 = .ok (.aload_n 0, 1) := by decide +kernel
theorem dX7_row_47 : decode cX7_row 47 = .ok (.getfield 31, 3) := by decide +kernel
theorem dX7_row_50 : decode cX7_row 50 = .ok (.areturn, 1) := by decide +kernel
theorem dX7_row_51 : decode cX7_row 51 = .ok (.aload_n 0, 1) := by decide +kernel
theorem dX7_row_52 : decode cX7_row 52 = .ok (.getfield 34, 3) := by decide +kernel
theorem dX7_row_55 : decode cX7_row 55 = .ok (.areturn, 1) := by decide +kernel
theorem dX7_row_56 : decode cX7_row 56 = .ok (.aload_n 0, 1) := by decide +kernel
theorem dX7_row_57 : decode cX7_row 57 = .ok (.getfield 37, 3) := by decide +kernel
theorem dX7_row_60 : decode cX7_row 60 = .ok (.areturn, 1) := by decide +kernel
theorem dX7_row_61 : decode cX7_row 61 = .ok (.aload_n 0, 1) := by decide +kernel
theorem dX7_row_62 : decode cX7_row 62 = .ok (.getfield 40, 3) := by decide +kernel
theorem dX7_row_65 : decode cX7_row 65 = .ok (.areturn, 1) := by decide +kernel
theorem dX7_childOf_0 : decode cX7_childOf 0 = .ok (.iconst 0, 1) := by decide +kernel
theorem dX7_childOf_1 : decode cX7_childOf 1 = .ok (.istore_n 3, 1) := by decide +kernel
theorem dX7_childOf_2 : decode cX7_childOf 2 = .ok (.iload_n 1, 1) := by decide +kernel
theorem dX7_childOf_3 : decode cX7_childOf 3 = .ok (.iconst 1, 1) := by decide +kernel
theorem dX7_childOf_4 : decode cX7_childOf 4 = .ok (.iadd, 1) := by decide +kernel
theorem dX7_childOf_5 : decode cX7_childOf 5 = .ok (.istore 4, 2) := by decide +kernel
theorem dX7_childOf_7 : decode cX7_childOf 7 = .ok (.iload 4, 2) := by decide +kernel
theorem dX7_childOf_9 : decode cX7_childOf 9 = .ok (.aload_n 0, 1) := by decide +kernel
theorem dX7_childOf_10 : decode cX7_childOf 10 = .ok (.getfield 61, 3) := by decide +kernel
theorem dX7_childOf_13 : decode cX7_childOf 13 = .ok (.if_icmp .ge 31, 3) := by decide +kernel
theorem dX7_childOf_16 : decode cX7_childOf 16 = .ok (.aload_n 0, 1) := by decide +kernel
theorem dX7_childOf_17 : decode cX7_childOf 17 = .ok (.getfield 15, 3) := by decide +kernel
theorem dX7_childOf_20 : decode cX7_childOf 20 = .ok (.iload 4, 2) := by decide +kernel
theorem dX7_childOf_22 : decode cX7_childOf 22 = .ok (.iaload, 1) := by decide +kernel
theorem dX7_childOf_23 : decode cX7_childOf 23 = .ok (.iload_n 1, 1) := by decide +kernel
theorem dX7_childOf_24 : decode cX7_childOf 24 = .ok (.if_icmp .ne 14, 3) := by decide +kernel
theorem dX7_childOf_27 : decode cX7_childOf 27 = .ok (.iload_n 3, 1) := by decide +kernel
theorem dX7_childOf_28 : decode cX7_childOf 28 = .ok (.iload_n 2, 1) := by decide +kernel
theorem dX7_childOf_29 : decode cX7_childOf 29 = .ok (.if_icmp .ne 6, 3) := by decide +kernel
theorem dX7_childOf_32 : decode cX7_childOf 32 = .ok (.iload 4, 2) := by decide +kernel
theorem dX7_childOf_34 : decode cX7_childOf 34 = .ok (.ireturn, 1) := by decide +kernel
theorem dX7_childOf_35 : decode cX7_childOf 35 = .ok (.iinc 3 1, 3) := by decide +kernel
theorem dX7_childOf_38 : decode cX7_childOf 38 = .ok (.iinc 4 1, 3) := by decide +kernel
theorem dX7_childOf_41 : decode cX7_childOf 41 = .ok (.goto (-34), 3) := by decide +kernel
theorem dX7_childOf_44 : decode cX7_childOf 44 = .ok (.bipush (-2), 2) := by decide +kernel
theorem dX7_childOf_46 : decode cX7_childOf 46 = .ok (.ireturn, 1) := by decide +kernel
theorem dX7_distance_0 : decode cX7_distance 0 = .ok (.aload_n 0, 1) := by decide +kernel
theorem dX7_distance_1 : decode cX7_distance 1 = .ok (.iload_n 1, 1) := by decide +kernel
theorem dX7_distance_2 : decode cX7_distance 2 = .ok (.invokevirtual 67, 3) := by decide +kernel
theorem dX7_distance_5 : decode cX7_distance 5 = .ok (.ifCond .eq 27, 3) := by decide +kernel
theorem dX7_distance_8 : decode cX7_distance 8 = .ok (.aload_n 0, 1) := by decide +kernel
theorem dX7_distance_9 : decode cX7_distance 9 = .ok (.iload_n 2, 1) := by decide +kernel
theorem dX7_distance_10 : decode cX7_distance 10 = .ok (.invokevirtual 67, 3) := by decide +kernel
theorem dX7_distance_13 : decode cX7_distance 13 = .ok (.ifCond .eq 19, 3) := by decide +kernel
theorem dX7_distance_16 : decode cX7_distance 16 = .ok (.aload_n 0, 1) := by decide +kernel
theorem dX7_distance_17 : decode cX7_distance 17 = .ok (.getfield 19, 3) := by decide +kernel
theorem dX7_distance_20 : decode cX7_distance 20 = .ok (.iload_n 1, 1) := by decide +kernel
theorem dX7_distance_21 : decode cX7_distance 21 = .ok (.iaload, 1) := by decide +kernel
theorem dX7_distance_22 : decode cX7_distance 22 = .ok (.aload_n 0, 1) := by decide +kernel
theorem dX7_distance_23 : decode cX7_distance 23 = .ok (.getfield 19, 3) := by decide +kernel
theorem dX7_distance_26 : decode cX7_distance 26 = .ok (.iload_n 2, 1) := by decide +kernel
theorem dX7_distance_27 : decode cX7_distance 27 = .ok (.iaload, 1) := by decide +kernel
theorem dX7_distance_28 : decode cX7_distance 28 = .ok (.isub, 1) := by decide +kernel
theorem dX7_distance_29 : decode cX7_distance 29 = .ok (.goto 5, 3) := by decide +kernel
theorem dX7_distance_32 : decode cX7_distance 32 = .ok (.bipush (-2), 2) := by decide +kernel
theorem dX7_distance_34 : decode cX7_distance 34 = .ok (.ireturn, 1) := by decide +kernel
theorem dX8_init_0 : decode cX8_init 0 = .ok (.aload_n 0, 1) := by decide +kernel
theorem dX8_init_1 : decode cX8_init 1 = .ok (.invokespecial 3, 3) := by decide +kernel
theorem dX8_init_4 : decode cX8_init 4 = .ok (.aload_n 0, 1) := by decide +kernel
theorem dX8_init_5 : decode cX8_init 5 = .ok (.bipush 12, 2) := by decide +kernel
theorem dX8_init_7 : decode cX8_init 7 = .ok (.newarray .int, 2) := by decide +kernel
theorem dX8_init_9 : decode cX8_init 9 = .ok (.putfield 9, 3) := by decide +kernel
theorem dX8_init_12 : decode cX8_init 12 = .ok (.aload_n 0, 1) := by decide +kernel
theorem dX8_init_13 : decode cX8_init 13 = .ok (.bipush 12, 2) := by decide +kernel
theorem dX8_init_15 : decode cX8_init 15 = .ok (.newarray .int, 2) := by decide +kernel
theorem dX8_init_17 : decode cX8_init 17 = .ok (.putfield 15, 3) := by decide +kernel
theorem dX8_init_20 : decode cX8_init 20 = .ok (.aload_n 0, 1) := by decide +kernel
theorem dX8_init_21 : decode cX8_init 21 = .ok (.bipush 12, 2) := by decide +kernel
theorem dX8_init_23 : decode cX8_init 23 = .ok (.newarray .int, 2) := by decide +kernel
theorem dX8_init_25 : decode cX8_init 25 = .ok (.putfield 18, 3) := by decide +kernel
theorem dX8_init_28 : decode cX8_init 28 = .ok (.aload_n 0, 1) := by decide +kernel
theorem dX8_init_29 : decode cX8_init 29 = .ok (.new 21, 3) := by decide +kernel
theorem dX8_init_32 : decode cX8_init 32 = .ok (.dup, 1) := by decide +kernel
theorem dX8_init_33 : decode cX8_init 33 = .ok (.invokespecial 23, 3) := by decide +kernel
theorem dX8_init_36 : decode cX8_init 36 = .ok (.putfield 24, 3) := by decide +kernel
theorem dX8_init_39 : decode cX8_init 39 = .ok (.aload_n 0, 1) := by decide +kernel
theorem dX8_init_40 : decode cX8_init 40 = .ok (.new 28, 3) := by decide +kernel
theorem dX8_init_43 : decode cX8_init 43 = .ok (.dup, 1) := by decide +kernel
theorem dX8_init_44 : decode cX8_init 44 = .ok (.invokespecial 30, 3) := by decide +kernel
theorem dX8_init_47 : decode cX8_init 47 = .ok (.putfield 31, 3) := by decide +kernel
theorem dX8_init_50 : decode cX8_init 50 = .ok (.aload_n 0, 1) := by decide +kernel
theorem dX8_init_51 : decode cX8_init 51 = .ok (.new 35, 3) := by decide +kernel
theorem dX8_init_54 : decode cX8_init 54 = .ok (.dup, 1) := by decide +kernel
theorem dX8_init_55 : decode cX8_init 55 = .ok (.invokespecial 37, 3) := by decide +kernel
theorem dX8_init_58 : decode cX8_init 58 = .ok (.putfield 38, 3) := by decide +kernel
theorem dX8_init_61 : decode cX8_init 61 = .ok (.aload_n 0, 1) := by decide +kernel
theorem dX8_init_62 : decode cX8_init 62 = .ok (.new 42, 3) := by decide +kernel
theorem dX8_init_65 : decode cX8_init 65 = .ok (.dup, 1) := by decide +kernel
theorem dX8_init_66 : decode cX8_init 66 = .ok (.invokespecial 44, 3) := by decide +kernel
theorem dX8_init_69 : decode cX8_init 69 = .ok (.putfield 45, 3) := by decide +kernel
theorem dX8_init_72 : decode cX8_init 72 = .ok (.return_, 1) := by decide +kernel
theorem dX8_begin_0 : decode cX8_begin 0 = .ok (.aload_n 0, 1) := by decide +kernel
theorem dX8_begin_1 : decode cX8_begin 1 = .ok (.iconst 0, 1) := by decide +kernel
theorem dX8_begin_2 : decode cX8_begin 2 = .ok (.putfield 49, 3) := by decide +kernel
theorem dX8_begin_5 : decode cX8_begin 5 = .ok (.aload_n 1, 1) := by decide +kernel
theorem dX8_begin_6 : decode cX8_begin 6 = .ok (.getfield 53, 3) := by decide +kernel
theorem dX8_begin_9 : decode cX8_begin 9 = .ok (.aload_n 0, 1) := by decide +kernel
theorem dX8_begin_10 : decode cX8_begin 10 = .ok (.getfield 9, 3) := by decide +kernel
theorem dX8_begin_13 : decode cX8_begin 13 = .ok (.invokestatic 56, 3) := by decide +kernel
theorem dX8_begin_16 : decode cX8_begin 16 = .ok (.aload_n 1, 1) := by decide +kernel
theorem dX8_begin_17 : decode cX8_begin 17 = .ok (.getfield 60, 3) := by decide +kernel
theorem dX8_begin_20 : decode cX8_begin 20 = .ok (.aload_n 0, 1) := by decide +kernel
theorem dX8_begin_21 : decode cX8_begin 21 = .ok (.getfield 15, 3) := by decide +kernel
theorem dX8_begin_24 : decode cX8_begin 24 = .ok (.invokestatic 56, 3) := by decide +kernel
theorem dX8_begin_27 : decode cX8_begin 27 = .ok (.aload_n 1, 1) := by decide +kernel
theorem dX8_begin_28 : decode cX8_begin 28 = .ok (.getfield 61, 3) := by decide +kernel
theorem dX8_begin_31 : decode cX8_begin 31 = .ok (.aload_n 0, 1) := by decide +kernel
theorem dX8_begin_32 : decode cX8_begin 32 = .ok (.getfield 18, 3) := by decide +kernel
theorem dX8_begin_35 : decode cX8_begin 35 = .ok (.invokestatic 56, 3) := by decide +kernel
theorem dX8_begin_38 : decode cX8_begin 38 = .ok (.aload_n 0, 1) := by decide +kernel
theorem dX8_begin_39 : decode cX8_begin 39 = .ok (.getfield 24, 3) := by decide +kernel
theorem dX8_begin_42 : decode cX8_begin 42 = .ok (.aload_n 1, 1) := by decide +kernel
theorem dX8_begin_43 : decode cX8_begin 43 = .ok (.invokevirtual 62, 3) := by decide +kernel
theorem dX8_begin_46 : decode cX8_begin 46 = .ok (.aload_n 0, 1) := by decide +kernel
theorem dX8_begin_47 : decode cX8_begin 47 = .ok (.getfield 31, 3) := by decide +kernel
theorem dX8_begin_50 : decode cX8_begin 50 = .ok (.invokevirtual 66, 3) := by decide +kernel
theorem dX8_begin_53 : decode cX8_begin 53 = .ok (.aload_n 0, 1) := by decide +kernel
theorem dX8_begin_54 : decode cX8_begin 54 = .ok (.getfield 38, 3) := by decide +kernel
theorem dX8_begin_57 : decode cX8_begin 57 = .ok (.invokevirtual 68, 3) := by decide +kernel
theorem dX8_begin_60 : decode cX8_begin 60 = .ok (.aload_n 0, 1) := by decide +kernel
theorem dX8_begin_61 : decode cX8_begin 61 = .ok (.getfield 45, 3) := by decide +kernel
theorem dX8_begin_64 : decode cX8_begin 64 = .ok (.iconst 0, 1) := by decide +kernel
theorem dX8_begin_65 : decode cX8_begin 65 = .ok (.putfield 69, 3) := by decide +kernel
theorem dX8_begin_68 : decode cX8_begin 68 = .ok (.return_, 1) := by decide +kernel
theorem dX8_row_0 : decode cX8_row 0 = .ok (.iload_n 1, 1) := by decide +kernel
theorem dX8_row_1 : decode cX8_row 1 = .ok (.lookupswitch 37 #[(0, 27), (1, 32)], 27) := by decide +kernel
theorem dX8_row_28 : decode cX8_row 28 = .ok (.aload_n 0, 1) := by decide +kernel
theorem dX8_row_29 : decode cX8_row 29 = .ok (.getfield 9, 3) := by decide +kernel
theorem dX8_row_32 : decode cX8_row 32 = .ok (.areturn, 1) := by decide +kernel
theorem dX8_row_33 : decode cX8_row 33 = .ok (.aload_n 0, 1) := by decide +kernel
theorem dX8_row_34 : decode cX8_row 34 = .ok (.getfield 15, 3) := by decide +kernel
theorem dX8_row_37 : decode cX8_row 37 = .ok (.areturn, 1) := by decide +kernel
theorem dX8_row_38 : decode cX8_row 38 = .ok (.aload_n 0, 1) := by decide +kernel
theorem dX8_row_39 : decode cX8_row 39 = .ok (.getfield 18, 3) := by decide +kernel
theorem dX8_row_42 : decode cX8_row 42 = .ok (.areturn, 1) := by decide +kernel
theorem dX8_childrenRate_0 : decode cX8_childrenRate 0 = .ok (.iconst 0, 1) := by decide +kernel
theorem dX8_childrenRate_1 : decode cX8_childrenRate 1 = .ok (.istore_n 3, 1) := by decide +kernel
theorem dX8_childrenRate_2 : decode cX8_childrenRate 2 = .ok (.iload_n 2, 1) := by decide +kernel
theorem dX8_childrenRate_3 : decode cX8_childrenRate 3 = .ok (.iconst 1, 1) := by decide +kernel
theorem dX8_childrenRate_4 : decode cX8_childrenRate 4 = .ok (.iadd, 1) := by decide +kernel
theorem dX8_childrenRate_5 : decode cX8_childrenRate 5 = .ok (.istore 4, 2) := by decide +kernel
theorem dX8_childrenRate_7 : decode cX8_childrenRate 7 = .ok (.iload 4, 2) := by decide +kernel
theorem dX8_childrenRate_9 : decode cX8_childrenRate 9 = .ok (.aload_n 1, 1) := by decide +kernel
theorem dX8_childrenRate_10 : decode cX8_childrenRate 10 = .ok (.getfield 85, 3) := by decide +kernel
theorem dX8_childrenRate_13 : decode cX8_childrenRate 13 = .ok (.if_icmp .ge 30, 3) := by decide +kernel
theorem dX8_childrenRate_16 : decode cX8_childrenRate 16 = .ok (.aload_n 1, 1) := by decide +kernel
theorem dX8_childrenRate_17 : decode cX8_childrenRate 17 = .ok (.getfield 88, 3) := by decide +kernel
theorem dX8_childrenRate_20 : decode cX8_childrenRate 20 = .ok (.iload 4, 2) := by decide +kernel
theorem dX8_childrenRate_22 : decode cX8_childrenRate 22 = .ok (.iaload, 1) := by decide +kernel
theorem dX8_childrenRate_23 : decode cX8_childrenRate 23 = .ok (.iload_n 2, 1) := by decide +kernel
theorem dX8_childrenRate_24 : decode cX8_childrenRate 24 = .ok (.if_icmp .ne 13, 3) := by decide +kernel
theorem dX8_childrenRate_27 : decode cX8_childrenRate 27 = .ok (.iload_n 3, 1) := by decide +kernel
theorem dX8_childrenRate_28 : decode cX8_childrenRate 28 = .ok (.aload_n 0, 1) := by decide +kernel
theorem dX8_childrenRate_29 : decode cX8_childrenRate 29 = .ok (.getfield 9, 3) := by decide +kernel
theorem dX8_childrenRate_32 : decode cX8_childrenRate 32 = .ok (.iload 4, 2) := by decide +kernel
theorem dX8_childrenRate_34 : decode cX8_childrenRate 34 = .ok (.iaload, 1) := by decide +kernel
theorem dX8_childrenRate_35 : decode cX8_childrenRate 35 = .ok (.iadd, 1) := by decide +kernel
theorem dX8_childrenRate_36 : decode cX8_childrenRate 36 = .ok (.istore_n 3, 1) := by decide +kernel
theorem dX8_childrenRate_37 : decode cX8_childrenRate 37 = .ok (.iinc 4 1, 3) := by decide +kernel
theorem dX8_childrenRate_40 : decode cX8_childrenRate 40 = .ok (.goto (-33), 3) := by decide +kernel
theorem dX8_childrenRate_43 : decode cX8_childrenRate 43 = .ok (.iload_n 3, 1) := by decide +kernel
theorem dX8_childrenRate_44 : decode cX8_childrenRate 44 = .ok (.ireturn, 1) := by decide +kernel
theorem dX8_leastCeiling_0 : decode cX8_leastCeiling 0 = .ok (.sipush 999, 3) := by decide +kernel
theorem dX8_leastCeiling_3 : decode cX8_leastCeiling 3 = .ok (.istore_n 3, 1) := by decide +kernel
theorem dX8_leastCeiling_4 : decode cX8_leastCeiling 4 = .ok (.iload_n 2, 1) := by decide +kernel
theorem dX8_leastCeiling_5 : decode cX8_leastCeiling 5 = .ok (.istore 4, 2) := by decide +kernel
theorem dX8_leastCeiling_7 : decode cX8_leastCeiling 7 = .ok (.iconst 0, 1) := by decide +kernel
theorem dX8_leastCeiling_8 : decode cX8_leastCeiling 8 = .ok (.istore 5, 2) := by decide +kernel
theorem dX8_leastCeiling_10 : decode cX8_leastCeiling 10 = .ok (.iload 5, 2) := by decide +kernel
theorem dX8_leastCeiling_12 : decode cX8_leastCeiling 12 = .ok (.bipush 12, 2) := by decide +kernel
theorem dX8_leastCeiling_14 : decode cX8_leastCeiling 14 = .ok (.if_icmp .ge 39, 3) := by decide +kernel
theorem dX8_leastCeiling_17 : decode cX8_leastCeiling 17 = .ok (.aload_n 1, 1) := by decide +kernel
theorem dX8_leastCeiling_18 : decode cX8_leastCeiling 18 = .ok (.iload 4, 2) := by decide +kernel
theorem dX8_leastCeiling_20 : decode cX8_leastCeiling 20 = .ok (.invokevirtual 91, 3) := by decide +kernel
theorem dX8_leastCeiling_23 : decode cX8_leastCeiling 23 = .ok (.ifCond .eq 30, 3) := by decide +kernel
theorem dX8_leastCeiling_26 : decode cX8_leastCeiling 26 = .ok (.iload_n 3, 1) := by decide +kernel
theorem dX8_leastCeiling_27 : decode cX8_leastCeiling 27 = .ok (.aload_n 0, 1) := by decide +kernel
theorem dX8_leastCeiling_28 : decode cX8_leastCeiling 28 = .ok (.getfield 15, 3) := by decide +kernel
theorem dX8_leastCeiling_31 : decode cX8_leastCeiling 31 = .ok (.iload 4, 2) := by decide +kernel
theorem dX8_leastCeiling_33 : decode cX8_leastCeiling 33 = .ok (.iaload, 1) := by decide +kernel
theorem dX8_leastCeiling_34 : decode cX8_leastCeiling 34 = .ok (.invokestatic 95, 3) := by decide +kernel
theorem dX8_leastCeiling_37 : decode cX8_leastCeiling 37 = .ok (.istore_n 3, 1) := by decide +kernel
theorem dX8_leastCeiling_38 : decode cX8_leastCeiling 38 = .ok (.aload_n 1, 1) := by decide +kernel
theorem dX8_leastCeiling_39 : decode cX8_leastCeiling 39 = .ok (.getfield 88, 3) := by decide +kernel
theorem dX8_leastCeiling_42 : decode cX8_leastCeiling 42 = .ok (.iload 4, 2) := by decide +kernel
theorem dX8_leastCeiling_44 : decode cX8_leastCeiling 44 = .ok (.iaload, 1) := by decide +kernel
theorem dX8_leastCeiling_45 : decode cX8_leastCeiling 45 = .ok (.istore 4, 2) := by decide +kernel
theorem dX8_leastCeiling_47 : decode cX8_leastCeiling 47 = .ok (.iinc 5 1, 3) := by decide +kernel
theorem dX8_leastCeiling_50 : decode cX8_leastCeiling 50 = .ok (.goto (-40), 3) := by decide +kernel
theorem dX8_leastCeiling_53 : decode cX8_leastCeiling 53 = .ok (.iload_n 3, 1) := by decide +kernel
theorem dX8_leastCeiling_54 : decode cX8_leastCeiling 54 = .ok (.ireturn, 1) := by decide +kernel
theorem dX8_send_0 : decode cX8_send 0 = .ok (.aload_n 1, 1) := by decide +kernel
theorem dX8_send_1 : decode cX8_send 1 = .ok (.iload_n 2, 1) := by decide +kernel
theorem dX8_send_2 : decode cX8_send 2 = .ok (.invokevirtual 91, 3) := by decide +kernel
theorem dX8_send_5 : decode cX8_send 5 = .ok (.ifCond .eq 11, 3) := by decide +kernel
theorem dX8_send_8 : decode cX8_send 8 = .ok (.aload_n 1, 1) := by decide +kernel
theorem dX8_send_9 : decode cX8_send 9 = .ok (.iload_n 3, 1) := by decide +kernel
theorem dX8_send_10 : decode cX8_send 10 = .ok (.invokevirtual 91, 3) := by decide +kernel
theorem dX8_send_13 : decode cX8_send 13 = .ok (.ifCond .ne 4, 3) := by decide +kernel
theorem dX8_send_16 : decode cX8_send 16 = .ok (.return_, 1) := by decide +kernel
theorem dX8_send_17 : decode cX8_send 17 = .ok (.aload_n 0, 1) := by decide +kernel
theorem dX8_send_18 : decode cX8_send 18 = .ok (.getfield 24, 3) := by decide +kernel
theorem dX8_send_21 : decode cX8_send 21 = .ok (.aload_n 1, 1) := by decide +kernel
theorem dX8_send_22 : decode cX8_send 22 = .ok (.iload_n 2, 1) := by decide +kernel
theorem dX8_send_23 : decode cX8_send 23 = .ok (.iload_n 3, 1) := by decide +kernel
theorem dX8_send_24 : decode cX8_send 24 = .ok (.iload 4, 2) := by decide +kernel
theorem dX8_send_26 : decode cX8_send 26 = .ok (.invokevirtual 101, 3) := by decide +kernel
theorem dX8_send_29 : decode cX8_send 29 = .ok (.aload_n 0, 1) := by decide +kernel
theorem dX8_send_30 : decode cX8_send 30 = .ok (.getfield 38, 3) := by decide +kernel
theorem dX8_send_33 : decode cX8_send 33 = .ok (.iload_n 2, 1) := by decide +kernel
theorem dX8_send_34 : decode cX8_send 34 = .ok (.iload_n 3, 1) := by decide +kernel
theorem dX8_send_35 : decode cX8_send 35 = .ok (.iload 4, 2) := by decide +kernel
theorem dX8_send_37 : decode cX8_send 37 = .ok (.invokevirtual 105, 3) := by decide +kernel
theorem dX8_send_40 : decode cX8_send 40 = .ok (.aload_n 0, 1) := by decide +kernel
theorem dX8_send_41 : decode cX8_send 41 = .ok (.getfield 45, 3) := by decide +kernel
theorem dX8_send_44 : decode cX8_send 44 = .ok (.iload_n 2, 1) := by decide +kernel
theorem dX8_send_45 : decode cX8_send 45 = .ok (.iload 4, 2) := by decide +kernel
theorem dX8_send_47 : decode cX8_send 47 = .ok (.iload_n 3, 1) := by decide +kernel
theorem dX8_send_48 : decode cX8_send 48 = .ok (.aload_n 0, 1) := by decide +kernel
theorem dX8_send_49 : decode cX8_send 49 = .ok (.getfield 49, 3) := by decide +kernel
theorem dX8_send_52 : decode cX8_send 52 = .ok (.invokevirtual 109, 3) := by decide +kernel
theorem dX8_send_55 : decode cX8_send 55 = .ok (.return_, 1) := by decide +kernel
theorem dX8_ticksUntilLender_0 : decode cX8_ticksUntilLender 0 = .ok (.iconst 0, 1) := by decide +kernel
theorem dX8_ticksUntilLender_1 : decode cX8_ticksUntilLender 1 = .ok (.istore 4, 2) := by decide +kernel
theorem dX8_ticksUntilLender_3 : decode cX8_ticksUntilLender 3 = .ok (.sipush 1001, 3) := by decide +kernel
theorem dX8_ticksUntilLender_6 : decode cX8_ticksUntilLender 6 = .ok (.istore 5, 2) := by decide +kernel
theorem dX8_ticksUntilLender_8 : decode cX8_ticksUntilLender 8 = .ok (.iconst 1, 1) := by decide +kernel
theorem dX8_ticksUntilLender_9 : decode cX8_ticksUntilLender 9 = .ok (.istore 6, 2) := by decide +kernel
theorem dX8_ticksUntilLender_11 : decode cX8_ticksUntilLender 11 = .ok (.iload_n 2, 1) := by decide +kernel
theorem dX8_ticksUntilLender_12 : decode cX8_ticksUntilLender 12 = .ok (.istore 7, 2) := by decide +kernel
theorem dX8_ticksUntilLender_14 : decode cX8_ticksUntilLender 14 = .ok (.iconst 0, 1) := by decide +kernel
theorem dX8_ticksUntilLender_15 : decode cX8_ticksUntilLender 15 = .ok (.istore 8, 2) := by decide +kernel
theorem dX8_ticksUntilLender_17 : decode cX8_ticksUntilLender 17 = .ok (.iload 8, 2) := by decide +kernel
theorem dX8_ticksUntilLender_19 : decode cX8_ticksUntilLender 19 = .ok (.bipush 12, 2) := by decide +kernel
theorem dX8_ticksUntilLender_21 : decode cX8_ticksUntilLender 21 = .ok (.if_icmp .ge 149, 3) := by decide +kernel
theorem dX8_ticksUntilLender_24 : decode cX8_ticksUntilLender 24 = .ok (.aload_n 1, 1) := by decide +kernel
theorem dX8_ticksUntilLender_25 : decode cX8_ticksUntilLender 25 = .ok (.iload 7, 2) := by decide +kernel
theorem dX8_ticksUntilLender_27 : decode cX8_ticksUntilLender 27 = .ok (.invokevirtual 91, 3) := by decide +kernel
theorem dX8_ticksUntilLender_30 : decode cX8_ticksUntilLender 30 = .ok (.ifCond .eq 140, 3) := by decide +kernel
theorem dX8_ticksUntilLender_33 : decode cX8_ticksUntilLender 33 = .ok (.aload_n 1, 1) := by decide +kernel
theorem dX8_ticksUntilLender_34 : decode cX8_ticksUntilLender 34 = .ok (.getfield 123, 3) := by decide +kernel
theorem dX8_ticksUntilLender_37 : decode cX8_ticksUntilLender 37 = .ok (.iload 7, 2) := by decide +kernel
theorem dX8_ticksUntilLender_39 : decode cX8_ticksUntilLender 39 = .ok (.iaload, 1) := by decide +kernel
theorem dX8_ticksUntilLender_40 : decode cX8_ticksUntilLender 40 = .ok (.istore 9, 2) := by decide +kernel
theorem dX8_ticksUntilLender_42 : decode cX8_ticksUntilLender 42 = .ok (.iload_n 3, 1) := by decide +kernel
theorem dX8_ticksUntilLender_43 : decode cX8_ticksUntilLender 43 = .ok (.aload_n 0, 1) := by decide +kernel
theorem dX8_ticksUntilLender_44 : decode cX8_ticksUntilLender 44 = .ok (.getfield 24, 3) := by decide +kernel
theorem dX8_ticksUntilLender_47 : decode cX8_ticksUntilLender 47 = .ok (.getfield 126, 3) := by decide +kernel
theorem dX8_ticksUntilLender_50 : decode cX8_ticksUntilLender 50 = .ok (.iload 7, 2) := by decide +kernel
theorem dX8_ticksUntilLender_52 : decode cX8_ticksUntilLender 52 = .ok (.iaload, 1) := by decide +kernel
theorem dX8_ticksUntilLender_53 : decode cX8_ticksUntilLender 53 = .ok (.aload_n 0, 1) := by decide +kernel
theorem dX8_ticksUntilLender_54 : decode cX8_ticksUntilLender 54 = .ok (.getfield 15, 3) := by decide +kernel
theorem dX8_ticksUntilLender_57 : decode cX8_ticksUntilLender 57 = .ok (.iload 7, 2) := by decide +kernel
theorem dX8_ticksUntilLender_59 : decode cX8_ticksUntilLender 59 = .ok (.iaload, 1) := by decide +kernel
theorem dX8_ticksUntilLender_60 : decode cX8_ticksUntilLender 60 = .ok (.iload 9, 2) := by decide +kernel
theorem dX8_ticksUntilLender_62 : decode cX8_ticksUntilLender 62 = .ok (.invokestatic 129, 3) := by decide +kernel
theorem dX8_ticksUntilLender_65 : decode cX8_ticksUntilLender 65 = .ok (.istore 10, 2) := by decide +kernel
theorem dX8_ticksUntilLender_67 : decode cX8_ticksUntilLender 67 = .ok (.iload 4, 2) := by decide +kernel
theorem dX8_ticksUntilLender_69 : decode cX8_ticksUntilLender 69 = .ok (.iload 10, 2) := by decide +kernel
theorem dX8_ticksUntilLender_71 : decode cX8_ticksUntilLender 71 = .ok (.invokestatic 133, 3) := by decide +kernel
theorem dX8_ticksUntilLender_74 : decode cX8_ticksUntilLender 74 = .ok (.istore 4, 2) := by decide +kernel
theorem dX8_ticksUntilLender_76 : decode cX8_ticksUntilLender 76 = .ok (.iload 6, 2) := by decide +kernel
theorem dX8_ticksUntilLender_78 : decode cX8_ticksUntilLender 78 = .ok (.ifCond .eq 77, 3) := by decide +kernel
theorem dX8_ticksUntilLender_81 : decode cX8_ticksUntilLender 81 = .ok (.aload_n 0, 1) := by decide +kernel
theorem dX8_ticksUntilLender_82 : decode cX8_ticksUntilLender 82 = .ok (.getfield 24, 3) := by decide +kernel
theorem dX8_ticksUntilLender_85 : decode cX8_ticksUntilLender 85 = .ok (.getfield 136, 3) := by decide +kernel
theorem dX8_ticksUntilLender_88 : decode cX8_ticksUntilLender 88 = .ok (.iload 7, 2) := by decide +kernel
theorem dX8_ticksUntilLender_90 : decode cX8_ticksUntilLender 90 = .ok (.iaload, 1) := by decide +kernel
theorem dX8_ticksUntilLender_91 : decode cX8_ticksUntilLender 91 = .ok (.aload_n 0, 1) := by decide +kernel
theorem dX8_ticksUntilLender_92 : decode cX8_ticksUntilLender 92 = .ok (.getfield 24, 3) := by decide +kernel
theorem dX8_ticksUntilLender_95 : decode cX8_ticksUntilLender 95 = .ok (.getfield 139, 3) := by decide +kernel
theorem dX8_ticksUntilLender_98 : decode cX8_ticksUntilLender 98 = .ok (.iload 7, 2) := by decide +kernel
theorem dX8_ticksUntilLender_100 : decode cX8_ticksUntilLender 100 = .ok (.iaload, 1) := by decide +kernel
theorem dX8_ticksUntilLender_101 : decode cX8_ticksUntilLender 101 = .ok (.iadd, 1) := by decide +kernel
theorem dX8_ticksUntilLender_102 : decode cX8_ticksUntilLender 102 = .ok (.istore 11, 2) := by decide +kernel
theorem dX8_ticksUntilLender_104 : decode cX8_ticksUntilLender 104 = .ok (.iload_n 3, 1) := by decide +kernel
theorem dX8_ticksUntilLender_105 : decode cX8_ticksUntilLender 105 = .ok (.iload 11, 2) := by decide +kernel
theorem dX8_ticksUntilLender_107 : decode cX8_ticksUntilLender 107 = .ok (.aload_n 0, 1) := by decide +kernel
theorem dX8_ticksUntilLender_108 : decode cX8_ticksUntilLender 108 = .ok (.getfield 9, 3) := by decide +kernel
theorem dX8_ticksUntilLender_111 : decode cX8_ticksUntilLender 111 = .ok (.iload 7, 2) := by decide +kernel
theorem dX8_ticksUntilLender_113 : decode cX8_ticksUntilLender 113 = .ok (.iaload, 1) := by decide +kernel
theorem dX8_ticksUntilLender_114 : decode cX8_ticksUntilLender 114 = .ok (.iload 9, 2) := by decide +kernel
theorem dX8_ticksUntilLender_116 : decode cX8_ticksUntilLender 116 = .ok (.aload_n 1, 1) := by decide +kernel
theorem dX8_ticksUntilLender_117 : decode cX8_ticksUntilLender 117 = .ok (.getfield 142, 3) := by decide +kernel
theorem dX8_ticksUntilLender_120 : decode cX8_ticksUntilLender 120 = .ok (.iload 7, 2) := by decide +kernel
theorem dX8_ticksUntilLender_122 : decode cX8_ticksUntilLender 122 = .ok (.iaload, 1) := by decide +kernel
theorem dX8_ticksUntilLender_123 : decode cX8_ticksUntilLender 123 = .ok (.iadd, 1) := by decide +kernel
theorem dX8_ticksUntilLender_124 : decode cX8_ticksUntilLender 124 = .ok (.invokestatic 129, 3) := by decide +kernel
theorem dX8_ticksUntilLender_127 : decode cX8_ticksUntilLender 127 = .ok (.istore 12, 2) := by decide +kernel
theorem dX8_ticksUntilLender_129 : decode cX8_ticksUntilLender 129 = .ok (.iload 5, 2) := by decide +kernel
theorem dX8_ticksUntilLender_131 : decode cX8_ticksUntilLender 131 = .ok (.iload 12, 2) := by decide +kernel
theorem dX8_ticksUntilLender_133 : decode cX8_ticksUntilLender 133 = .ok (.invokestatic 95, 3) := by decide +kernel
theorem dX8_ticksUntilLender_136 : decode cX8_ticksUntilLender 136 = .ok (.istore 5, 2) := by decide +kernel
theorem dX8_ticksUntilLender_138 : decode cX8_ticksUntilLender 138 = .ok (.aload_n 1, 1) := by decide +kernel
theorem dX8_ticksUntilLender_139 : decode cX8_ticksUntilLender 139 = .ok (.getfield 145, 3) := by decide +kernel
theorem dX8_ticksUntilLender_142 : decode cX8_ticksUntilLender 142 = .ok (.iload 7, 2) := by decide +kernel
theorem dX8_ticksUntilLender_144 : decode cX8_ticksUntilLender 144 = .ok (.baload, 1) := by decide +kernel
theorem dX8_ticksUntilLender_145 : decode cX8_ticksUntilLender 145 = .ok (.ifCond .ne 7, 3) := by decide +kernel
theorem dX8_ticksUntilLender_148 : decode cX8_ticksUntilLender 148 = .ok (.iconst 1, 1) := by decide +kernel
theorem dX8_ticksUntilLender_149 : decode cX8_ticksUntilLender 149 = .ok (.goto 4, 3) := by decide +kernel
theorem dX8_ticksUntilLender_152 : decode cX8_ticksUntilLender 152 = .ok (.iconst 0, 1) := by decide +kernel
theorem dX8_ticksUntilLender_153 : decode cX8_ticksUntilLender 153 = .ok (.istore 6, 2) := by decide +kernel
theorem dX8_ticksUntilLender_155 : decode cX8_ticksUntilLender 155 = .ok (.aload_n 1, 1) := by decide +kernel
theorem dX8_ticksUntilLender_156 : decode cX8_ticksUntilLender 156 = .ok (.getfield 88, 3) := by decide +kernel
theorem dX8_ticksUntilLender_159 : decode cX8_ticksUntilLender 159 = .ok (.iload 7, 2) := by decide +kernel
theorem dX8_ticksUntilLender_161 : decode cX8_ticksUntilLender 161 = .ok (.iaload, 1) := by decide +kernel
theorem dX8_ticksUntilLender_162 : decode cX8_ticksUntilLender 162 = .ok (.istore 7, 2) := by decide +kernel
theorem dX8_ticksUntilLender_164 : decode cX8_ticksUntilLender 164 = .ok (.iinc 8 1, 3) := by decide +kernel
theorem dX8_ticksUntilLender_167 : decode cX8_ticksUntilLender 167 = .ok (.goto (-150), 3) := by decide +kernel
theorem dX8_ticksUntilLender_170 : decode cX8_ticksUntilLender 170 = .ok (.iload 4, 2) := by decide +kernel
theorem dX8_ticksUntilLender_172 : decode cX8_ticksUntilLender 172 = .ok (.iload 5, 2) := by decide +kernel
theorem dX8_ticksUntilLender_174 : decode cX8_ticksUntilLender 174 = .ok (.invokestatic 133, 3) := by decide +kernel
theorem dX8_ticksUntilLender_177 : decode cX8_ticksUntilLender 177 = .ok (.istore 8, 2) := by decide +kernel
theorem dX8_ticksUntilLender_179 : decode cX8_ticksUntilLender 179 = .ok (.iload 8, 2) := by decide +kernel
theorem dX8_ticksUntilLender_181 : decode cX8_ticksUntilLender 181 = .ok (.sipush 1000, 3) := by decide +kernel
theorem dX8_ticksUntilLender_184 : decode cX8_ticksUntilLender 184 = .ok (.if_icmp .gt 8, 3) := by decide +kernel
theorem dX8_ticksUntilLender_187 : decode cX8_ticksUntilLender 187 = .ok (.iload 8, 2) := by decide +kernel
theorem dX8_ticksUntilLender_189 : decode cX8_ticksUntilLender 189 = .ok (.goto 5, 3) := by decide +kernel
theorem dX8_ticksUntilLender_192 : decode cX8_ticksUntilLender 192 = .ok (.bipush (-2), 2) := by decide +kernel
theorem dX8_ticksUntilLender_194 : decode cX8_ticksUntilLender 194 = .ok (.ireturn, 1) := by decide +kernel
theorem dX8_ticksUntil_0 : decode cX8_ticksUntil 0 = .ok (.iload_n 1, 1) := by decide +kernel
theorem dX8_ticksUntil_1 : decode cX8_ticksUntil 1 = .ok (.iload_n 0, 1) := by decide +kernel
theorem dX8_ticksUntil_2 : decode cX8_ticksUntil 2 = .ok (.if_icmp .lt 5, 3) := by decide +kernel
theorem dX8_ticksUntil_5 : decode cX8_ticksUntil 5 = .ok (.iconst 0, 1) := by decide +kernel
theorem dX8_ticksUntil_6 : decode cX8_ticksUntil 6 = .ok (.ireturn, 1) := by decide +kernel
theorem dX8_ticksUntil_7 : decode cX8_ticksUntil 7 = .ok (.iload_n 2, 1) := by decide +kernel
theorem dX8_ticksUntil_8 : decode cX8_ticksUntil 8 = .ok (.iconst 1, 1) := by decide +kernel
theorem dX8_ticksUntil_9 : decode cX8_ticksUntil 9 = .ok (.if_icmp .lt 8, 3) := by decide +kernel
theorem dX8_ticksUntil_12 : decode cX8_ticksUntil 12 = .ok (.iload_n 3, 1) := by decide +kernel
theorem dX8_ticksUntil_13 : decode cX8_ticksUntil 13 = .ok (.iload_n 0, 1) := by decide +kernel
theorem dX8_ticksUntil_14 : decode cX8_ticksUntil 14 = .ok (.if_icmp .ge 7, 3) := by decide +kernel
theorem dX8_ticksUntil_17 : decode cX8_ticksUntil 17 = .ok (.sipush 1001, 3) := by decide +kernel
theorem dX8_ticksUntil_20 : decode cX8_ticksUntil 20 = .ok (.ireturn, 1) := by decide +kernel
theorem dX8_ticksUntil_21 : decode cX8_ticksUntil 21 = .ok (.iload_n 0, 1) := by decide +kernel
theorem dX8_ticksUntil_22 : decode cX8_ticksUntil 22 = .ok (.iload_n 1, 1) := by decide +kernel
theorem dX8_ticksUntil_23 : decode cX8_ticksUntil 23 = .ok (.isub, 1) := by decide +kernel
theorem dX8_ticksUntil_24 : decode cX8_ticksUntil 24 = .ok (.iload_n 2, 1) := by decide +kernel
theorem dX8_ticksUntil_25 : decode cX8_ticksUntil 25 = .ok (.iadd, 1) := by decide +kernel
theorem dX8_ticksUntil_26 : decode cX8_ticksUntil 26 = .ok (.iconst 1, 1) := by decide +kernel
theorem dX8_ticksUntil_27 : decode cX8_ticksUntil 27 = .ok (.isub, 1) := by decide +kernel
theorem dX8_ticksUntil_28 : decode cX8_ticksUntil 28 = .ok (.iload_n 2, 1) := by decide +kernel
theorem dX8_ticksUntil_29 : decode cX8_ticksUntil 29 = .ok (.idiv, 1) := by decide +kernel
theorem dX8_ticksUntil_30 : decode cX8_ticksUntil 30 = .ok (.ireturn, 1) := by decide +kernel
theorem dX8_makeTicks_0 : decode cX8_makeTicks 0 = .ok (.iconst 0, 1) := by decide +kernel
theorem dX8_makeTicks_1 : decode cX8_makeTicks 1 = .ok (.istore_n 3, 1) := by decide +kernel
theorem dX8_makeTicks_2 : decode cX8_makeTicks 2 = .ok (.iconst 0, 1) := by decide +kernel
theorem dX8_makeTicks_3 : decode cX8_makeTicks 3 = .ok (.istore 4, 2) := by decide +kernel
theorem dX8_makeTicks_5 : decode cX8_makeTicks 5 = .ok (.iload 4, 2) := by decide +kernel
theorem dX8_makeTicks_7 : decode cX8_makeTicks 7 = .ok (.iload_n 2, 1) := by decide +kernel
theorem dX8_makeTicks_8 : decode cX8_makeTicks 8 = .ok (.if_icmp .ge 17, 3) := by decide +kernel
theorem dX8_makeTicks_11 : decode cX8_makeTicks 11 = .ok (.iload_n 3, 1) := by decide +kernel
theorem dX8_makeTicks_12 : decode cX8_makeTicks 12 = .ok (.aload_n 0, 1) := by decide +kernel
theorem dX8_makeTicks_13 : decode cX8_makeTicks 13 = .ok (.aload_n 1, 1) := by decide +kernel
theorem dX8_makeTicks_14 : decode cX8_makeTicks 14 = .ok (.invokevirtual 149, 3) := by decide +kernel
theorem dX8_makeTicks_17 : decode cX8_makeTicks 17 = .ok (.iadd, 1) := by decide +kernel
theorem dX8_makeTicks_18 : decode cX8_makeTicks 18 = .ok (.istore_n 3, 1) := by decide +kernel
theorem dX8_makeTicks_19 : decode cX8_makeTicks 19 = .ok (.iinc 4 1, 3) := by decide +kernel
theorem dX8_makeTicks_22 : decode cX8_makeTicks 22 = .ok (.goto (-17), 3) := by decide +kernel
theorem dX8_makeTicks_25 : decode cX8_makeTicks 25 = .ok (.iload_n 3, 1) := by decide +kernel
theorem dX8_makeTicks_26 : decode cX8_makeTicks 26 = .ok (.ireturn, 1) := by decide +kernel
theorem dX8_makeTick_0 : decode cX8_makeTick 0 = .ok (.aload_n 0, 1) := by decide +kernel
theorem dX8_makeTick_1 : decode cX8_makeTick 1 = .ok (.dup, 1) := by decide +kernel
theorem dX8_makeTick_2 : decode cX8_makeTick 2 = .ok (.getfield 49, 3) := by decide +kernel
theorem dX8_makeTick_5 : decode cX8_makeTick 5 = .ok (.iconst 1, 1) := by decide +kernel
theorem dX8_makeTick_6 : decode cX8_makeTick 6 = .ok (.iadd, 1) := by decide +kernel
theorem dX8_makeTick_7 : decode cX8_makeTick 7 = .ok (.putfield 49, 3) := by decide +kernel
theorem dX8_makeTick_10 : decode cX8_makeTick 10 = .ok (.aload_n 0, 1) := by decide +kernel
theorem dX8_makeTick_11 : decode cX8_makeTick 11 = .ok (.aload_n 1, 1) := by decide +kernel
theorem dX8_makeTick_12 : decode cX8_makeTick 12 = .ok (.invokevirtual 153, 3) := by decide +kernel
theorem dX8_makeTick_15 : decode cX8_makeTick 15 = .ok (.iconst 0, 1) := by decide +kernel
theorem dX8_makeTick_16 : decode cX8_makeTick 16 = .ok (.istore_n 2, 1) := by decide +kernel
theorem dX8_makeTick_17 : decode cX8_makeTick 17 = .ok (.iload_n 2, 1) := by decide +kernel
theorem dX8_makeTick_18 : decode cX8_makeTick 18 = .ok (.aload_n 1, 1) := by decide +kernel
theorem dX8_makeTick_19 : decode cX8_makeTick 19 = .ok (.getfield 85, 3) := by decide +kernel
theorem dX8_makeTick_22 : decode cX8_makeTick 22 = .ok (.if_icmp .ge 30, 3) := by decide +kernel
theorem dX8_makeTick_25 : decode cX8_makeTick 25 = .ok (.aload_n 0, 1) := by decide +kernel
theorem dX8_makeTick_26 : decode cX8_makeTick 26 = .ok (.getfield 24, 3) := by decide +kernel
theorem dX8_makeTick_29 : decode cX8_makeTick 29 = .ok (.aload_n 1, 1) := by decide +kernel
theorem dX8_makeTick_30 : decode cX8_makeTick 30 = .ok (.iload_n 2, 1) := by decide +kernel
theorem dX8_makeTick_31 : decode cX8_makeTick 31 = .ok (.aload_n 0, 1) := by decide +kernel
theorem dX8_makeTick_32 : decode cX8_makeTick 32 = .ok (.getfield 9, 3) := by decide +kernel
theorem dX8_makeTick_35 : decode cX8_makeTick 35 = .ok (.iload_n 2, 1) := by decide +kernel
theorem dX8_makeTick_36 : decode cX8_makeTick 36 = .ok (.iaload, 1) := by decide +kernel
theorem dX8_makeTick_37 : decode cX8_makeTick 37 = .ok (.aload_n 0, 1) := by decide +kernel
theorem dX8_makeTick_38 : decode cX8_makeTick 38 = .ok (.getfield 15, 3) := by decide +kernel
theorem dX8_makeTick_41 : decode cX8_makeTick 41 = .ok (.iload_n 2, 1) := by decide +kernel
theorem dX8_makeTick_42 : decode cX8_makeTick 42 = .ok (.iaload, 1) := by decide +kernel
theorem dX8_makeTick_43 : decode cX8_makeTick 43 = .ok (.invokevirtual 156, 3) := by decide +kernel
theorem dX8_makeTick_46 : decode cX8_makeTick 46 = .ok (.iinc 2 1, 3) := by decide +kernel
theorem dX8_makeTick_49 : decode cX8_makeTick 49 = .ok (.goto (-32), 3) := by decide +kernel
theorem dX8_makeTick_52 : decode cX8_makeTick 52 = .ok (.aload_n 0, 1) := by decide +kernel
theorem dX8_makeTick_53 : decode cX8_makeTick 53 = .ok (.aload_n 1, 1) := by decide +kernel
theorem dX8_makeTick_54 : decode cX8_makeTick 54 = .ok (.invokevirtual 159, 3) := by decide +kernel
theorem dX8_makeTick_57 : decode cX8_makeTick 57 = .ok (.aload_n 0, 1) := by decide +kernel
theorem dX8_makeTick_58 : decode cX8_makeTick 58 = .ok (.aload_n 1, 1) := by decide +kernel
theorem dX8_makeTick_59 : decode cX8_makeTick 59 = .ok (.invokevirtual 162, 3) := by decide +kernel
theorem dX8_makeTick_62 : decode cX8_makeTick 62 = .ok (.ireturn, 1) := by decide +kernel
theorem dX8_makeChanges_0 : decode cX8_makeChanges 0 = .ok (.aload_n 1, 1) := by decide +kernel
theorem dX8_makeChanges_1 : decode cX8_makeChanges 1 = .ok (.getfield 165, 3) := by decide +kernel
theorem dX8_makeChanges_4 : decode cX8_makeChanges 4 = .ok (.astore_n 2, 1) := by decide +kernel
theorem dX8_makeChanges_5 : decode cX8_makeChanges 5 = .ok (.iconst 0, 1) := by decide +kernel
theorem dX8_makeChanges_6 : decode cX8_makeChanges 6 = .ok (.istore_n 3, 1) := by decide +kernel
theorem dX8_makeChanges_7 : decode cX8_makeChanges 7 = .ok (.iload_n 3, 1) := by decide +kernel
theorem dX8_makeChanges_8 : decode cX8_makeChanges 8 = .ok (.aload_n 2, 1) := by decide +kernel
theorem dX8_makeChanges_9 : decode cX8_makeChanges 9 = .ok (.getfield 169, 3) := by decide +kernel
theorem dX8_makeChanges_12 : decode cX8_makeChanges 12 = .ok (.if_icmp .ge 58, 3) := by decide +kernel
theorem dX8_makeChanges_15 : decode cX8_makeChanges 15 = .ok (.aload_n 2, 1) := by decide +kernel
theorem dX8_makeChanges_16 : decode cX8_makeChanges 16 = .ok (.getfield 172, 3) := by decide +kernel
theorem dX8_makeChanges_19 : decode cX8_makeChanges 19 = .ok (.iload_n 3, 1) := by decide +kernel
theorem dX8_makeChanges_20 : decode cX8_makeChanges 20 = .ok (.iaload, 1) := by decide +kernel
theorem dX8_makeChanges_21 : decode cX8_makeChanges 21 = .ok (.aload_n 0, 1) := by decide +kernel
theorem dX8_makeChanges_22 : decode cX8_makeChanges 22 = .ok (.getfield 49, 3) := by decide +kernel
theorem dX8_makeChanges_25 : decode cX8_makeChanges 25 = .ok (.if_icmp .ne 39, 3) := by decide +kernel
theorem dX8_makeChanges_28 : decode cX8_makeChanges 28 = .ok (.aload_n 1, 1) := by decide +kernel
theorem dX8_makeChanges_29 : decode cX8_makeChanges 29 = .ok (.aload_n 2, 1) := by decide +kernel
theorem dX8_makeChanges_30 : decode cX8_makeChanges 30 = .ok (.getfield 174, 3) := by decide +kernel
theorem dX8_makeChanges_33 : decode cX8_makeChanges 33 = .ok (.iload_n 3, 1) := by decide +kernel
theorem dX8_makeChanges_34 : decode cX8_makeChanges 34 = .ok (.iaload, 1) := by decide +kernel
theorem dX8_makeChanges_35 : decode cX8_makeChanges 35 = .ok (.invokevirtual 91, 3) := by decide +kernel
theorem dX8_makeChanges_38 : decode cX8_makeChanges 38 = .ok (.ifCond .eq 26, 3) := by decide +kernel
theorem dX8_makeChanges_41 : decode cX8_makeChanges 41 = .ok (.aload_n 0, 1) := by decide +kernel
theorem dX8_makeChanges_42 : decode cX8_makeChanges 42 = .ok (.aload_n 2, 1) := by decide +kernel
theorem dX8_makeChanges_43 : decode cX8_makeChanges 43 = .ok (.getfield 177, 3) := by decide +kernel
theorem dX8_makeChanges_46 : decode cX8_makeChanges 46 = .ok (.iload_n 3, 1) := by decide +kernel
theorem dX8_makeChanges_47 : decode cX8_makeChanges 47 = .ok (.iaload, 1) := by decide +kernel
theorem dX8_makeChanges_48 : decode cX8_makeChanges 48 = .ok (.invokevirtual 180, 3) := by decide +kernel
theorem dX8_makeChanges_51 : decode cX8_makeChanges 51 = .ok (.aload_n 2, 1) := by decide +kernel
theorem dX8_makeChanges_52 : decode cX8_makeChanges 52 = .ok (.getfield 174, 3) := by decide +kernel
theorem dX8_makeChanges_55 : decode cX8_makeChanges 55 = .ok (.iload_n 3, 1) := by decide +kernel
theorem dX8_makeChanges_56 : decode cX8_makeChanges 56 = .ok (.iaload, 1) := by decide +kernel
theorem dX8_makeChanges_57 : decode cX8_makeChanges 57 = .ok (.aload_n 2, 1) := by decide +kernel
theorem dX8_makeChanges_58 : decode cX8_makeChanges 58 = .ok (.getfield 184, 3) := by decide +kernel
theorem dX8_makeChanges_61 : decode cX8_makeChanges 61 = .ok (.iload_n 3, 1) := by decide +kernel
theorem dX8_makeChanges_62 : decode cX8_makeChanges 62 = .ok (.iaload, 1) := by decide +kernel
theorem dX8_makeChanges_63 : decode cX8_makeChanges 63 = .ok (.iastore, 1) := by decide +kernel
theorem dX8_makeChanges_64 : decode cX8_makeChanges 64 = .ok (.iinc 3 1, 3) := by decide +kernel
theorem dX8_makeChanges_67 : decode cX8_makeChanges 67 = .ok (.goto (-60), 3) := by decide +kernel
theorem dX8_makeChanges_70 : decode cX8_makeChanges 70 = .ok (.return_, 1) := by decide +kernel
theorem dX8_dropOld_0 : decode cX8_dropOld 0 = .ok (.aload_n 1, 1) := by decide +kernel
theorem dX8_dropOld_1 : decode cX8_dropOld 1 = .ok (.getfield 187, 3) := by decide +kernel
theorem dX8_dropOld_4 : decode cX8_dropOld 4 = .ok (.iconst (-1), 1) := by decide +kernel
theorem dX8_dropOld_5 : decode cX8_dropOld 5 = .ok (.if_icmp .ne 4, 3) := by decide +kernel
theorem dX8_dropOld_8 : decode cX8_dropOld 8 = .ok (.return_, 1) := by decide +kernel
theorem dX8_dropOld_9 : decode cX8_dropOld 9 = .ok (.iconst 0, 1) := by decide +kernel
theorem dX8_dropOld_10 : decode cX8_dropOld 10 = .ok (.istore_n 2, 1) := by decide +kernel
theorem dX8_dropOld_11 : decode cX8_dropOld 11 = .ok (.iload_n 2, 1) := by decide +kernel
theorem dX8_dropOld_12 : decode cX8_dropOld 12 = .ok (.aload_n 1, 1) := by decide +kernel
theorem dX8_dropOld_13 : decode cX8_dropOld 13 = .ok (.getfield 85, 3) := by decide +kernel
theorem dX8_dropOld_16 : decode cX8_dropOld 16 = .ok (.if_icmp .ge 56, 3) := by decide +kernel
theorem dX8_dropOld_19 : decode cX8_dropOld 19 = .ok (.iconst 0, 1) := by decide +kernel
theorem dX8_dropOld_20 : decode cX8_dropOld 20 = .ok (.istore_n 3, 1) := by decide +kernel
theorem dX8_dropOld_21 : decode cX8_dropOld 21 = .ok (.iload_n 3, 1) := by decide +kernel
theorem dX8_dropOld_22 : decode cX8_dropOld 22 = .ok (.bipush 16, 2) := by decide +kernel
theorem dX8_dropOld_24 : decode cX8_dropOld 24 = .ok (.if_icmp .ge 42, 3) := by decide +kernel
theorem dX8_dropOld_27 : decode cX8_dropOld 27 = .ok (.aload_n 0, 1) := by decide +kernel
theorem dX8_dropOld_28 : decode cX8_dropOld 28 = .ok (.iload_n 2, 1) := by decide +kernel
