theorem dX12_isName_4 : decode cX12_isName 4 = .ok (.iconst 1, 1) := by decide +kernel
theorem dX12_isName_5 : decode cX12_isName 5 = .ok (.if_icmp .ne 71, 3) := by decide +kernel
theorem dX12_isName_8 : decode cX12_isName 8 = .ok (.aload_n 0, 1) := by decide +kernel
theorem dX12_isName_9 : decode cX12_isName 9 = .ok (.invokevirtual 161, 3) := by decide +kernel
theorem dX12_isName_12 : decode cX12_isName 12 = .ok (.bipush (-2), 2) := by decide +kernel
theorem dX12_isName_14 : decode cX12_isName 14 = .ok (.if_icmp .ne 62, 3) := by decide +kernel
theorem dX12_isName_17 : decode cX12_isName 17 = .ok (.aload_n 0, 1) := by decide +kernel
theorem dX12_isName_18 : decode cX12_isName 18 = .ok (.getfield 132, 3) := by decide +kernel
theorem dX12_isName_21 : decode cX12_isName 21 = .ok (.ldc2_w 165, 3) := by decide +kernel
theorem dX12_isName_24 : decode cX12_isName 24 = .ok (.lcmp, 1) := by decide +kernel
theorem dX12_isName_25 : decode cX12_isName 25 = .ok (.ifCond .eq 51, 3) := by decide +kernel
theorem dX12_isName_28 : decode cX12_isName 28 = .ok (.aload_n 0, 1) := by decide +kernel
theorem dX12_isName_29 : decode cX12_isName 29 = .ok (.getfield 132, 3) := by decide +kernel
theorem dX12_isName_32 : decode cX12_isName 32 = .ok (.ldc2_w 167, 3) := by decide +kernel
theorem dX12_isName_35 : decode cX12_isName 35 = .ok (.lcmp, 1) := by decide +kernel
theorem dX12_isName_36 : decode cX12_isName 36 = .ok (.ifCond .eq 40, 3) := by decide +kernel
theorem dX12_isName_39 : decode cX12_isName 39 = .ok (.aload_n 0, 1) := by decide +kernel
theorem dX12_isName_40 : decode cX12_isName 40 = .ok (.getfield 132, 3) := by decide +kernel
theorem dX12_isName_43 : decode cX12_isName 43 = .ok (.ldc2_w 169, 3) := by decide +kernel
theorem dX12_isName_46 : decode cX12_isName 46 = .ok (.lcmp, 1) := by decide +kernel
theorem dX12_isName_47 : decode cX12_isName 47 = .ok (.ifCond .eq 29, 3) := by decide +kernel
theorem dX12_isName_50 : decode cX12_isName 50 = .ok (.aload_n 0, 1) := by decide +kernel
theorem dX12_isName_51 : decode cX12_isName 51 = .ok (.getfield 132, 3) := by decide +kernel
theorem dX12_isName_54 : decode cX12_isName 54 = .ok (.ldc2_w 171, 3) := by decide +kernel
theorem dX12_isName_57 : decode cX12_isName 57 = .ok (.lcmp, 1) := by decide +kernel
theorem dX12_isName_58 : decode cX12_isName 58 = .ok (.ifCond .eq 18, 3) := by decide +kernel
theorem dX12_isName_61 : decode cX12_isName 61 = .ok (.aload_n 0, 1) := by decide +kernel
theorem dX12_isName_62 : decode cX12_isName 62 = .ok (.getfield 132, 3) := by decide +kernel
theorem dX12_isName_65 : decode cX12_isName 65 = .ok (.ldc2_w 173, 3) := by decide +kernel
theorem dX12_isName_68 : decode cX12_isName 68 = .ok (.lcmp, 1) := by decide +kernel
theorem dX12_isName_69 : decode cX12_isName 69 = .ok (.ifCond .eq 7, 3) := by decide +kernel
theorem dX12_isName_72 : decode cX12_isName 72 = .ok (.iconst 1, 1) := by decide +kernel
theorem dX12_isName_73 : decode cX12_isName 73 = .ok (.goto 4, 3) := by decide +kernel
theorem dX12_isName_76 : decode cX12_isName 76 = .ok (.iconst 0, 1) := by decide +kernel
theorem dX12_isName_77 : decode cX12_isName 77 = .ok (.ireturn, 1) := by decide +kernel
theorem dX12_readsNumber_0 : decode cX12_readsNumber 0 = .ok (.aload_n 0, 1) := by decide +kernel
theorem dX12_readsNumber_1 : decode cX12_readsNumber 1 = .ok (.aload_n 0, 1) := by decide +kernel
theorem dX12_readsNumber_2 : decode cX12_readsNumber 2 = .ok (.getfield 116, 3) := by decide +kernel
theorem dX12_readsNumber_5 : decode cX12_readsNumber 5 = .ok (.iconst 2, 1) := by decide +kernel
theorem dX12_readsNumber_6 : decode cX12_readsNumber 6 = .ok (.if_icmp .ne 7, 3) := by decide +kernel
theorem dX12_readsNumber_9 : decode cX12_readsNumber 9 = .ok (.iconst 1, 1) := by decide +kernel
theorem dX12_readsNumber_10 : decode cX12_readsNumber 10 = .ok (.goto 4, 3) := by decide +kernel
theorem dX12_readsNumber_13 : decode cX12_readsNumber 13 = .ok (.iconst 0, 1) := by decide +kernel
theorem dX12_readsNumber_14 : decode cX12_readsNumber 14 = .ok (.iconst 1, 1) := by decide +kernel
theorem dX12_readsNumber_15 : decode cX12_readsNumber 15 = .ok (.invokevirtual 175, 3) := by decide +kernel
theorem dX12_readsNumber_18 : decode cX12_readsNumber 18 = .ok (.aload_n 0, 1) := by decide +kernel
theorem dX12_readsNumber_19 : decode cX12_readsNumber 19 = .ok (.getfield 129, 3) := by decide +kernel
theorem dX12_readsNumber_22 : decode cX12_readsNumber 22 = .ok (.istore_n 3, 1) := by decide +kernel
theorem dX12_readsNumber_23 : decode cX12_readsNumber 23 = .ok (.aload_n 0, 1) := by decide +kernel
theorem dX12_readsNumber_24 : decode cX12_readsNumber 24 = .ok (.iload_n 3, 1) := by decide +kernel
theorem dX12_readsNumber_25 : decode cX12_readsNumber 25 = .ok (.i2l, 1) := by decide +kernel
theorem dX12_readsNumber_26 : decode cX12_readsNumber 26 = .ok (.iload_n 1, 1) := by decide +kernel
theorem dX12_readsNumber_27 : decode cX12_readsNumber 27 = .ok (.i2l, 1) := by decide +kernel
theorem dX12_readsNumber_28 : decode cX12_readsNumber 28 = .ok (.iload_n 2, 1) := by decide +kernel
theorem dX12_readsNumber_29 : decode cX12_readsNumber 29 = .ok (.i2l, 1) := by decide +kernel
theorem dX12_readsNumber_30 : decode cX12_readsNumber 30 = .ok (.invokestatic 94, 3) := by decide +kernel
theorem dX12_readsNumber_33 : decode cX12_readsNumber 33 = .ok (.iconst 2, 1) := by decide +kernel
theorem dX12_readsNumber_34 : decode cX12_readsNumber 34 = .ok (.invokevirtual 175, 3) := by decide +kernel
theorem dX12_readsNumber_37 : decode cX12_readsNumber 37 = .ok (.aload_n 0, 1) := by decide +kernel
theorem dX12_readsNumber_38 : decode cX12_readsNumber 38 = .ok (.invokevirtual 179, 3) := by decide +kernel
theorem dX12_readsNumber_41 : decode cX12_readsNumber 41 = .ok (.iload_n 3, 1) := by decide +kernel
theorem dX12_readsNumber_42 : decode cX12_readsNumber 42 = .ok (.ireturn, 1) := by decide +kernel
theorem dX12_here_0 : decode cX12_here 0 = .ok (.iconst 0, 1) := by decide +kernel
theorem dX12_here_1 : decode cX12_here 1 = .ok (.istore_n 1, 1) := by decide +kernel
theorem dX12_here_2 : decode cX12_here 2 = .ok (.iload_n 1, 1) := by decide +kernel
theorem dX12_here_3 : decode cX12_here 3 = .ok (.aload_n 0, 1) := by decide +kernel
theorem dX12_here_4 : decode cX12_here 4 = .ok (.getfield 182, 3) := by decide +kernel
theorem dX12_here_7 : decode cX12_here 7 = .ok (.if_icmp .ge 25, 3) := by decide +kernel
theorem dX12_here_10 : decode cX12_here 10 = .ok (.aload_n 0, 1) := by decide +kernel
theorem dX12_here_11 : decode cX12_here 11 = .ok (.getfield 28, 3) := by decide +kernel
theorem dX12_here_14 : decode cX12_here 14 = .ok (.iload_n 1, 1) := by decide +kernel
theorem dX12_here_15 : decode cX12_here 15 = .ok (.laload, 1) := by decide +kernel
theorem dX12_here_16 : decode cX12_here 16 = .ok (.aload_n 0, 1) := by decide +kernel
theorem dX12_here_17 : decode cX12_here 17 = .ok (.getfield 132, 3) := by decide +kernel
theorem dX12_here_20 : decode cX12_here 20 = .ok (.lcmp, 1) := by decide +kernel
theorem dX12_here_21 : decode cX12_here 21 = .ok (.ifCond .ne 5, 3) := by decide +kernel
theorem dX12_here_24 : decode cX12_here 24 = .ok (.iload_n 1, 1) := by decide +kernel
theorem dX12_here_25 : decode cX12_here 25 = .ok (.ireturn, 1) := by decide +kernel
theorem dX12_here_26 : decode cX12_here 26 = .ok (.iinc 1 1, 3) := by decide +kernel
theorem dX12_here_29 : decode cX12_here 29 = .ok (.goto (-27), 3) := by decide +kernel
theorem dX12_here_32 : decode cX12_here 32 = .ok (.bipush (-2), 2) := by decide +kernel
theorem dX12_here_34 : decode cX12_here 34 = .ok (.ireturn, 1) := by decide +kernel
theorem dX12_readsParent_0 : decode cX12_readsParent 0 = .ok (.aload_n 0, 1) := by decide +kernel
theorem dX12_readsParent_1 : decode cX12_readsParent 1 = .ok (.getfield 52, 3) := by decide +kernel
theorem dX12_readsParent_4 : decode cX12_readsParent 4 = .ok (.iload_n 1, 1) := by decide +kernel
theorem dX12_readsParent_5 : decode cX12_readsParent 5 = .ok (.bipush (-2), 2) := by decide +kernel
theorem dX12_readsParent_7 : decode cX12_readsParent 7 = .ok (.iastore, 1) := by decide +kernel
theorem dX12_readsParent_8 : decode cX12_readsParent 8 = .ok (.iload_n 1, 1) := by decide +kernel
theorem dX12_readsParent_9 : decode cX12_readsParent 9 = .ok (.ifCond .ne 4, 3) := by decide +kernel
theorem dX12_readsParent_12 : decode cX12_readsParent 12 = .ok (.return_, 1) := by decide +kernel
theorem dX12_readsParent_13 : decode cX12_readsParent 13 = .ok (.aload_n 0, 1) := by decide +kernel
theorem dX12_readsParent_14 : decode cX12_readsParent 14 = .ok (.aload_n 0, 1) := by decide +kernel
theorem dX12_readsParent_15 : decode cX12_readsParent 15 = .ok (.ldc2_w 167, 3) := by decide +kernel
theorem dX12_readsParent_18 : decode cX12_readsParent 18 = .ok (.invokevirtual 185, 3) := by decide +kernel
theorem dX12_readsParent_21 : decode cX12_readsParent 21 = .ok (.iconst 1, 1) := by decide +kernel
theorem dX12_readsParent_22 : decode cX12_readsParent 22 = .ok (.invokevirtual 175, 3) := by decide +kernel
theorem dX12_readsParent_25 : decode cX12_readsParent 25 = .ok (.aload_n 0, 1) := by decide +kernel
theorem dX12_readsParent_26 : decode cX12_readsParent 26 = .ok (.invokevirtual 179, 3) := by decide +kernel
theorem dX12_readsParent_29 : decode cX12_readsParent 29 = .ok (.aload_n 0, 1) := by decide +kernel
theorem dX12_readsParent_30 : decode cX12_readsParent 30 = .ok (.aload_n 0, 1) := by decide +kernel
theorem dX12_readsParent_31 : decode cX12_readsParent 31 = .ok (.invokevirtual 189, 3) := by decide +kernel
theorem dX12_readsParent_34 : decode cX12_readsParent 34 = .ok (.iconst 1, 1) := by decide +kernel
theorem dX12_readsParent_35 : decode cX12_readsParent 35 = .ok (.invokevirtual 175, 3) := by decide +kernel
theorem dX12_readsParent_38 : decode cX12_readsParent 38 = .ok (.aload_n 0, 1) := by decide +kernel
theorem dX12_readsParent_39 : decode cX12_readsParent 39 = .ok (.invokevirtual 192, 3) := by decide +kernel
theorem dX12_readsParent_42 : decode cX12_readsParent 42 = .ok (.istore_n 2, 1) := by decide +kernel
theorem dX12_readsParent_43 : decode cX12_readsParent 43 = .ok (.aload_n 0, 1) := by decide +kernel
theorem dX12_readsParent_44 : decode cX12_readsParent 44 = .ok (.iload_n 2, 1) := by decide +kernel
theorem dX12_readsParent_45 : decode cX12_readsParent 45 = .ok (.bipush (-2), 2) := by decide +kernel
theorem dX12_readsParent_47 : decode cX12_readsParent 47 = .ok (.if_icmp .eq 7, 3) := by decide +kernel
theorem dX12_readsParent_50 : decode cX12_readsParent 50 = .ok (.iconst 1, 1) := by decide +kernel
theorem dX12_readsParent_51 : decode cX12_readsParent 51 = .ok (.goto 4, 3) := by decide +kernel
theorem dX12_readsParent_54 : decode cX12_readsParent 54 = .ok (.iconst 0, 1) := by decide +kernel
theorem dX12_readsParent_55 : decode cX12_readsParent 55 = .ok (.iconst 3, 1) := by decide +kernel
theorem dX12_readsParent_56 : decode cX12_readsParent 56 = .ok (.invokevirtual 175, 3) := by decide +kernel
theorem dX12_readsParent_59 : decode cX12_readsParent 59 = .ok (.aload_n 0, 1) := by decide +kernel
theorem dX12_readsParent_60 : decode cX12_readsParent 60 = .ok (.getfield 52, 3) := by decide +kernel
theorem dX12_readsParent_63 : decode cX12_readsParent 63 = .ok (.iload_n 1, 1) := by decide +kernel
theorem dX12_readsParent_64 : decode cX12_readsParent 64 = .ok (.iload_n 2, 1) := by decide +kernel
theorem dX12_readsParent_65 : decode cX12_readsParent 65 = .ok (.iastore, 1) := by decide +kernel
theorem dX12_readsParent_66 : decode cX12_readsParent 66 = .ok (.aload_n 0, 1) := by decide +kernel
theorem dX12_readsParent_67 : decode cX12_readsParent 67 = .ok (.invokevirtual 179, 3) := by decide +kernel
theorem dX12_readsParent_70 : decode cX12_readsParent 70 = .ok (.return_, 1) := by decide +kernel
theorem dX12_readsSetting_0 : decode cX12_readsSetting 0 = .ok (.aload_n 0, 1) := by decide +kernel
theorem dX12_readsSetting_1 : decode cX12_readsSetting 1 = .ok (.invokevirtual 161, 3) := by decide +kernel
theorem dX12_readsSetting_4 : decode cX12_readsSetting 4 = .ok (.istore_n 2, 1) := by decide +kernel
theorem dX12_readsSetting_5 : decode cX12_readsSetting 5 = .ok (.aload_n 0, 1) := by decide +kernel
theorem dX12_readsSetting_6 : decode cX12_readsSetting 6 = .ok (.aload_n 0, 1) := by decide +kernel
theorem dX12_readsSetting_7 : decode cX12_readsSetting 7 = .ok (.getfield 58, 3) := by decide +kernel
theorem dX12_readsSetting_10 : decode cX12_readsSetting 10 = .ok (.bipush 7, 2) := by decide +kernel
theorem dX12_readsSetting_12 : decode cX12_readsSetting 12 = .ok (.iload_n 1, 1) := by decide +kernel
theorem dX12_readsSetting_13 : decode cX12_readsSetting 13 = .ok (.imul, 1) := by decide +kernel
theorem dX12_readsSetting_14 : decode cX12_readsSetting 14 = .ok (.iload_n 2, 1) := by decide +kernel
theorem dX12_readsSetting_15 : decode cX12_readsSetting 15 = .ok (.iadd, 1) := by decide +kernel
theorem dX12_readsSetting_16 : decode cX12_readsSetting 16 = .ok (.baload, 1) := by decide +kernel
theorem dX12_readsSetting_17 : decode cX12_readsSetting 17 = .ok (.ifCond .ne 7, 3) := by decide +kernel
theorem dX12_readsSetting_20 : decode cX12_readsSetting 20 = .ok (.iconst 1, 1) := by decide +kernel
theorem dX12_readsSetting_21 : decode cX12_readsSetting 21 = .ok (.goto 4, 3) := by decide +kernel
theorem dX12_readsSetting_24 : decode cX12_readsSetting 24 = .ok (.iconst 0, 1) := by decide +kernel
theorem dX12_readsSetting_25 : decode cX12_readsSetting 25 = .ok (.iconst 4, 1) := by decide +kernel
theorem dX12_readsSetting_26 : decode cX12_readsSetting 26 = .ok (.invokevirtual 175, 3) := by decide +kernel
theorem dX12_readsSetting_29 : decode cX12_readsSetting 29 = .ok (.aload_n 0, 1) := by decide +kernel
theorem dX12_readsSetting_30 : decode cX12_readsSetting 30 = .ok (.getfield 58, 3) := by decide +kernel
theorem dX12_readsSetting_33 : decode cX12_readsSetting 33 = .ok (.bipush 7, 2) := by decide +kernel
theorem dX12_readsSetting_35 : decode cX12_readsSetting 35 = .ok (.iload_n 1, 1) := by decide +kernel
theorem dX12_readsSetting_36 : decode cX12_readsSetting 36 = .ok (.imul, 1) := by decide +kernel
theorem dX12_readsSetting_37 : decode cX12_readsSetting 37 = .ok (.iload_n 2, 1) := by decide +kernel
theorem dX12_readsSetting_38 : decode cX12_readsSetting 38 = .ok (.iadd, 1) := by decide +kernel
theorem dX12_readsSetting_39 : decode cX12_readsSetting 39 = .ok (.iconst 1, 1) := by decide +kernel
theorem dX12_readsSetting_40 : decode cX12_readsSetting 40 = .ok (.bastore, 1) := by decide +kernel
theorem dX12_readsSetting_41 : decode cX12_readsSetting 41 = .ok (.aload_n 0, 1) := by decide +kernel
theorem dX12_readsSetting_42 : decode cX12_readsSetting 42 = .ok (.invokevirtual 179, 3) := by decide +kernel
theorem dX12_readsSetting_45 : decode cX12_readsSetting 45 = .ok (.iload_n 2, 1) := by decide +kernel
theorem dX12_readsSetting_46 : decode cX12_readsSetting 46 = .ok (.bipush 6, 2) := by decide +kernel
theorem dX12_readsSetting_48 : decode cX12_readsSetting 48 = .ok (.if_icmp .ne 17, 3) := by decide +kernel
theorem dX12_readsSetting_51 : decode cX12_readsSetting 51 = .ok (.aload_n 0, 1) := by decide +kernel
theorem dX12_readsSetting_52 : decode cX12_readsSetting 52 = .ok (.getfield 55, 3) := by decide +kernel
theorem dX12_readsSetting_55 : decode cX12_readsSetting 55 = .ok (.bipush 7, 2) := by decide +kernel
theorem dX12_readsSetting_57 : decode cX12_readsSetting 57 = .ok (.iload_n 1, 1) := by decide +kernel
theorem dX12_readsSetting_58 : decode cX12_readsSetting 58 = .ok (.imul, 1) := by decide +kernel
theorem dX12_readsSetting_59 : decode cX12_readsSetting 59 = .ok (.bipush 6, 2) := by decide +kernel
theorem dX12_readsSetting_61 : decode cX12_readsSetting 61 = .ok (.iadd, 1) := by decide +kernel
theorem dX12_readsSetting_62 : decode cX12_readsSetting 62 = .ok (.iconst 1, 1) := by decide +kernel
theorem dX12_readsSetting_63 : decode cX12_readsSetting 63 = .ok (.iastore, 1) := by decide +kernel
theorem dX12_readsSetting_64 : decode cX12_readsSetting 64 = .ok (.return_, 1) := by decide +kernel
theorem dX12_readsSetting_65 : decode cX12_readsSetting 65 = .ok (.iload_n 2, 1) := by decide +kernel
theorem dX12_readsSetting_66 : decode cX12_readsSetting 66 = .ok (.iconst 2, 1) := by decide +kernel
theorem dX12_readsSetting_67 : decode cX12_readsSetting 67 = .ok (.if_icmp .eq 8, 3) := by decide +kernel
theorem dX12_readsSetting_70 : decode cX12_readsSetting 70 = .ok (.iload_n 2, 1) := by decide +kernel
theorem dX12_readsSetting_71 : decode cX12_readsSetting 71 = .ok (.iconst 4, 1) := by decide +kernel
theorem dX12_readsSetting_72 : decode cX12_readsSetting 72 = .ok (.if_icmp .ne 7, 3) := by decide +kernel
theorem dX12_readsSetting_75 : decode cX12_readsSetting 75 = .ok (.iconst 1, 1) := by decide +kernel
theorem dX12_readsSetting_76 : decode cX12_readsSetting 76 = .ok (.goto 4, 3) := by decide +kernel
theorem dX12_readsSetting_79 : decode cX12_readsSetting 79 = .ok (.iconst 0, 1) := by decide +kernel
theorem dX12_readsSetting_80 : decode cX12_readsSetting 80 = .ok (.istore_n 3, 1) := by decide +kernel
theorem dX12_readsSetting_81 : decode cX12_readsSetting 81 = .ok (.iload_n 2, 1) := by decide +kernel
theorem dX12_readsSetting_82 : decode cX12_readsSetting 82 = .ok (.ifCond .ne 8, 3) := by decide +kernel
theorem dX12_readsSetting_85 : decode cX12_readsSetting 85 = .ok (.bipush 99, 2) := by decide +kernel
theorem dX12_readsSetting_87 : decode cX12_readsSetting 87 = .ok (.goto 26, 3) := by decide +kernel
theorem dX12_readsSetting_90 : decode cX12_readsSetting 90 = .ok (.iload_n 2, 1) := by decide +kernel
theorem dX12_readsSetting_91 : decode cX12_readsSetting 91 = .ok (.iconst 4, 1) := by decide +kernel
theorem dX12_readsSetting_92 : decode cX12_readsSetting 92 = .ok (.if_icmp .ne 8, 3) := by decide +kernel
theorem dX12_readsSetting_95 : decode cX12_readsSetting 95 = .ok (.bipush 9, 2) := by decide +kernel
theorem dX12_readsSetting_97 : decode cX12_readsSetting 97 = .ok (.goto 16, 3) := by decide +kernel
theorem dX12_readsSetting_100 : decode cX12_readsSetting 100 = .ok (.iload_n 2, 1) := by decide +kernel
theorem dX12_readsSetting_101 : decode cX12_readsSetting 101 = .ok (.iconst 5, 1) := by decide +kernel
theorem dX12_readsSetting_102 : decode cX12_readsSetting 102 = .ok (.if_icmp .ne 8, 3) := by decide +kernel
theorem dX12_readsSetting_105 : decode cX12_readsSetting 105 = .ok (.bipush 7, 2) := by decide +kernel
theorem dX12_readsSetting_107 : decode cX12_readsSetting 107 = .ok (.goto 6, 3) := by decide +kernel
theorem dX12_readsSetting_110 : decode cX12_readsSetting 110 = .ok (.sipush 999, 3) := by decide +kernel
theorem dX12_readsSetting_113 : decode cX12_readsSetting 113 = .ok (.istore 4, 2) := by decide +kernel
theorem dX12_readsSetting_115 : decode cX12_readsSetting 115 = .ok (.aload_n 0, 1) := by decide +kernel
theorem dX12_readsSetting_116 : decode cX12_readsSetting 116 = .ok (.getfield 55, 3) := by decide +kernel
theorem dX12_readsSetting_119 : decode cX12_readsSetting 119 = .ok (.bipush 7, 2) := by decide +kernel
theorem dX12_readsSetting_121 : decode cX12_readsSetting 121 = .ok (.iload_n 1, 1) := by decide +kernel
theorem dX12_readsSetting_122 : decode cX12_readsSetting 122 = .ok (.imul, 1) := by decide +kernel
theorem dX12_readsSetting_123 : decode cX12_readsSetting 123 = .ok (.iload_n 2, 1) := by decide +kernel
theorem dX12_readsSetting_124 : decode cX12_readsSetting 124 = .ok (.iadd, 1) := by decide +kernel
theorem dX12_readsSetting_125 : decode cX12_readsSetting 125 = .ok (.aload_n 0, 1) := by decide +kernel
theorem dX12_readsSetting_126 : decode cX12_readsSetting 126 = .ok (.iload_n 3, 1) := by decide +kernel
theorem dX12_readsSetting_127 : decode cX12_readsSetting 127 = .ok (.iload 4, 2) := by decide +kernel
theorem dX12_readsSetting_129 : decode cX12_readsSetting 129 = .ok (.invokevirtual 195, 3) := by decide +kernel
theorem dX12_readsSetting_132 : decode cX12_readsSetting 132 = .ok (.iastore, 1) := by decide +kernel
theorem dX12_readsSetting_133 : decode cX12_readsSetting 133 = .ok (.return_, 1) := by decide +kernel
theorem dX12_readsNode_0 : decode cX12_readsNode 0 = .ok (.aload_n 0, 1) := by decide +kernel
theorem dX12_readsNode_1 : decode cX12_readsNode 1 = .ok (.aload_n 0, 1) := by decide +kernel
theorem dX12_readsNode_2 : decode cX12_readsNode 2 = .ok (.getfield 182, 3) := by decide +kernel
theorem dX12_readsNode_5 : decode cX12_readsNode 5 = .ok (.bipush 12, 2) := by decide +kernel
theorem dX12_readsNode_7 : decode cX12_readsNode 7 = .ok (.if_icmp .ge 7, 3) := by decide +kernel
theorem dX12_readsNode_10 : decode cX12_readsNode 10 = .ok (.iconst 1, 1) := by decide +kernel
theorem dX12_readsNode_11 : decode cX12_readsNode 11 = .ok (.goto 4, 3) := by decide +kernel
theorem dX12_readsNode_14 : decode cX12_readsNode 14 = .ok (.iconst 0, 1) := by decide +kernel
theorem dX12_readsNode_15 : decode cX12_readsNode 15 = .ok (.iconst 5, 1) := by decide +kernel
theorem dX12_readsNode_16 : decode cX12_readsNode 16 = .ok (.invokevirtual 175, 3) := by decide +kernel
theorem dX12_readsNode_19 : decode cX12_readsNode 19 = .ok (.aload_n 0, 1) := by decide +kernel
theorem dX12_readsNode_20 : decode cX12_readsNode 20 = .ok (.invokevirtual 179, 3) := by decide +kernel
theorem dX12_readsNode_23 : decode cX12_readsNode 23 = .ok (.aload_n 0, 1) := by decide +kernel
theorem dX12_readsNode_24 : decode cX12_readsNode 24 = .ok (.aload_n 0, 1) := by decide +kernel
theorem dX12_readsNode_25 : decode cX12_readsNode 25 = .ok (.invokevirtual 189, 3) := by decide +kernel
theorem dX12_readsNode_28 : decode cX12_readsNode 28 = .ok (.iconst 1, 1) := by decide +kernel
theorem dX12_readsNode_29 : decode cX12_readsNode 29 = .ok (.invokevirtual 175, 3) := by decide +kernel
theorem dX12_readsNode_32 : decode cX12_readsNode 32 = .ok (.aload_n 0, 1) := by decide +kernel
theorem dX12_readsNode_33 : decode cX12_readsNode 33 = .ok (.aload_n 0, 1) := by decide +kernel
theorem dX12_readsNode_34 : decode cX12_readsNode 34 = .ok (.invokevirtual 192, 3) := by decide +kernel
theorem dX12_readsNode_37 : decode cX12_readsNode 37 = .ok (.bipush (-2), 2) := by decide +kernel
theorem dX12_readsNode_39 : decode cX12_readsNode 39 = .ok (.if_icmp .ne 7, 3) := by decide +kernel
theorem dX12_readsNode_42 : decode cX12_readsNode 42 = .ok (.iconst 1, 1) := by decide +kernel
theorem dX12_readsNode_43 : decode cX12_readsNode 43 = .ok (.goto 4, 3) := by decide +kernel
theorem dX12_readsNode_46 : decode cX12_readsNode 46 = .ok (.iconst 0, 1) := by decide +kernel
theorem dX12_readsNode_47 : decode cX12_readsNode 47 = .ok (.iconst 3, 1) := by decide +kernel
theorem dX12_readsNode_48 : decode cX12_readsNode 48 = .ok (.invokevirtual 175, 3) := by decide +kernel
theorem dX12_readsNode_51 : decode cX12_readsNode 51 = .ok (.aload_n 0, 1) := by decide +kernel
theorem dX12_readsNode_52 : decode cX12_readsNode 52 = .ok (.invokevirtual 112, 3) := by decide +kernel
theorem dX12_readsNode_55 : decode cX12_readsNode 55 = .ok (.ifCond .ne 4, 3) := by decide +kernel
theorem dX12_readsNode_58 : decode cX12_readsNode 58 = .ok (.return_, 1) := by decide +kernel
theorem dX12_readsNode_59 : decode cX12_readsNode 59 = .ok (.aload_n 0, 1) := by decide +kernel
theorem dX12_readsNode_60 : decode cX12_readsNode 60 = .ok (.getfield 182, 3) := by decide +kernel
theorem dX12_readsNode_63 : decode cX12_readsNode 63 = .ok (.istore_n 1, 1) := by decide +kernel
theorem dX12_readsNode_64 : decode cX12_readsNode 64 = .ok (.aload_n 0, 1) := by decide +kernel
theorem dX12_readsNode_65 : decode cX12_readsNode 65 = .ok (.getfield 132, 3) := by decide +kernel
theorem dX12_readsNode_68 : decode cX12_readsNode 68 = .ok (.lstore_n 2, 1) := by decide +kernel
theorem dX12_readsNode_69 : decode cX12_readsNode 69 = .ok (.aload_n 0, 1) := by decide +kernel
theorem dX12_readsNode_70 : decode cX12_readsNode 70 = .ok (.invokevirtual 179, 3) := by decide +kernel
theorem dX12_readsNode_73 : decode cX12_readsNode 73 = .ok (.aload_n 0, 1) := by decide +kernel
theorem dX12_readsNode_74 : decode cX12_readsNode 74 = .ok (.iload_n 1, 1) := by decide +kernel
theorem dX12_readsNode_75 : decode cX12_readsNode 75 = .ok (.invokevirtual 199, 3) := by decide +kernel
theorem dX12_readsNode_78 : decode cX12_readsNode 78 = .ok (.aload_n 0, 1) := by decide +kernel
theorem dX12_readsNode_79 : decode cX12_readsNode 79 = .ok (.getfield 28, 3) := by decide +kernel
theorem dX12_readsNode_82 : decode cX12_readsNode 82 = .ok (.iload_n 1, 1) := by decide +kernel
theorem dX12_readsNode_83 : decode cX12_readsNode 83 = .ok (.lload_n 2, 1) := by decide +kernel
theorem dX12_readsNode_84 : decode cX12_readsNode 84 = .ok (.lastore, 1) := by decide +kernel
theorem dX12_readsNode_85 : decode cX12_readsNode 85 = .ok (.iconst 0, 1) := by decide +kernel
theorem dX12_readsNode_86 : decode cX12_readsNode 86 = .ok (.istore 4, 2) := by decide +kernel
theorem dX12_readsNode_88 : decode cX12_readsNode 88 = .ok (.iload 4, 2) := by decide +kernel
theorem dX12_readsNode_90 : decode cX12_readsNode 90 = .ok (.bipush 7, 2) := by decide +kernel
theorem dX12_readsNode_92 : decode cX12_readsNode 92 = .ok (.if_icmp .ge 61, 3) := by decide +kernel
theorem dX12_readsNode_95 : decode cX12_readsNode 95 = .ok (.aload_n 0, 1) := by decide +kernel
theorem dX12_readsNode_96 : decode cX12_readsNode 96 = .ok (.getfield 58, 3) := by decide +kernel
theorem dX12_readsNode_99 : decode cX12_readsNode 99 = .ok (.bipush 7, 2) := by decide +kernel
theorem dX12_readsNode_101 : decode cX12_readsNode 101 = .ok (.iload_n 1, 1) := by decide +kernel
theorem dX12_readsNode_102 : decode cX12_readsNode 102 = .ok (.imul, 1) := by decide +kernel
theorem dX12_readsNode_103 : decode cX12_readsNode 103 = .ok (.iload 4, 2) := by decide +kernel
theorem dX12_readsNode_105 : decode cX12_readsNode 105 = .ok (.iadd, 1) := by decide +kernel
theorem dX12_readsNode_106 : decode cX12_readsNode 106 = .ok (.iconst 0, 1) := by decide +kernel
theorem dX12_readsNode_107 : decode cX12_readsNode 107 = .ok (.bastore, 1) := by decide +kernel
theorem dX12_readsNode_108 : decode cX12_readsNode 108 = .ok (.aload_n 0, 1) := by decide +kernel
theorem dX12_readsNode_109 : decode cX12_readsNode 109 = .ok (.getfield 55, 3) := by decide +kernel
theorem dX12_readsNode_112 : decode cX12_readsNode 112 = .ok (.bipush 7, 2) := by decide +kernel
theorem dX12_readsNode_114 : decode cX12_readsNode 114 = .ok (.iload_n 1, 1) := by decide +kernel
theorem dX12_readsNode_115 : decode cX12_readsNode 115 = .ok (.imul, 1) := by decide +kernel
theorem dX12_readsNode_116 : decode cX12_readsNode 116 = .ok (.iload 4, 2) := by decide +kernel
theorem dX12_readsNode_118 : decode cX12_readsNode 118 = .ok (.iadd, 1) := by decide +kernel
theorem dX12_readsNode_119 : decode cX12_readsNode 119 = .ok (.iload 4, 2) := by decide +kernel
theorem dX12_readsNode_121 : decode cX12_readsNode 121 = .ok (.ifCond .eq 9, 3) := by decide +kernel
theorem dX12_readsNode_124 : decode cX12_readsNode 124 = .ok (.iload 4, 2) := by decide +kernel
theorem dX12_readsNode_126 : decode cX12_readsNode 126 = .ok (.iconst 4, 1) := by decide +kernel
theorem dX12_readsNode_127 : decode cX12_readsNode 127 = .ok (.if_icmp .ne 7, 3) := by decide +kernel
theorem dX12_readsNode_130 : decode cX12_readsNode 130 = .ok (.iconst 1, 1) := by decide +kernel
theorem dX12_readsNode_131 : decode cX12_readsNode 131 = .ok (.goto 15, 3) := by decide +kernel
theorem dX12_readsNode_134 : decode cX12_readsNode 134 = .ok (.iload 4, 2) := by decide +kernel
theorem dX12_readsNode_136 : decode cX12_readsNode 136 = .ok (.iconst 2, 1) := by decide +kernel
theorem dX12_readsNode_137 : decode cX12_readsNode 137 = .ok (.if_icmp .ne 8, 3) := by decide +kernel
theorem dX12_readsNode_140 : decode cX12_readsNode 140 = .ok (.bipush 10, 2) := by decide +kernel
theorem dX12_readsNode_142 : decode cX12_readsNode 142 = .ok (.goto 4, 3) := by decide +kernel
theorem dX12_readsNode_145 : decode cX12_readsNode 145 = .ok (.iconst 0, 1) := by decide +kernel
theorem dX12_readsNode_146 : decode cX12_readsNode 146 = .ok (.iastore, 1) := by decide +kernel
theorem dX12_readsNode_147 : decode cX12_readsNode 147 = .ok (.iinc 4 1, 3) := by decide +kernel
theorem dX12_readsNode_150 : decode cX12_readsNode 150 = .ok (.goto (-62), 3) := by decide +kernel
theorem dX12_readsNode_153 : decode cX12_readsNode 153 = .ok (.aload_n 0, 1) := by decide +kernel
theorem dX12_readsNode_154 : decode cX12_readsNode 154 = .ok (.invokevirtual 112, 3) := by decide +kernel
theorem dX12_readsNode_157 : decode cX12_readsNode 157 = .ok (.ifCond .eq 20, 3) := by decide +kernel
theorem dX12_readsNode_160 : decode cX12_readsNode 160 = .ok (.aload_n 0, 1) := by decide +kernel
theorem dX12_readsNode_161 : decode cX12_readsNode 161 = .ok (.invokevirtual 161, 3) := by decide +kernel
theorem dX12_readsNode_164 : decode cX12_readsNode 164 = .ok (.bipush (-2), 2) := by decide +kernel
theorem dX12_readsNode_166 : decode cX12_readsNode 166 = .ok (.if_icmp .eq 11, 3) := by decide +kernel
theorem dX12_readsNode_169 : decode cX12_readsNode 169 = .ok (.aload_n 0, 1) := by decide +kernel
theorem dX12_readsNode_170 : decode cX12_readsNode 170 = .ok (.iload_n 1, 1) := by decide +kernel
theorem dX12_readsNode_171 : decode cX12_readsNode 171 = .ok (.invokevirtual 202, 3) := by decide +kernel
theorem dX12_readsNode_174 : decode cX12_readsNode 174 = .ok (.goto (-21), 3) := by decide +kernel
theorem dX12_readsNode_177 : decode cX12_readsNode 177 = .ok (.aload_n 0, 1) := by decide +kernel
theorem dX12_readsNode_178 : decode cX12_readsNode 178 = .ok (.getfield 58, 3) := by decide +kernel
theorem dX12_readsNode_181 : decode cX12_readsNode 181 = .ok (.bipush 7, 2) := by decide +kernel
theorem dX12_readsNode_183 : decode cX12_readsNode 183 = .ok (.iload_n 1, 1) := by decide +kernel
theorem dX12_readsNode_184 : decode cX12_readsNode 184 = .ok (.imul, 1) := by decide +kernel
theorem dX12_readsNode_185 : decode cX12_readsNode 185 = .ok (.iconst 1, 1) := by decide +kernel
theorem dX12_readsNode_186 : decode cX12_readsNode 186 = .ok (.iadd, 1) := by decide +kernel
theorem dX12_readsNode_187 : decode cX12_readsNode 187 = .ok (.baload, 1) := by decide +kernel
theorem dX12_readsNode_188 : decode cX12_readsNode 188 = .ok (.ifCond .ne 23, 3) := by decide +kernel
theorem dX12_readsNode_191 : decode cX12_readsNode 191 = .ok (.aload_n 0, 1) := by decide +kernel
theorem dX12_readsNode_192 : decode cX12_readsNode 192 = .ok (.getfield 55, 3) := by decide +kernel
theorem dX12_readsNode_195 : decode cX12_readsNode 195 = .ok (.bipush 7, 2) := by decide +kernel
theorem dX12_readsNode_197 : decode cX12_readsNode 197 = .ok (.iload_n 1, 1) := by decide +kernel
theorem dX12_readsNode_198 : decode cX12_readsNode 198 = .ok (.imul, 1) := by decide +kernel
theorem dX12_readsNode_199 : decode cX12_readsNode 199 = .ok (.iconst 1, 1) := by decide +kernel
theorem dX12_readsNode_200 : decode cX12_readsNode 200 = .ok (.iadd, 1) := by decide +kernel
theorem dX12_readsNode_201 : decode cX12_readsNode 201 = .ok (.aload_n 0, 1) := by decide +kernel
theorem dX12_readsNode_202 : decode cX12_readsNode 202 = .ok (.getfield 55, 3) := by decide +kernel
theorem dX12_readsNode_205 : decode cX12_readsNode 205 = .ok (.bipush 7, 2) := by decide +kernel
theorem dX12_readsNode_207 : decode cX12_readsNode 207 = .ok (.iload_n 1, 1) := by decide +kernel
theorem dX12_readsNode_208 : decode cX12_readsNode 208 = .ok (.imul, 1) := by decide +kernel
theorem dX12_readsNode_209 : decode cX12_readsNode 209 = .ok (.iaload, 1) := by decide +kernel
theorem dX12_readsNode_210 : decode cX12_readsNode 210 = .ok (.iastore, 1) := by decide +kernel
theorem dX12_readsNode_211 : decode cX12_readsNode 211 = .ok (.aload_n 0, 1) := by decide +kernel
theorem dX12_readsNode_212 : decode cX12_readsNode 212 = .ok (.dup, 1) := by decide +kernel
theorem dX12_readsNode_213 : decode cX12_readsNode 213 = .ok (.getfield 182, 3) := by decide +kernel
theorem dX12_readsNode_216 : decode cX12_readsNode 216 = .ok (.iconst 1, 1) := by decide +kernel
theorem dX12_readsNode_217 : decode cX12_readsNode 217 = .ok (.iadd, 1) := by decide +kernel
theorem dX12_readsNode_218 : decode cX12_readsNode 218 = .ok (.putfield 182, 3) := by decide +kernel
theorem dX12_readsNode_221 : decode cX12_readsNode 221 = .ok (.return_, 1) := by decide +kernel
theorem dX12_readsTimed_0 : decode cX12_readsTimed 0 = .ok (.aload_n 0, 1) := by decide +kernel
theorem dX12_readsTimed_1 : decode cX12_readsTimed 1 = .ok (.aload_n 0, 1) := by decide +kernel
theorem dX12_readsTimed_2 : decode cX12_readsTimed 2 = .ok (.getfield 205, 3) := by decide +kernel
theorem dX12_readsTimed_5 : decode cX12_readsTimed 5 = .ok (.bipush 12, 2) := by decide +kernel
theorem dX12_readsTimed_7 : decode cX12_readsTimed 7 = .ok (.if_icmp .ge 7, 3) := by decide +kernel
theorem dX12_readsTimed_10 : decode cX12_readsTimed 10 = .ok (.iconst 1, 1) := by decide +kernel
theorem dX12_readsTimed_11 : decode cX12_readsTimed 11 = .ok (.goto 4, 3) := by decide +kernel
theorem dX12_readsTimed_14 : decode cX12_readsTimed 14 = .ok (.iconst 0, 1) := by decide +kernel
theorem dX12_readsTimed_15 : decode cX12_readsTimed 15 = .ok (.iconst 5, 1) := by decide +kernel
theorem dX12_readsTimed_16 : decode cX12_readsTimed 16 = .ok (.invokevirtual 175, 3) := by decide +kernel
theorem dX12_readsTimed_19 : decode cX12_readsTimed 19 = .ok (.aload_n 0, 1) := by decide +kernel
theorem dX12_readsTimed_20 : decode cX12_readsTimed 20 = .ok (.invokevirtual 179, 3) := by decide +kernel
theorem dX12_readsTimed_23 : decode cX12_readsTimed 23 = .ok (.aload_n 0, 1) := by decide +kernel
theorem dX12_readsTimed_24 : decode cX12_readsTimed 24 = .ok (.iconst 1, 1) := by decide +kernel
theorem dX12_readsTimed_25 : decode cX12_readsTimed 25 = .ok (.sipush 5000, 3) := by decide +kernel
theorem dX12_readsTimed_28 : decode cX12_readsTimed 28 = .ok (.invokevirtual 195, 3) := by decide +kernel
theorem dX12_readsTimed_31 : decode cX12_readsTimed 31 = .ok (.istore_n 1, 1) := by decide +kernel
theorem dX12_readsTimed_32 : decode cX12_readsTimed 32 = .ok (.aload_n 0, 1) := by decide +kernel
theorem dX12_readsTimed_33 : decode cX12_readsTimed 33 = .ok (.aload_n 0, 1) := by decide +kernel
theorem dX12_readsTimed_34 : decode cX12_readsTimed 34 = .ok (.invokevirtual 189, 3) := by decide +kernel
theorem dX12_readsTimed_37 : decode cX12_readsTimed 37 = .ok (.iconst 1, 1) := by decide +kernel
theorem dX12_readsTimed_38 : decode cX12_readsTimed 38 = .ok (.invokevirtual 175, 3) := by decide +kernel
theorem dX12_readsTimed_41 : decode cX12_readsTimed 41 = .ok (.aload_n 0, 1) := by decide +kernel
theorem dX12_readsTimed_42 : decode cX12_readsTimed 42 = .ok (.invokevirtual 192, 3) := by decide +kernel
theorem dX12_readsTimed_45 : decode cX12_readsTimed 45 = .ok (.istore_n 2, 1) := by decide +kernel
theorem dX12_readsTimed_46 : decode cX12_readsTimed 46 = .ok (.aload_n 0, 1) := by decide +kernel
theorem dX12_readsTimed_47 : decode cX12_readsTimed 47 = .ok (.iload_n 2, 1) := by decide +kernel
theorem dX12_readsTimed_48 : decode cX12_readsTimed 48 = .ok (.bipush (-2), 2) := by decide +kernel
theorem dX12_readsTimed_50 : decode cX12_readsTimed 50 = .ok (.if_icmp .eq 7, 3) := by decide +kernel
theorem dX12_readsTimed_53 : decode cX12_readsTimed 53 = .ok (.iconst 1, 1) := by decide +kernel
theorem dX12_readsTimed_54 : decode cX12_readsTimed 54 = .ok (.goto 4, 3) := by decide +kernel
theorem dX12_readsTimed_57 : decode cX12_readsTimed 57 = .ok (.iconst 0, 1) := by decide +kernel
theorem dX12_readsTimed_58 : decode cX12_readsTimed 58 = .ok (.iconst 3, 1) := by decide +kernel
theorem dX12_readsTimed_59 : decode cX12_readsTimed 59 = .ok (.invokevirtual 175, 3) := by decide +kernel
theorem dX12_readsTimed_62 : decode cX12_readsTimed 62 = .ok (.aload_n 0, 1) := by decide +kernel
theorem dX12_readsTimed_63 : decode cX12_readsTimed 63 = .ok (.invokevirtual 179, 3) := by decide +kernel
theorem dX12_readsTimed_66 : decode cX12_readsTimed 66 = .ok (.aload_n 0, 1) := by decide +kernel
theorem dX12_readsTimed_67 : decode cX12_readsTimed 67 = .ok (.invokevirtual 161, 3) := by decide +kernel
theorem dX12_readsTimed_70 : decode cX12_readsTimed 70 = .ok (.istore_n 3, 1) := by decide +kernel
theorem dX12_readsTimed_71 : decode cX12_readsTimed 71 = .ok (.aload_n 0, 1) := by decide +kernel
theorem dX12_readsTimed_72 : decode cX12_readsTimed 72 = .ok (.iload_n 3, 1) := by decide +kernel
theorem dX12_readsTimed_73 : decode cX12_readsTimed 73 = .ok (.ifCond .eq 13, 3) := by decide +kernel
theorem dX12_readsTimed_76 : decode cX12_readsTimed 76 = .ok (.iload_n 3, 1) := by decide +kernel
theorem dX12_readsTimed_77 : decode cX12_readsTimed 77 = .ok (.iconst 1, 1) := by decide +kernel
theorem dX12_readsTimed_78 : decode cX12_readsTimed 78 = .ok (.if_icmp .eq 8, 3) := by decide +kernel
theorem dX12_readsTimed_81 : decode cX12_readsTimed 81 = .ok (.iload_n 3, 1) := by decide +kernel
theorem dX12_readsTimed_82 : decode cX12_readsTimed 82 = .ok (.iconst 4, 1) := by decide +kernel
theorem dX12_readsTimed_83 : decode cX12_readsTimed 83 = .ok (.if_icmp .ne 7, 3) := by decide +kernel
theorem dX12_readsTimed_86 : decode cX12_readsTimed 86 = .ok (.iconst 1, 1) := by decide +kernel
theorem dX12_readsTimed_87 : decode cX12_readsTimed 87 = .ok (.goto 4, 3) := by decide +kernel
theorem dX12_readsTimed_90 : decode cX12_readsTimed 90 = .ok (.iconst 0, 1) := by decide +kernel
theorem dX12_readsTimed_91 : decode cX12_readsTimed 91 = .ok (.iconst 1, 1) := by decide +kernel
theorem dX12_readsTimed_92 : decode cX12_readsTimed 92 = .ok (.invokevirtual 175, 3) := by decide +kernel
theorem dX12_readsTimed_95 : decode cX12_readsTimed 95 = .ok (.aload_n 0, 1) := by decide +kernel
theorem dX12_readsTimed_96 : decode cX12_readsTimed 96 = .ok (.invokevirtual 179, 3) := by decide +kernel
theorem dX12_readsTimed_99 : decode cX12_readsTimed 99 = .ok (.aload_n 0, 1) := by decide +kernel
theorem dX12_readsTimed_100 : decode cX12_readsTimed 100 = .ok (.iload_n 3, 1) := by decide +kernel
theorem dX12_readsTimed_101 : decode cX12_readsTimed 101 = .ok (.iconst 4, 1) := by decide +kernel
theorem dX12_readsTimed_102 : decode cX12_readsTimed 102 = .ok (.if_icmp .ne 7, 3) := by decide +kernel
theorem dX12_readsTimed_105 : decode cX12_readsTimed 105 = .ok (.iconst 1, 1) := by decide +kernel
theorem dX12_readsTimed_106 : decode cX12_readsTimed 106 = .ok (.goto 4, 3) := by decide +kernel
theorem dX12_readsTimed_109 : decode cX12_readsTimed 109 = .ok (.iconst 0, 1) := by decide +kernel
theorem dX12_readsTimed_110 : decode cX12_readsTimed 110 = .ok (.iload_n 3, 1) := by decide +kernel
theorem dX12_readsTimed_111 : decode cX12_readsTimed 111 = .ok (.ifCond .ne 8, 3) := by decide +kernel
theorem dX12_readsTimed_114 : decode cX12_readsTimed 114 = .ok (.bipush 99, 2) := by decide +kernel
theorem dX12_readsTimed_116 : decode cX12_readsTimed 116 = .ok (.goto 16, 3) := by decide +kernel
theorem dX12_readsTimed_119 : decode cX12_readsTimed 119 = .ok (.iload_n 3, 1) := by decide +kernel
theorem dX12_readsTimed_120 : decode cX12_readsTimed 120 = .ok (.iconst 1, 1) := by decide +kernel
theorem dX12_readsTimed_121 : decode cX12_readsTimed 121 = .ok (.if_icmp .ne 9, 3) := by decide +kernel
theorem dX12_readsTimed_124 : decode cX12_readsTimed 124 = .ok (.sipush 999, 3) := by decide +kernel
theorem dX12_readsTimed_127 : decode cX12_readsTimed 127 = .ok (.goto 5, 3) := by decide +kernel
theorem dX12_readsTimed_130 : decode cX12_readsTimed 130 = .ok (.bipush 9, 2) := by decide +kernel
theorem dX12_readsTimed_132 : decode cX12_readsTimed 132 = .ok (.invokevirtual 195, 3) := by decide +kernel
theorem dX12_readsTimed_135 : decode cX12_readsTimed 135 = .ok (.istore 4, 2) := by decide +kernel
theorem dX12_readsTimed_137 : decode cX12_readsTimed 137 = .ok (.aload_n 0, 1) := by decide +kernel
theorem dX12_readsTimed_138 : decode cX12_readsTimed 138 = .ok (.invokevirtual 112, 3) := by decide +kernel
theorem dX12_readsTimed_141 : decode cX12_readsTimed 141 = .ok (.ifCond .ne 4, 3) := by decide +kernel
theorem dX12_readsTimed_144 : decode cX12_readsTimed 144 = .ok (.return_, 1) := by decide +kernel
theorem dX12_readsTimed_145 : decode cX12_readsTimed 145 = .ok (.aload_n 0, 1) := by decide +kernel
theorem dX12_readsTimed_146 : decode cX12_readsTimed 146 = .ok (.getfield 73, 3) := by decide +kernel
theorem dX12_readsTimed_149 : decode cX12_readsTimed 149 = .ok (.aload_n 0, 1) := by decide +kernel
theorem dX12_readsTimed_150 : decode cX12_readsTimed 150 = .ok (.getfield 205, 3) := by decide +kernel
theorem dX12_readsTimed_153 : decode cX12_readsTimed 153 = .ok (.iload_n 1, 1) := by decide +kernel
theorem dX12_readsTimed_154 : decode cX12_readsTimed 154 = .ok (.iastore, 1) := by decide +kernel
theorem dX12_readsTimed_155 : decode cX12_readsTimed 155 = .ok (.aload_n 0, 1) := by decide +kernel
theorem dX12_readsTimed_156 : decode cX12_readsTimed 156 = .ok (.getfield 76, 3) := by decide +kernel
theorem dX12_readsTimed_159 : decode cX12_readsTimed 159 = .ok (.aload_n 0, 1) := by decide +kernel
theorem dX12_readsTimed_160 : decode cX12_readsTimed 160 = .ok (.getfield 205, 3) := by decide +kernel
theorem dX12_readsTimed_163 : decode cX12_readsTimed 163 = .ok (.iload_n 2, 1) := by decide +kernel
theorem dX12_readsTimed_164 : decode cX12_readsTimed 164 = .ok (.iastore, 1) := by decide +kernel
theorem dX12_readsTimed_165 : decode cX12_readsTimed 165 = .ok (.aload_n 0, 1) := by decide +kernel
theorem dX12_readsTimed_166 : decode cX12_readsTimed 166 = .ok (.getfield 79, 3) := by decide +kernel
theorem dX12_readsTimed_169 : decode cX12_readsTimed 169 = .ok (.aload_n 0, 1) := by decide +kernel
theorem dX12_readsTimed_170 : decode cX12_readsTimed 170 = .ok (.getfield 205, 3) := by decide +kernel
theorem dX12_readsTimed_173 : decode cX12_readsTimed 173 = .ok (.iload_n 3, 1) := by decide +kernel
theorem dX12_readsTimed_174 : decode cX12_readsTimed 174 = .ok (.iastore, 1) := by decide +kernel
theorem dX12_readsTimed_175 : decode cX12_readsTimed 175 = .ok (.aload_n 0, 1) := by decide +kernel
theorem dX12_readsTimed_176 : decode cX12_readsTimed 176 = .ok (.getfield 82, 3) := by decide +kernel
theorem dX12_readsTimed_179 : decode cX12_readsTimed 179 = .ok (.aload_n 0, 1) := by decide +kernel
theorem dX12_readsTimed_180 : decode cX12_readsTimed 180 = .ok (.getfield 205, 3) := by decide +kernel
theorem dX12_readsTimed_183 : decode cX12_readsTimed 183 = .ok (.iload 4, 2) := by decide +kernel
theorem dX12_readsTimed_185 : decode cX12_readsTimed 185 = .ok (.iastore, 1) := by decide +kernel
theorem dX12_readsTimed_186 : decode cX12_readsTimed 186 = .ok (.aload_n 0, 1) := by decide +kernel
theorem dX12_readsTimed_187 : decode cX12_readsTimed 187 = .ok (.dup, 1) := by decide +kernel
theorem dX12_readsTimed_188 : decode cX12_readsTimed 188 = .ok (.getfield 205, 3) := by decide +kernel
theorem dX12_readsTimed_191 : decode cX12_readsTimed 191 = .ok (.iconst 1, 1) := by decide +kernel
theorem dX12_readsTimed_192 : decode cX12_readsTimed 192 = .ok (.iadd, 1) := by decide +kernel
theorem dX12_readsTimed_193 : decode cX12_readsTimed 193 = .ok (.putfield 205, 3) := by decide +kernel
theorem dX12_readsTimed_196 : decode cX12_readsTimed 196 = .ok (.return_, 1) := by decide +kernel
theorem dX12_placeOf_0 : decode cX12_placeOf 0 = .ok (.iload_n 0, 1) := by decide +kernel
theorem dX12_placeOf_1 : decode cX12_placeOf 1 = .ok (.ifCond .ne 8, 3) := by decide +kernel
theorem dX12_placeOf_4 : decode cX12_placeOf 4 = .ok (.bipush 99, 2) := by decide +kernel
theorem dX12_placeOf_6 : decode cX12_placeOf 6 = .ok (.goto 15, 3) := by decide +kernel
theorem dX12_placeOf_9 : decode cX12_placeOf 9 = .ok (.iload_n 0, 1) := by decide +kernel
theorem dX12_placeOf_10 : decode cX12_placeOf 10 = .ok (.iconst 1, 1) := by decide +kernel
theorem dX12_placeOf_11 : decode cX12_placeOf 11 = .ok (.if_icmp .ne 8, 3) := by decide +kernel
theorem dX12_placeOf_14 : decode cX12_placeOf 14 = .ok (.bipush 111, 2) := by decide +kernel
theorem dX12_placeOf_16 : decode cX12_placeOf 16 = .ok (.goto 5, 3) := by decide +kernel
theorem dX12_placeOf_19 : decode cX12_placeOf 19 = .ok (.bipush 123, 2) := by decide +kernel
theorem dX12_placeOf_21 : decode cX12_placeOf 21 = .ok (.ireturn, 1) := by decide +kernel
theorem dX12_timedChanges_0 : decode cX12_timedChanges 0 = .ok (.iconst 0, 1) := by decide +kernel
theorem dX12_timedChanges_1 : decode cX12_timedChanges 1 = .ok (.istore_n 1, 1) := by decide +kernel
theorem dX12_timedChanges_2 : decode cX12_timedChanges 2 = .ok (.iload_n 1, 1) := by decide +kernel
theorem dX12_timedChanges_3 : decode cX12_timedChanges 3 = .ok (.aload_n 0, 1) := by decide +kernel
theorem dX12_timedChanges_4 : decode cX12_timedChanges 4 = .ok (.getfield 208, 3) := by decide +kernel
theorem dX12_timedChanges_7 : decode cX12_timedChanges 7 = .ok (.if_icmp .ge 51, 3) := by decide +kernel
theorem dX12_timedChanges_10 : decode cX12_timedChanges 10 = .ok (.aload_n 0, 1) := by decide +kernel
theorem dX12_timedChanges_11 : decode cX12_timedChanges 11 = .ok (.getfield 61, 3) := by decide +kernel
theorem dX12_timedChanges_14 : decode cX12_timedChanges 14 = .ok (.iload_n 1, 1) := by decide +kernel
theorem dX12_timedChanges_15 : decode cX12_timedChanges 15 = .ok (.iaload, 1) := by decide +kernel
theorem dX12_timedChanges_16 : decode cX12_timedChanges 16 = .ok (.aload_n 0, 1) := by decide +kernel
theorem dX12_timedChanges_17 : decode cX12_timedChanges 17 = .ok (.getfield 7, 3) := by decide +kernel
theorem dX12_timedChanges_20 : decode cX12_timedChanges 20 = .ok (.iconst 0, 1) := by decide +kernel
theorem dX12_timedChanges_21 : decode cX12_timedChanges 21 = .ok (.iaload, 1) := by decide +kernel
theorem dX12_timedChanges_22 : decode cX12_timedChanges 22 = .ok (.if_icmp .ne 30, 3) := by decide +kernel
theorem dX12_timedChanges_25 : decode cX12_timedChanges 25 = .ok (.aload_n 0, 1) := by decide +kernel
theorem dX12_timedChanges_26 : decode cX12_timedChanges 26 = .ok (.getfield 7, 3) := by decide +kernel
theorem dX12_timedChanges_29 : decode cX12_timedChanges 29 = .ok (.aload_n 0, 1) := by decide +kernel
theorem dX12_timedChanges_30 : decode cX12_timedChanges 30 = .ok (.getfield 67, 3) := by decide +kernel
theorem dX12_timedChanges_33 : decode cX12_timedChanges 33 = .ok (.iload_n 1, 1) := by decide +kernel
theorem dX12_timedChanges_34 : decode cX12_timedChanges 34 = .ok (.iaload, 1) := by decide +kernel
theorem dX12_timedChanges_35 : decode cX12_timedChanges 35 = .ok (.invokestatic 211, 3) := by decide +kernel
theorem dX12_timedChanges_38 : decode cX12_timedChanges 38 = .ok (.aload_n 0, 1) := by decide +kernel
theorem dX12_timedChanges_39 : decode cX12_timedChanges 39 = .ok (.getfield 64, 3) := by decide +kernel
theorem dX12_timedChanges_42 : decode cX12_timedChanges 42 = .ok (.iload_n 1, 1) := by decide +kernel
theorem dX12_timedChanges_43 : decode cX12_timedChanges 43 = .ok (.iaload, 1) := by decide +kernel
theorem dX12_timedChanges_44 : decode cX12_timedChanges 44 = .ok (.iadd, 1) := by decide +kernel
theorem dX12_timedChanges_45 : decode cX12_timedChanges 45 = .ok (.aload_n 0, 1) := by decide +kernel
theorem dX12_timedChanges_46 : decode cX12_timedChanges 46 = .ok (.getfield 70, 3) := by decide +kernel
theorem dX12_timedChanges_49 : decode cX12_timedChanges 49 = .ok (.iload_n 1, 1) := by decide +kernel
theorem dX12_timedChanges_50 : decode cX12_timedChanges 50 = .ok (.iaload, 1) := by decide +kernel
theorem dX12_timedChanges_51 : decode cX12_timedChanges 51 = .ok (.iastore, 1) := by decide +kernel
theorem dX12_timedChanges_52 : decode cX12_timedChanges 52 = .ok (.iinc 1 1, 3) := by decide +kernel
theorem dX12_timedChanges_55 : decode cX12_timedChanges 55 = .ok (.goto (-53), 3) := by decide +kernel
theorem dX12_timedChanges_58 : decode cX12_timedChanges 58 = .ok (.return_, 1) := by decide +kernel
theorem dX12_readsStatement_0 : decode cX12_readsStatement 0 = .ok (.aload_n 0, 1) := by decide +kernel
theorem dX12_readsStatement_1 : decode cX12_readsStatement 1 = .ok (.ldc2_w 165, 3) := by decide +kernel
theorem dX12_readsStatement_4 : decode cX12_readsStatement 4 = .ok (.invokevirtual 185, 3) := by decide +kernel
theorem dX12_readsStatement_7 : decode cX12_readsStatement 7 = .ok (.ifCond .eq 10, 3) := by decide +kernel
theorem dX12_readsStatement_10 : decode cX12_readsStatement 10 = .ok (.aload_n 0, 1) := by decide +kernel
theorem dX12_readsStatement_11 : decode cX12_readsStatement 11 = .ok (.invokevirtual 214, 3) := by decide +kernel
theorem dX12_readsStatement_14 : decode cX12_readsStatement 14 = .ok (.goto 120, 3) := by decide +kernel
theorem dX12_readsStatement_17 : decode cX12_readsStatement 17 = .ok (.aload_n 0, 1) := by decide +kernel
theorem dX12_readsStatement_18 : decode cX12_readsStatement 18 = .ok (.ldc2_w 169, 3) := by decide +kernel
theorem dX12_readsStatement_21 : decode cX12_readsStatement 21 = .ok (.invokevirtual 185, 3) := by decide +kernel
theorem dX12_readsStatement_24 : decode cX12_readsStatement 24 = .ok (.ifCond .eq 43, 3) := by decide +kernel
theorem dX12_readsStatement_27 : decode cX12_readsStatement 27 = .ok (.aload_n 0, 1) := by decide +kernel
theorem dX12_readsStatement_28 : decode cX12_readsStatement 28 = .ok (.aload_n 0, 1) := by decide +kernel
theorem dX12_readsStatement_29 : decode cX12_readsStatement 29 = .ok (.getfield 217, 3) := by decide +kernel
theorem dX12_readsStatement_32 : decode cX12_readsStatement 32 = .ok (.ifCond .ne 7, 3) := by decide +kernel
theorem dX12_readsStatement_35 : decode cX12_readsStatement 35 = .ok (.iconst 1, 1) := by decide +kernel
theorem dX12_readsStatement_36 : decode cX12_readsStatement 36 = .ok (.goto 4, 3) := by decide +kernel
theorem dX12_readsStatement_39 : decode cX12_readsStatement 39 = .ok (.iconst 0, 1) := by decide +kernel
theorem dX12_readsStatement_40 : decode cX12_readsStatement 40 = .ok (.iconst 4, 1) := by decide +kernel
theorem dX12_readsStatement_41 : decode cX12_readsStatement 41 = .ok (.invokevirtual 175, 3) := by decide +kernel
theorem dX12_readsStatement_44 : decode cX12_readsStatement 44 = .ok (.aload_n 0, 1) := by decide +kernel
theorem dX12_readsStatement_45 : decode cX12_readsStatement 45 = .ok (.iconst 1, 1) := by decide +kernel
theorem dX12_readsStatement_46 : decode cX12_readsStatement 46 = .ok (.putfield 217, 3) := by decide +kernel
theorem dX12_readsStatement_49 : decode cX12_readsStatement 49 = .ok (.aload_n 0, 1) := by decide +kernel
theorem dX12_readsStatement_50 : decode cX12_readsStatement 50 = .ok (.invokevirtual 179, 3) := by decide +kernel
theorem dX12_readsStatement_53 : decode cX12_readsStatement 53 = .ok (.aload_n 0, 1) := by decide +kernel
theorem dX12_readsStatement_54 : decode cX12_readsStatement 54 = .ok (.aload_n 0, 1) := by decide +kernel
theorem dX12_readsStatement_55 : decode cX12_readsStatement 55 = .ok (.iconst 0, 1) := by decide +kernel
theorem dX12_readsStatement_56 : decode cX12_readsStatement 56 = .ok (.bipush 99, 2) := by decide +kernel
theorem dX12_readsStatement_58 : decode cX12_readsStatement 58 = .ok (.invokevirtual 195, 3) := by decide +kernel
theorem dX12_readsStatement_61 : decode cX12_readsStatement 61 = .ok (.putfield 221, 3) := by decide +kernel
theorem dX12_readsStatement_64 : decode cX12_readsStatement 64 = .ok (.goto 70, 3) := by decide +kernel
theorem dX12_readsStatement_67 : decode cX12_readsStatement 67 = .ok (.aload_n 0, 1) := by decide +kernel
theorem dX12_readsStatement_68 : decode cX12_readsStatement 68 = .ok (.ldc2_w 171, 3) := by decide +kernel
theorem dX12_readsStatement_71 : decode cX12_readsStatement 71 = .ok (.invokevirtual 185, 3) := by decide +kernel
theorem dX12_readsStatement_74 : decode cX12_readsStatement 74 = .ok (.ifCond .eq 44, 3) := by decide +kernel
theorem dX12_readsStatement_77 : decode cX12_readsStatement 77 = .ok (.aload_n 0, 1) := by decide +kernel
theorem dX12_readsStatement_78 : decode cX12_readsStatement 78 = .ok (.aload_n 0, 1) := by decide +kernel
theorem dX12_readsStatement_79 : decode cX12_readsStatement 79 = .ok (.getfield 224, 3) := by decide +kernel
theorem dX12_readsStatement_82 : decode cX12_readsStatement 82 = .ok (.ifCond .ne 7, 3) := by decide +kernel
theorem dX12_readsStatement_85 : decode cX12_readsStatement 85 = .ok (.iconst 1, 1) := by decide +kernel
theorem dX12_readsStatement_86 : decode cX12_readsStatement 86 = .ok (.goto 4, 3) := by decide +kernel
theorem dX12_readsStatement_89 : decode cX12_readsStatement 89 = .ok (.iconst 0, 1) := by decide +kernel
theorem dX12_readsStatement_90 : decode cX12_readsStatement 90 = .ok (.iconst 4, 1) := by decide +kernel
theorem dX12_readsStatement_91 : decode cX12_readsStatement 91 = .ok (.invokevirtual 175, 3) := by decide +kernel
theorem dX12_readsStatement_94 : decode cX12_readsStatement 94 = .ok (.aload_n 0, 1) := by decide +kernel
theorem dX12_readsStatement_95 : decode cX12_readsStatement 95 = .ok (.iconst 1, 1) := by decide +kernel
theorem dX12_readsStatement_96 : decode cX12_readsStatement 96 = .ok (.putfield 224, 3) := by decide +kernel
theorem dX12_readsStatement_99 : decode cX12_readsStatement 99 = .ok (.aload_n 0, 1) := by decide +kernel
theorem dX12_readsStatement_100 : decode cX12_readsStatement 100 = .ok (.invokevirtual 179, 3) := by decide +kernel
theorem dX12_readsStatement_103 : decode cX12_readsStatement 103 = .ok (.aload_n 0, 1) := by decide +kernel
theorem dX12_readsStatement_104 : decode cX12_readsStatement 104 = .ok (.aload_n 0, 1) := by decide +kernel
theorem dX12_readsStatement_105 : decode cX12_readsStatement 105 = .ok (.iconst 0, 1) := by decide +kernel
theorem dX12_readsStatement_106 : decode cX12_readsStatement 106 = .ok (.sipush 999, 3) := by decide +kernel
theorem dX12_readsStatement_109 : decode cX12_readsStatement 109 = .ok (.invokevirtual 195, 3) := by decide +kernel
theorem dX12_readsStatement_112 : decode cX12_readsStatement 112 = .ok (.putfield 227, 3) := by decide +kernel
theorem dX12_readsStatement_115 : decode cX12_readsStatement 115 = .ok (.goto 19, 3) := by decide +kernel
theorem dX12_readsStatement_118 : decode cX12_readsStatement 118 = .ok (.aload_n 0, 1) := by decide +kernel
theorem dX12_readsStatement_119 : decode cX12_readsStatement 119 = .ok (.aload_n 0, 1) := by decide +kernel
theorem dX12_readsStatement_120 : decode cX12_readsStatement 120 = .ok (.ldc2_w 173, 3) := by decide +kernel
theorem dX12_readsStatement_123 : decode cX12_readsStatement 123 = .ok (.invokevirtual 185, 3) := by decide +kernel
theorem dX12_readsStatement_126 : decode cX12_readsStatement 126 = .ok (.iconst 1, 1) := by decide +kernel
theorem dX12_readsStatement_127 : decode cX12_readsStatement 127 = .ok (.invokevirtual 175, 3) := by decide +kernel
theorem dX12_readsStatement_130 : decode cX12_readsStatement 130 = .ok (.aload_n 0, 1) := by decide +kernel
theorem dX12_readsStatement_131 : decode cX12_readsStatement 131 = .ok (.invokevirtual 230, 3) := by decide +kernel
theorem dX12_readsStatement_134 : decode cX12_readsStatement 134 = .ok (.aload_n 0, 1) := by decide +kernel
theorem dX12_readsStatement_135 : decode cX12_readsStatement 135 = .ok (.aload_n 0, 1) := by decide +kernel
theorem dX12_readsStatement_136 : decode cX12_readsStatement 136 = .ok (.getfield 116, 3) := by decide +kernel
theorem dX12_readsStatement_139 : decode cX12_readsStatement 139 = .ok (.iconst 3, 1) := by decide +kernel
theorem dX12_readsStatement_140 : decode cX12_readsStatement 140 = .ok (.if_icmp .ne 7, 3) := by decide +kernel
theorem dX12_readsStatement_143 : decode cX12_readsStatement 143 = .ok (.iconst 1, 1) := by decide +kernel
theorem dX12_readsStatement_144 : decode cX12_readsStatement 144 = .ok (.goto 4, 3) := by decide +kernel
theorem dX12_readsStatement_147 : decode cX12_readsStatement 147 = .ok (.iconst 0, 1) := by decide +kernel
theorem dX12_readsStatement_148 : decode cX12_readsStatement 148 = .ok (.iconst 1, 1) := by decide +kernel
theorem dX12_readsStatement_149 : decode cX12_readsStatement 149 = .ok (.invokevirtual 175, 3) := by decide +kernel
theorem dX12_readsStatement_152 : decode cX12_readsStatement 152 = .ok (.aload_n 0, 1) := by decide +kernel
theorem dX12_readsStatement_153 : decode cX12_readsStatement 153 = .ok (.invokevirtual 179, 3) := by decide +kernel
theorem dX12_readsStatement_156 : decode cX12_readsStatement 156 = .ok (.return_, 1) := by decide +kernel
theorem dX12_load_0 : decode cX12_load 0 = .ok (.aload_n 0, 1) := by decide +kernel
theorem dX12_load_1 : decode cX12_load 1 = .ok (.iconst 0, 1) := by decide +kernel
theorem dX12_load_2 : decode cX12_load 2 = .ok (.putfield 88, 3) := by decide +kernel
theorem dX12_load_5 : decode cX12_load 5 = .ok (.aload_n 0, 1) := by decide +kernel
theorem dX12_load_6 : decode cX12_load 6 = .ok (.iconst 0, 1) := by decide +kernel
theorem dX12_load_7 : decode cX12_load 7 = .ok (.putfield 109, 3) := by decide +kernel
theorem dX12_load_10 : decode cX12_load 10 = .ok (.aload_n 0, 1) := by decide +kernel
theorem dX12_load_11 : decode cX12_load 11 = .ok (.bipush (-2), 2) := by decide +kernel
theorem dX12_load_13 : decode cX12_load 13 = .ok (.putfield 49, 3) := by decide +kernel
theorem dX12_load_16 : decode cX12_load 16 = .ok (.aload_n 0, 1) := by decide +kernel
theorem dX12_load_17 : decode cX12_load 17 = .ok (.iconst 0, 1) := by decide +kernel
theorem dX12_load_18 : decode cX12_load 18 = .ok (.putfield 122, 3) := by decide +kernel
theorem dX12_load_21 : decode cX12_load 21 = .ok (.aload_n 0, 1) := by decide +kernel
theorem dX12_load_22 : decode cX12_load 22 = .ok (.iconst 0, 1) := by decide +kernel
theorem dX12_load_23 : decode cX12_load 23 = .ok (.putfield 182, 3) := by decide +kernel
theorem dX12_load_26 : decode cX12_load 26 = .ok (.aload_n 0, 1) := by decide +kernel
theorem dX12_load_27 : decode cX12_load 27 = .ok (.bipush 10, 2) := by decide +kernel
theorem dX12_load_29 : decode cX12_load 29 = .ok (.putfield 221, 3) := by decide +kernel
theorem dX12_load_32 : decode cX12_load 32 = .ok (.aload_n 0, 1) := by decide +kernel
theorem dX12_load_33 : decode cX12_load 33 = .ok (.iconst (-1), 1) := by decide +kernel
theorem dX12_load_34 : decode cX12_load 34 = .ok (.putfield 227, 3) := by decide +kernel
theorem dX12_load_37 : decode cX12_load 37 = .ok (.aload_n 0, 1) := by decide +kernel
theorem dX12_load_38 : decode cX12_load 38 = .ok (.iconst 0, 1) := by decide +kernel
theorem dX12_load_39 : decode cX12_load 39 = .ok (.putfield 217, 3) := by decide +kernel
theorem dX12_load_42 : decode cX12_load 42 = .ok (.aload_n 0, 1) := by decide +kernel
theorem dX12_load_43 : decode cX12_load 43 = .ok (.iconst 0, 1) := by decide +kernel
theorem dX12_load_44 : decode cX12_load 44 = .ok (.putfield 224, 3) := by decide +kernel
theorem dX12_load_47 : decode cX12_load 47 = .ok (.aload_n 0, 1) := by decide +kernel
theorem dX12_load_48 : decode cX12_load 48 = .ok (.iconst 0, 1) := by decide +kernel
theorem dX12_load_49 : decode cX12_load 49 = .ok (.putfield 205, 3) := by decide +kernel
theorem dX12_load_52 : decode cX12_load 52 = .ok (.aload_n 0, 1) := by decide +kernel
theorem dX12_load_53 : decode cX12_load 53 = .ok (.invokevirtual 179, 3) := by decide +kernel
theorem dX12_load_56 : decode cX12_load 56 = .ok (.aload_n 0, 1) := by decide +kernel
theorem dX12_load_57 : decode cX12_load 57 = .ok (.invokevirtual 112, 3) := by decide +kernel
theorem dX12_load_60 : decode cX12_load 60 = .ok (.ifCond .eq 17, 3) := by decide +kernel
theorem dX12_load_63 : decode cX12_load 63 = .ok (.aload_n 0, 1) := by decide +kernel
theorem dX12_load_64 : decode cX12_load 64 = .ok (.getfield 116, 3) := by decide +kernel
theorem dX12_load_67 : decode cX12_load 67 = .ok (.ifCond .eq 10, 3) := by decide +kernel
theorem dX12_load_70 : decode cX12_load 70 = .ok (.aload_n 0, 1) := by decide +kernel
theorem dX12_load_71 : decode cX12_load 71 = .ok (.invokevirtual 233, 3) := by decide +kernel
theorem dX12_load_74 : decode cX12_load 74 = .ok (.goto (-18), 3) := by decide +kernel
theorem dX12_load_77 : decode cX12_load 77 = .ok (.aload_n 0, 1) := by decide +kernel
theorem dX12_load_78 : decode cX12_load 78 = .ok (.iconst 0, 1) := by decide +kernel
theorem dX12_load_79 : decode cX12_load 79 = .ok (.putfield 102, 3) := by decide +kernel
theorem dX12_load_82 : decode cX12_load 82 = .ok (.aload_n 0, 1) := by decide +kernel
theorem dX12_load_83 : decode cX12_load 83 = .ok (.invokevirtual 112, 3) := by decide +kernel
theorem dX12_load_86 : decode cX12_load 86 = .ok (.ifCond .ne 5, 3) := by decide +kernel
theorem dX12_load_89 : decode cX12_load 89 = .ok (.iconst (-1), 1) := by decide +kernel
theorem dX12_load_90 : decode cX12_load 90 = .ok (.ireturn, 1) := by decide +kernel
theorem dX12_load_91 : decode cX12_load 91 = .ok (.aload_n 0, 1) := by decide +kernel
theorem dX12_load_92 : decode cX12_load 92 = .ok (.invokevirtual 236, 3) := by decide +kernel
theorem dX12_load_95 : decode cX12_load 95 = .ok (.aload_n 0, 1) := by decide +kernel
theorem dX12_load_96 : decode cX12_load 96 = .ok (.getfield 91, 3) := by decide +kernel
theorem dX12_load_99 : decode cX12_load 99 = .ok (.ireturn, 1) := by decide +kernel
theorem dX12_takes_0 : decode cX12_takes 0 = .ok (.aload_n 0, 1) := by decide +kernel
theorem dX12_takes_1 : decode cX12_takes 1 = .ok (.aload_n 0, 1) := by decide +kernel
theorem dX12_takes_2 : decode cX12_takes 2 = .ok (.getfield 182, 3) := by decide +kernel
theorem dX12_takes_5 : decode cX12_takes 5 = .ok (.putfield 91, 3) := by decide +kernel
theorem dX12_takes_8 : decode cX12_takes 8 = .ok (.aload_n 0, 1) := by decide +kernel
theorem dX12_takes_9 : decode cX12_takes 9 = .ok (.aload_n 0, 1) := by decide +kernel
theorem dX12_takes_10 : decode cX12_takes 10 = .ok (.getfield 221, 3) := by decide +kernel
theorem dX12_takes_13 : decode cX12_takes 13 = .ok (.putfield 17, 3) := by decide +kernel
theorem dX12_takes_16 : decode cX12_takes 16 = .ok (.aload_n 0, 1) := by decide +kernel
theorem dX12_takes_17 : decode cX12_takes 17 = .ok (.aload_n 0, 1) := by decide +kernel
theorem dX12_takes_18 : decode cX12_takes 18 = .ok (.getfield 224, 3) := by decide +kernel
theorem dX12_takes_21 : decode cX12_takes 21 = .ok (.ifCond .eq 10, 3) := by decide +kernel
theorem dX12_takes_24 : decode cX12_takes 24 = .ok (.aload_n 0, 1) := by decide +kernel
theorem dX12_takes_25 : decode cX12_takes 25 = .ok (.getfield 227, 3) := by decide +kernel
theorem dX12_takes_28 : decode cX12_takes 28 = .ok (.goto 4, 3) := by decide +kernel
theorem dX12_takes_31 : decode cX12_takes 31 = .ok (.iconst (-1), 1) := by decide +kernel
theorem dX12_takes_32 : decode cX12_takes 32 = .ok (.putfield 21, 3) := by decide +kernel
theorem dX12_takes_35 : decode cX12_takes 35 = .ok (.aload_n 0, 1) := by decide +kernel
theorem dX12_takes_36 : decode cX12_takes 36 = .ok (.aload_n 0, 1) := by decide +kernel
theorem dX12_takes_37 : decode cX12_takes 37 = .ok (.getfield 205, 3) := by decide +kernel
theorem dX12_takes_40 : decode cX12_takes 40 = .ok (.putfield 208, 3) := by decide +kernel
theorem dX12_takes_43 : decode cX12_takes 43 = .ok (.iconst 0, 1) := by decide +kernel
theorem dX12_takes_44 : decode cX12_takes 44 = .ok (.istore_n 1, 1) := by decide +kernel
theorem dX12_takes_45 : decode cX12_takes 45 = .ok (.iload_n 1, 1) := by decide +kernel
theorem dX12_takes_46 : decode cX12_takes 46 = .ok (.aload_n 0, 1) := by decide +kernel
theorem dX12_takes_47 : decode cX12_takes 47 = .ok (.getfield 208, 3) := by decide +kernel
theorem dX12_takes_50 : decode cX12_takes 50 = .ok (.if_icmp .ge 57, 3) := by decide +kernel
theorem dX12_takes_53 : decode cX12_takes 53 = .ok (.aload_n 0, 1) := by decide +kernel
theorem dX12_takes_54 : decode cX12_takes 54 = .ok (.getfield 61, 3) := by decide +kernel
theorem dX12_takes_57 : decode cX12_takes 57 = .ok (.iload_n 1, 1) := by decide +kernel
theorem dX12_takes_58 : decode cX12_takes 58 = .ok (.aload_n 0, 1) := by decide +kernel
theorem dX12_takes_59 : decode cX12_takes 59 = .ok (.getfield 73, 3) := by decide +kernel
theorem dX12_takes_62 : decode cX12_takes 62 = .ok (.iload_n 1, 1) := by decide +kernel
theorem dX12_takes_63 : decode cX12_takes 63 = .ok (.iaload, 1) := by decide +kernel
theorem dX12_takes_64 : decode cX12_takes 64 = .ok (.iastore, 1) := by decide +kernel
theorem dX12_takes_65 : decode cX12_takes 65 = .ok (.aload_n 0, 1) := by decide +kernel
theorem dX12_takes_66 : decode cX12_takes 66 = .ok (.getfield 64, 3) := by decide +kernel
theorem dX12_takes_69 : decode cX12_takes 69 = .ok (.iload_n 1, 1) := by decide +kernel
theorem dX12_takes_70 : decode cX12_takes 70 = .ok (.aload_n 0, 1) := by decide +kernel
theorem dX12_takes_71 : decode cX12_takes 71 = .ok (.getfield 76, 3) := by decide +kernel
theorem dX12_takes_74 : decode cX12_takes 74 = .ok (.iload_n 1, 1) := by decide +kernel
theorem dX12_takes_75 : decode cX12_takes 75 = .ok (.iaload, 1) := by decide +kernel
theorem dX12_takes_76 : decode cX12_takes 76 = .ok (.iastore, 1) := by decide +kernel
theorem dX12_takes_77 : decode cX12_takes 77 = .ok (.aload_n 0, 1) := by decide +kernel
theorem dX12_takes_78 : decode cX12_takes 78 = .ok (.getfield 67, 3) := by decide +kernel
theorem dX12_takes_81 : decode cX12_takes 81 = .ok (.iload_n 1, 1) := by decide +kernel
theorem dX12_takes_82 : decode cX12_takes 82 = .ok (.aload_n 0, 1) := by decide +kernel
theorem dX12_takes_83 : decode cX12_takes 83 = .ok (.getfield 79, 3) := by decide +kernel
theorem dX12_takes_86 : decode cX12_takes 86 = .ok (.iload_n 1, 1) := by decide +kernel
theorem dX12_takes_87 : decode cX12_takes 87 = .ok (.iaload, 1) := by decide +kernel
theorem dX12_takes_88 : decode cX12_takes 88 = .ok (.iastore, 1) := by decide +kernel
theorem dX12_takes_89 : decode cX12_takes 89 = .ok (.aload_n 0, 1) := by decide +kernel
theorem dX12_takes_90 : decode cX12_takes 90 = .ok (.getfield 70, 3) := by decide +kernel
theorem dX12_takes_93 : decode cX12_takes 93 = .ok (.iload_n 1, 1) := by decide +kernel
theorem dX12_takes_94 : decode cX12_takes 94 = .ok (.aload_n 0, 1) := by decide +kernel
theorem dX12_takes_95 : decode cX12_takes 95 = .ok (.getfield 82, 3) := by decide +kernel
theorem dX12_takes_98 : decode cX12_takes 98 = .ok (.iload_n 1, 1) := by decide +kernel
theorem dX12_takes_99 : decode cX12_takes 99 = .ok (.iaload, 1) := by decide +kernel
theorem dX12_takes_100 : decode cX12_takes 100 = .ok (.iastore, 1) := by decide +kernel
theorem dX12_takes_101 : decode cX12_takes 101 = .ok (.iinc 1 1, 3) := by decide +kernel
theorem dX12_takes_104 : decode cX12_takes 104 = .ok (.goto (-59), 3) := by decide +kernel
theorem dX12_takes_107 : decode cX12_takes 107 = .ok (.aload_n 0, 1) := by decide +kernel
theorem dX12_takes_108 : decode cX12_takes 108 = .ok (.getfield 13, 3) := by decide +kernel
theorem dX12_takes_111 : decode cX12_takes 111 = .ok (.iconst 0, 1) := by decide +kernel
theorem dX12_takes_112 : decode cX12_takes 112 = .ok (.iconst 0, 1) := by decide +kernel
theorem dX12_takes_113 : decode cX12_takes 113 = .ok (.bastore, 1) := by decide +kernel
theorem dX12_takes_114 : decode cX12_takes 114 = .ok (.aload_n 0, 1) := by decide +kernel
theorem dX12_takes_115 : decode cX12_takes 115 = .ok (.getfield 13, 3) := by decide +kernel
theorem dX12_takes_118 : decode cX12_takes 118 = .ok (.iconst 1, 1) := by decide +kernel
theorem dX12_takes_119 : decode cX12_takes 119 = .ok (.iconst 0, 1) := by decide +kernel
theorem dX12_takes_120 : decode cX12_takes 120 = .ok (.bastore, 1) := by decide +kernel
theorem dX12_takes_121 : decode cX12_takes 121 = .ok (.iconst 0, 1) := by decide +kernel
theorem dX12_takes_122 : decode cX12_takes 122 = .ok (.istore_n 1, 1) := by decide +kernel
theorem dX12_takes_123 : decode cX12_takes 123 = .ok (.iload_n 1, 1) := by decide +kernel
theorem dX12_takes_124 : decode cX12_takes 124 = .ok (.sipush 819, 3) := by decide +kernel
theorem dX12_takes_127 : decode cX12_takes 127 = .ok (.if_icmp .ge 16, 3) := by decide +kernel
theorem dX12_takes_130 : decode cX12_takes 130 = .ok (.aload_n 0, 1) := by decide +kernel
theorem dX12_takes_131 : decode cX12_takes 131 = .ok (.getfield 7, 3) := by decide +kernel
theorem dX12_takes_134 : decode cX12_takes 134 = .ok (.iload_n 1, 1) := by decide +kernel
theorem dX12_takes_135 : decode cX12_takes 135 = .ok (.iconst 0, 1) := by decide +kernel
theorem dX12_takes_136 : decode cX12_takes 136 = .ok (.iastore, 1) := by decide +kernel
theorem dX12_takes_137 : decode cX12_takes 137 = .ok (.iinc 1 1, 3) := by decide +kernel
theorem dX12_takes_140 : decode cX12_takes 140 = .ok (.goto (-17), 3) := by decide +kernel
theorem dX12_takes_143 : decode cX12_takes 143 = .ok (.iconst 0, 1) := by decide +kernel
theorem dX12_takes_144 : decode cX12_takes 144 = .ok (.istore_n 1, 1) := by decide +kernel
theorem dX12_takes_145 : decode cX12_takes 145 = .ok (.iload_n 1, 1) := by decide +kernel
theorem dX12_takes_146 : decode cX12_takes 146 = .ok (.aload_n 0, 1) := by decide +kernel
theorem dX12_takes_147 : decode cX12_takes 147 = .ok (.getfield 91, 3) := by decide +kernel
theorem dX12_takes_150 : decode cX12_takes 150 = .ok (.if_icmp .ge 198, 3) := by decide +kernel
theorem dX12_takes_153 : decode cX12_takes 153 = .ok (.aload_n 0, 1) := by decide +kernel
theorem dX12_takes_154 : decode cX12_takes 154 = .ok (.getfield 24, 3) := by decide +kernel
theorem dX12_takes_157 : decode cX12_takes 157 = .ok (.iload_n 1, 1) := by decide +kernel
theorem dX12_takes_158 : decode cX12_takes 158 = .ok (.aload_n 0, 1) := by decide +kernel
theorem dX12_takes_159 : decode cX12_takes 159 = .ok (.getfield 28, 3) := by decide +kernel
theorem dX12_takes_162 : decode cX12_takes 162 = .ok (.iload_n 1, 1) := by decide +kernel
theorem dX12_takes_163 : decode cX12_takes 163 = .ok (.laload, 1) := by decide +kernel
theorem dX12_takes_164 : decode cX12_takes 164 = .ok (.lastore, 1) := by decide +kernel
theorem dX12_takes_165 : decode cX12_takes 165 = .ok (.aload_n 0, 1) := by decide +kernel
theorem dX12_takes_166 : decode cX12_takes 166 = .ok (.getfield 31, 3) := by decide +kernel
theorem dX12_takes_169 : decode cX12_takes 169 = .ok (.iload_n 1, 1) := by decide +kernel
theorem dX12_takes_170 : decode cX12_takes 170 = .ok (.aload_n 0, 1) := by decide +kernel
theorem dX12_takes_171 : decode cX12_takes 171 = .ok (.getfield 52, 3) := by decide +kernel
theorem dX12_takes_174 : decode cX12_takes 174 = .ok (.iload_n 1, 1) := by decide +kernel
theorem dX12_takes_175 : decode cX12_takes 175 = .ok (.iaload, 1) := by decide +kernel
theorem dX12_takes_176 : decode cX12_takes 176 = .ok (.iastore, 1) := by decide +kernel
theorem dX12_takes_177 : decode cX12_takes 177 = .ok (.aload_n 0, 1) := by decide +kernel
theorem dX12_takes_178 : decode cX12_takes 178 = .ok (.getfield 7, 3) := by decide +kernel
theorem dX12_takes_181 : decode cX12_takes 181 = .ok (.bipush 99, 2) := by decide +kernel
theorem dX12_takes_183 : decode cX12_takes 183 = .ok (.iload_n 1, 1) := by decide +kernel
theorem dX12_takes_184 : decode cX12_takes 184 = .ok (.iadd, 1) := by decide +kernel
theorem dX12_takes_185 : decode cX12_takes 185 = .ok (.aload_n 0, 1) := by decide +kernel
theorem dX12_takes_186 : decode cX12_takes 186 = .ok (.getfield 55, 3) := by decide +kernel
theorem dX12_takes_189 : decode cX12_takes 189 = .ok (.bipush 7, 2) := by decide +kernel
theorem dX12_takes_191 : decode cX12_takes 191 = .ok (.iload_n 1, 1) := by decide +kernel
theorem dX12_takes_192 : decode cX12_takes 192 = .ok (.imul, 1) := by decide +kernel
theorem dX12_takes_193 : decode cX12_takes 193 = .ok (.iaload, 1) := by decide +kernel
theorem dX12_takes_194 : decode cX12_takes 194 = .ok (.iastore, 1) := by decide +kernel
theorem dX12_takes_195 : decode cX12_takes 195 = .ok (.aload_n 0, 1) := by decide +kernel
theorem dX12_takes_196 : decode cX12_takes 196 = .ok (.getfield 7, 3) := by decide +kernel
theorem dX12_takes_199 : decode cX12_takes 199 = .ok (.bipush 111, 2) := by decide +kernel
theorem dX12_takes_201 : decode cX12_takes 201 = .ok (.iload_n 1, 1) := by decide +kernel
theorem dX12_takes_202 : decode cX12_takes 202 = .ok (.iadd, 1) := by decide +kernel
theorem dX12_takes_203 : decode cX12_takes 203 = .ok (.aload_n 0, 1) := by decide +kernel
theorem dX12_takes_204 : decode cX12_takes 204 = .ok (.getfield 55, 3) := by decide +kernel
theorem dX12_takes_207 : decode cX12_takes 207 = .ok (.bipush 7, 2) := by decide +kernel
theorem dX12_takes_209 : decode cX12_takes 209 = .ok (.iload_n 1, 1) := by decide +kernel
theorem dX12_takes_210 : decode cX12_takes 210 = .ok (.imul, 1) := by decide +kernel
theorem dX12_takes_211 : decode cX12_takes 211 = .ok (.iconst 1, 1) := by decide +kernel
theorem dX12_takes_212 : decode cX12_takes 212 = .ok (.iadd, 1) := by decide +kernel
theorem dX12_takes_213 : decode cX12_takes 213 = .ok (.iaload, 1) := by decide +kernel
theorem dX12_takes_214 : decode cX12_takes 214 = .ok (.iastore, 1) := by decide +kernel
theorem dX12_takes_215 : decode cX12_takes 215 = .ok (.aload_n 0, 1) := by decide +kernel
theorem dX12_takes_216 : decode cX12_takes 216 = .ok (.getfield 34, 3) := by decide +kernel
theorem dX12_takes_219 : decode cX12_takes 219 = .ok (.iload_n 1, 1) := by decide +kernel
theorem dX12_takes_220 : decode cX12_takes 220 = .ok (.aload_n 0, 1) := by decide +kernel
theorem dX12_takes_221 : decode cX12_takes 221 = .ok (.getfield 55, 3) := by decide +kernel
theorem dX12_takes_224 : decode cX12_takes 224 = .ok (.bipush 7, 2) := by decide +kernel
theorem dX12_takes_226 : decode cX12_takes 226 = .ok (.iload_n 1, 1) := by decide +kernel
theorem dX12_takes_227 : decode cX12_takes 227 = .ok (.imul, 1) := by decide +kernel
theorem dX12_takes_228 : decode cX12_takes 228 = .ok (.iconst 2, 1) := by decide +kernel
theorem dX12_takes_229 : decode cX12_takes 229 = .ok (.iadd, 1) := by decide +kernel
theorem dX12_takes_230 : decode cX12_takes 230 = .ok (.iaload, 1) := by decide +kernel
theorem dX12_takes_231 : decode cX12_takes 231 = .ok (.iastore, 1) := by decide +kernel
theorem dX12_takes_232 : decode cX12_takes 232 = .ok (.aload_n 0, 1) := by decide +kernel
theorem dX12_takes_233 : decode cX12_takes 233 = .ok (.getfield 37, 3) := by decide +kernel
theorem dX12_takes_236 : decode cX12_takes 236 = .ok (.iload_n 1, 1) := by decide +kernel
theorem dX12_takes_237 : decode cX12_takes 237 = .ok (.aload_n 0, 1) := by decide +kernel
theorem dX12_takes_238 : decode cX12_takes 238 = .ok (.getfield 55, 3) := by decide +kernel
theorem dX12_takes_241 : decode cX12_takes 241 = .ok (.bipush 7, 2) := by decide +kernel
theorem dX12_takes_243 : decode cX12_takes 243 = .ok (.iload_n 1, 1) := by decide +kernel
theorem dX12_takes_244 : decode cX12_takes 244 = .ok (.imul, 1) := by decide +kernel
theorem dX12_takes_245 : decode cX12_takes 245 = .ok (.iconst 3, 1) := by decide +kernel
theorem dX12_takes_246 : decode cX12_takes 246 = .ok (.iadd, 1) := by decide +kernel
theorem dX12_takes_247 : decode cX12_takes 247 = .ok (.iaload, 1) := by decide +kernel
theorem dX12_takes_248 : decode cX12_takes 248 = .ok (.iastore, 1) := by decide +kernel
theorem dX12_takes_249 : decode cX12_takes 249 = .ok (.aload_n 0, 1) := by decide +kernel
theorem dX12_takes_250 : decode cX12_takes 250 = .ok (.getfield 7, 3) := by decide +kernel
theorem dX12_takes_253 : decode cX12_takes 253 = .ok (.bipush 123, 2) := by decide +kernel
theorem dX12_takes_255 : decode cX12_takes 255 = .ok (.iload_n 1, 1) := by decide +kernel
theorem dX12_takes_256 : decode cX12_takes 256 = .ok (.iadd, 1) := by decide +kernel
theorem dX12_takes_257 : decode cX12_takes 257 = .ok (.aload_n 0, 1) := by decide +kernel
theorem dX12_takes_258 : decode cX12_takes 258 = .ok (.getfield 55, 3) := by decide +kernel
theorem dX12_takes_261 : decode cX12_takes 261 = .ok (.bipush 7, 2) := by decide +kernel
theorem dX12_takes_263 : decode cX12_takes 263 = .ok (.iload_n 1, 1) := by decide +kernel
theorem dX12_takes_264 : decode cX12_takes 264 = .ok (.imul, 1) := by decide +kernel
theorem dX12_takes_265 : decode cX12_takes 265 = .ok (.iconst 4, 1) := by decide +kernel
theorem dX12_takes_266 : decode cX12_takes 266 = .ok (.iadd, 1) := by decide +kernel
theorem dX12_takes_267 : decode cX12_takes 267 = .ok (.iaload, 1) := by decide +kernel
theorem dX12_takes_268 : decode cX12_takes 268 = .ok (.iastore, 1) := by decide +kernel
theorem dX12_takes_269 : decode cX12_takes 269 = .ok (.aload_n 0, 1) := by decide +kernel
theorem dX12_takes_270 : decode cX12_takes 270 = .ok (.getfield 40, 3) := by decide +kernel
theorem dX12_takes_273 : decode cX12_takes 273 = .ok (.iload_n 1, 1) := by decide +kernel
theorem dX12_takes_274 : decode cX12_takes 274 = .ok (.aload_n 0, 1) := by decide +kernel
theorem dX12_takes_275 : decode cX12_takes 275 = .ok (.getfield 55, 3) := by decide +kernel
theorem dX12_takes_278 : decode cX12_takes 278 = .ok (.bipush 7, 2) := by decide +kernel
theorem dX12_takes_280 : decode cX12_takes 280 = .ok (.iload_n 1, 1) := by decide +kernel
theorem dX12_takes_281 : decode cX12_takes 281 = .ok (.imul, 1) := by decide +kernel
theorem dX12_takes_282 : decode cX12_takes 282 = .ok (.iconst 5, 1) := by decide +kernel
theorem dX12_takes_283 : decode cX12_takes 283 = .ok (.iadd, 1) := by decide +kernel
theorem dX12_takes_284 : decode cX12_takes 284 = .ok (.iaload, 1) := by decide +kernel
theorem dX12_takes_285 : decode cX12_takes 285 = .ok (.iastore, 1) := by decide +kernel
theorem dX12_takes_286 : decode cX12_takes 286 = .ok (.aload_n 0, 1) := by decide +kernel
theorem dX12_takes_287 : decode cX12_takes 287 = .ok (.getfield 43, 3) := by decide +kernel
theorem dX12_takes_290 : decode cX12_takes 290 = .ok (.iload_n 1, 1) := by decide +kernel
theorem dX12_takes_291 : decode cX12_takes 291 = .ok (.aload_n 0, 1) := by decide +kernel
theorem dX12_takes_292 : decode cX12_takes 292 = .ok (.getfield 55, 3) := by decide +kernel
theorem dX12_takes_295 : decode cX12_takes 295 = .ok (.bipush 7, 2) := by decide +kernel
theorem dX12_takes_297 : decode cX12_takes 297 = .ok (.iload_n 1, 1) := by decide +kernel
theorem dX12_takes_298 : decode cX12_takes 298 = .ok (.imul, 1) := by decide +kernel
theorem dX12_takes_299 : decode cX12_takes 299 = .ok (.bipush 6, 2) := by decide +kernel
theorem dX12_takes_301 : decode cX12_takes 301 = .ok (.iadd, 1) := by decide +kernel
theorem dX12_takes_302 : decode cX12_takes 302 = .ok (.iaload, 1) := by decide +kernel
theorem dX12_takes_303 : decode cX12_takes 303 = .ok (.iconst 1, 1) := by decide +kernel
theorem dX12_takes_304 : decode cX12_takes 304 = .ok (.if_icmp .ne 7, 3) := by decide +kernel
theorem dX12_takes_307 : decode cX12_takes 307 = .ok (.iconst 1, 1) := by decide +kernel
theorem dX12_takes_308 : decode cX12_takes 308 = .ok (.goto 4, 3) := by decide +kernel
theorem dX12_takes_311 : decode cX12_takes 311 = .ok (.iconst 0, 1) := by decide +kernel
theorem dX12_takes_312 : decode cX12_takes 312 = .ok (.bastore, 1) := by decide +kernel
theorem dX12_takes_313 : decode cX12_takes 313 = .ok (.aload_n 0, 1) := by decide +kernel
theorem dX12_takes_314 : decode cX12_takes 314 = .ok (.getfield 7, 3) := by decide +kernel
theorem dX12_takes_317 : decode cX12_takes 317 = .ok (.iconst 3, 1) := by decide +kernel
theorem dX12_takes_318 : decode cX12_takes 318 = .ok (.iload_n 1, 1) := by decide +kernel
theorem dX12_takes_319 : decode cX12_takes 319 = .ok (.iadd, 1) := by decide +kernel
theorem dX12_takes_320 : decode cX12_takes 320 = .ok (.aload_n 0, 1) := by decide +kernel
theorem dX12_takes_321 : decode cX12_takes 321 = .ok (.getfield 34, 3) := by decide +kernel
theorem dX12_takes_324 : decode cX12_takes 324 = .ok (.iload_n 1, 1) := by decide +kernel
theorem dX12_takes_325 : decode cX12_takes 325 = .ok (.iaload, 1) := by decide +kernel
theorem dX12_takes_326 : decode cX12_takes 326 = .ok (.iastore, 1) := by decide +kernel
theorem dX12_takes_327 : decode cX12_takes 327 = .ok (.aload_n 0, 1) := by decide +kernel
theorem dX12_takes_328 : decode cX12_takes 328 = .ok (.getfield 7, 3) := by decide +kernel
theorem dX12_takes_331 : decode cX12_takes 331 = .ok (.bipush 27, 2) := by decide +kernel
theorem dX12_takes_333 : decode cX12_takes 333 = .ok (.iload_n 1, 1) := by decide +kernel
theorem dX12_takes_334 : decode cX12_takes 334 = .ok (.iadd, 1) := by decide +kernel
theorem dX12_takes_335 : decode cX12_takes 335 = .ok (.aload_n 0, 1) := by decide +kernel
theorem dX12_takes_336 : decode cX12_takes 336 = .ok (.getfield 34, 3) := by decide +kernel
theorem dX12_takes_339 : decode cX12_takes 339 = .ok (.iload_n 1, 1) := by decide +kernel
theorem dX12_takes_340 : decode cX12_takes 340 = .ok (.iaload, 1) := by decide +kernel
theorem dX12_takes_341 : decode cX12_takes 341 = .ok (.iastore, 1) := by decide +kernel
theorem dX12_takes_342 : decode cX12_takes 342 = .ok (.iinc 1 1, 3) := by decide +kernel
theorem dX12_takes_345 : decode cX12_takes 345 = .ok (.goto (-200), 3) := by decide +kernel
theorem dX12_takes_348 : decode cX12_takes 348 = .ok (.return_, 1) := by decide +kernel
theorem dX12_faultCode_0 : decode cX12_faultCode 0 = .ok (.aload_n 0, 1) := by decide +kernel
theorem dX12_faultCode_1 : decode cX12_faultCode 1 = .ok (.iconst 0, 1) := by decide +kernel
theorem dX12_faultCode_2 : decode cX12_faultCode 2 = .ok (.putfield 88, 3) := by decide +kernel
theorem dX12_faultCode_5 : decode cX12_faultCode 5 = .ok (.aload_n 0, 1) := by decide +kernel
theorem dX12_faultCode_6 : decode cX12_faultCode 6 = .ok (.getfield 109, 3) := by decide +kernel
theorem dX12_faultCode_9 : decode cX12_faultCode 9 = .ok (.ireturn, 1) := by decide +kernel
theorem dX12_faultPosition_0 : decode cX12_faultPosition 0 = .ok (.aload_n 0, 1) := by decide +kernel
theorem dX12_faultPosition_1 : decode cX12_faultPosition 1 = .ok (.iconst 0, 1) := by decide +kernel
theorem dX12_faultPosition_2 : decode cX12_faultPosition 2 = .ok (.putfield 88, 3) := by decide +kernel
theorem dX12_faultPosition_5 : decode cX12_faultPosition 5 = .ok (.aload_n 0, 1) := by decide +kernel
theorem dX12_faultPosition_6 : decode cX12_faultPosition 6 = .ok (.getfield 49, 3) := by decide +kernel
theorem dX12_faultPosition_9 : decode cX12_faultPosition 9 = .ok (.ireturn, 1) := by decide +kernel
theorem dX12_nodeCount_0 : decode cX12_nodeCount 0 = .ok (.aload_n 0, 1) := by decide +kernel
theorem dX12_nodeCount_1 : decode cX12_nodeCount 1 = .ok (.iconst 0, 1) := by decide +kernel
theorem dX12_nodeCount_2 : decode cX12_nodeCount 2 = .ok (.putfield 88, 3) := by decide +kernel
theorem dX12_nodeCount_5 : decode cX12_nodeCount 5 = .ok (.aload_n 0, 1) := by decide +kernel
theorem dX12_nodeCount_6 : decode cX12_nodeCount 6 = .ok (.getfield 91, 3) := by decide +kernel
theorem dX12_nodeCount_9 : decode cX12_nodeCount 9 = .ok (.ireturn, 1) := by decide +kernel
theorem dX12_lettersOf_0 : decode cX12_lettersOf 0 = .ok (.iconst 0, 1) := by decide +kernel
theorem dX12_lettersOf_1 : decode cX12_lettersOf 1 = .ok (.istore_n 2, 1) := by decide +kernel
theorem dX12_lettersOf_2 : decode cX12_lettersOf 2 = .ok (.lload_n 0, 1) := by decide +kernel
theorem dX12_lettersOf_3 : decode cX12_lettersOf 3 = .ok (.lstore_n 3, 1) := by decide +kernel
theorem dX12_lettersOf_4 : decode cX12_lettersOf 4 = .ok (.lload_n 3, 1) := by decide +kernel
theorem dX12_lettersOf_5 : decode cX12_lettersOf 5 = .ok (.lconst 0, 1) := by decide +kernel
theorem dX12_lettersOf_6 : decode cX12_lettersOf 6 = .ok (.lcmp, 1) := by decide +kernel
theorem dX12_lettersOf_7 : decode cX12_lettersOf 7 = .ok (.ifCond .le 15, 3) := by decide +kernel
theorem dX12_lettersOf_10 : decode cX12_lettersOf 10 = .ok (.iinc 2 1, 3) := by decide +kernel
theorem dX12_lettersOf_13 : decode cX12_lettersOf 13 = .ok (.lload_n 3, 1) := by decide +kernel
theorem dX12_lettersOf_14 : decode cX12_lettersOf 14 = .ok (.ldc2_w 139, 3) := by decide +kernel
theorem dX12_lettersOf_17 : decode cX12_lettersOf 17 = .ok (.ldiv, 1) := by decide +kernel
theorem dX12_lettersOf_18 : decode cX12_lettersOf 18 = .ok (.lstore_n 3, 1) := by decide +kernel
theorem dX12_lettersOf_19 : decode cX12_lettersOf 19 = .ok (.goto (-15), 3) := by decide +kernel
theorem dX12_lettersOf_22 : decode cX12_lettersOf 22 = .ok (.iload_n 2, 1) := by decide +kernel
theorem dX12_lettersOf_23 : decode cX12_lettersOf 23 = .ok (.ireturn, 1) := by decide +kernel
theorem dX12_letterOf_0 : decode cX12_letterOf 0 = .ok (.lload_n 0, 1) := by decide +kernel
theorem dX12_letterOf_1 : decode cX12_letterOf 1 = .ok (.lstore_n 3, 1) := by decide +kernel
theorem dX12_letterOf_2 : decode cX12_letterOf 2 = .ok (.lload_n 0, 1) := by decide +kernel
theorem dX12_letterOf_3 : decode cX12_letterOf 3 = .ok (.invokestatic 239, 3) := by decide +kernel
theorem dX12_letterOf_6 : decode cX12_letterOf 6 = .ok (.iconst 1, 1) := by decide +kernel
theorem dX12_letterOf_7 : decode cX12_letterOf 7 = .ok (.isub, 1) := by decide +kernel
theorem dX12_letterOf_8 : decode cX12_letterOf 8 = .ok (.istore 5, 2) := by decide +kernel
theorem dX12_letterOf_10 : decode cX12_letterOf 10 = .ok (.iload 5, 2) := by decide +kernel
theorem dX12_letterOf_12 : decode cX12_letterOf 12 = .ok (.iload_n 2, 1) := by decide +kernel
theorem dX12_letterOf_13 : decode cX12_letterOf 13 = .ok (.if_icmp .le 15, 3) := by decide +kernel
theorem dX12_letterOf_16 : decode cX12_letterOf 16 = .ok (.lload_n 3, 1) := by decide +kernel
theorem dX12_letterOf_17 : decode cX12_letterOf 17 = .ok (.ldc2_w 139, 3) := by decide +kernel
theorem dX12_letterOf_20 : decode cX12_letterOf 20 = .ok (.ldiv, 1) := by decide +kernel
theorem dX12_letterOf_21 : decode cX12_letterOf 21 = .ok (.lstore_n 3, 1) := by decide +kernel
theorem dX12_letterOf_22 : decode cX12_letterOf 22 = .ok (.iinc 5 (-1), 3) := by decide +kernel
theorem dX12_letterOf_25 : decode cX12_letterOf 25 = .ok (.goto (-15), 3) := by decide +kernel
theorem dX12_letterOf_28 : decode cX12_letterOf 28 = .ok (.iload_n 2, 1) := by decide +kernel
theorem dX12_letterOf_29 : decode cX12_letterOf 29 = .ok (.lload_n 0, 1) := by decide +kernel
theorem dX12_letterOf_30 : decode cX12_letterOf 30 = .ok (.invokestatic 239, 3) := by decide +kernel
theorem dX12_letterOf_33 : decode cX12_letterOf 33 = .ok (.if_icmp .ge 12, 3) := by decide +kernel
theorem dX12_letterOf_36 : decode cX12_letterOf 36 = .ok (.lload_n 3, 1) := by decide +kernel
theorem dX12_letterOf_37 : decode cX12_letterOf 37 = .ok (.ldc2_w 139, 3) := by decide +kernel
theorem dX12_letterOf_40 : decode cX12_letterOf 40 = .ok (.lrem, 1) := by decide +kernel
theorem dX12_letterOf_41 : decode cX12_letterOf 41 = .ok (.l2i, 1) := by decide +kernel
theorem dX12_letterOf_42 : decode cX12_letterOf 42 = .ok (.goto 4, 3) := by decide +kernel
theorem dX12_letterOf_45 : decode cX12_letterOf 45 = .ok (.iconst 0, 1) := by decide +kernel
theorem dX12_letterOf_46 : decode cX12_letterOf 46 = .ok (.ireturn, 1) := by decide +kernel
theorem dX12_nameLetter_0 : decode cX12_nameLetter 0 = .ok (.aload_n 0, 1) := by decide +kernel
theorem dX12_nameLetter_1 : decode cX12_nameLetter 1 = .ok (.iconst 0, 1) := by decide +kernel
theorem dX12_nameLetter_2 : decode cX12_nameLetter 2 = .ok (.putfield 88, 3) := by decide +kernel
theorem dX12_nameLetter_5 : decode cX12_nameLetter 5 = .ok (.aload_n 0, 1) := by decide +kernel
theorem dX12_nameLetter_6 : decode cX12_nameLetter 6 = .ok (.iload_n 1, 1) := by decide +kernel
theorem dX12_nameLetter_7 : decode cX12_nameLetter 7 = .ok (.invokevirtual 98, 3) := by decide +kernel
theorem dX12_nameLetter_10 : decode cX12_nameLetter 10 = .ok (.ifCond .eq 20, 3) := by decide +kernel
theorem dX12_nameLetter_13 : decode cX12_nameLetter 13 = .ok (.iload_n 2, 1) := by decide +kernel
theorem dX12_nameLetter_14 : decode cX12_nameLetter 14 = .ok (.ifCond .lt 16, 3) := by decide +kernel
theorem dX12_nameLetter_17 : decode cX12_nameLetter 17 = .ok (.aload_n 0, 1) := by decide +kernel
theorem dX12_nameLetter_18 : decode cX12_nameLetter 18 = .ok (.getfield 24, 3) := by decide +kernel
theorem dX12_nameLetter_21 : decode cX12_nameLetter 21 = .ok (.iload_n 1, 1) := by decide +kernel
theorem dX12_nameLetter_22 : decode cX12_nameLetter 22 = .ok (.laload, 1) := by decide +kernel
theorem dX12_nameLetter_23 : decode cX12_nameLetter 23 = .ok (.iload_n 2, 1) := by decide +kernel
theorem dX12_nameLetter_24 : decode cX12_nameLetter 24 = .ok (.invokestatic 243, 3) := by decide +kernel
theorem dX12_nameLetter_27 : decode cX12_nameLetter 27 = .ok (.goto 4, 3) := by decide +kernel
theorem dX12_nameLetter_30 : decode cX12_nameLetter 30 = .ok (.iconst (-1), 1) := by decide +kernel
theorem dX12_nameLetter_31 : decode cX12_nameLetter 31 = .ok (.ireturn, 1) := by decide +kernel
theorem dX12_parent_0 : decode cX12_parent 0 = .ok (.aload_n 0, 1) := by decide +kernel
theorem dX12_parent_1 : decode cX12_parent 1 = .ok (.iconst 0, 1) := by decide +kernel
theorem dX12_parent_2 : decode cX12_parent 2 = .ok (.putfield 88, 3) := by decide +kernel
theorem dX12_parent_5 : decode cX12_parent 5 = .ok (.aload_n 0, 1) := by decide +kernel
theorem dX12_parent_6 : decode cX12_parent 6 = .ok (.iload_n 1, 1) := by decide +kernel
theorem dX12_parent_7 : decode cX12_parent 7 = .ok (.invokevirtual 98, 3) := by decide +kernel
theorem dX12_parent_10 : decode cX12_parent 10 = .ok (.ifCond .ne 7, 3) := by decide +kernel
theorem dX12_parent_13 : decode cX12_parent 13 = .ok (.iconst (-1), 1) := by decide +kernel
theorem dX12_parent_14 : decode cX12_parent 14 = .ok (.goto 18, 3) := by decide +kernel
theorem dX12_parent_17 : decode cX12_parent 17 = .ok (.iload_n 1, 1) := by decide +kernel
theorem dX12_parent_18 : decode cX12_parent 18 = .ok (.ifCond .ne 8, 3) := by decide +kernel
theorem dX12_parent_21 : decode cX12_parent 21 = .ok (.bipush (-2), 2) := by decide +kernel
theorem dX12_parent_23 : decode cX12_parent 23 = .ok (.goto 9, 3) := by decide +kernel
theorem dX12_parent_26 : decode cX12_parent 26 = .ok (.aload_n 0, 1) := by decide +kernel
theorem dX12_parent_27 : decode cX12_parent 27 = .ok (.getfield 31, 3) := by decide +kernel
theorem dX12_parent_30 : decode cX12_parent 30 = .ok (.iload_n 1, 1) := by decide +kernel
theorem dX12_parent_31 : decode cX12_parent 31 = .ok (.iaload, 1) := by decide +kernel
theorem dX12_parent_32 : decode cX12_parent 32 = .ok (.ireturn, 1) := by decide +kernel
theorem dX12_child_0 : decode cX12_child 0 = .ok (.aload_n 0, 1) := by decide +kernel
theorem dX12_child_1 : decode cX12_child 1 = .ok (.iconst 0, 1) := by decide +kernel
theorem dX12_child_2 : decode cX12_child 2 = .ok (.putfield 88, 3) := by decide +kernel
theorem dX12_child_5 : decode cX12_child 5 = .ok (.aload_n 0, 1) := by decide +kernel
theorem dX12_child_6 : decode cX12_child 6 = .ok (.iload_n 1, 1) := by decide +kernel
theorem dX12_child_7 : decode cX12_child 7 = .ok (.invokevirtual 98, 3) := by decide +kernel
theorem dX12_child_10 : decode cX12_child 10 = .ok (.ifCond .eq 7, 3) := by decide +kernel
theorem dX12_child_13 : decode cX12_child 13 = .ok (.iload_n 2, 1) := by decide +kernel
theorem dX12_child_14 : decode cX12_child 14 = .ok (.ifCond .ge 5, 3) := by decide +kernel
theorem dX12_child_17 : decode cX12_child 17 = .ok (.iconst (-1), 1) := by decide +kernel
theorem dX12_child_18 : decode cX12_child 18 = .ok (.ireturn, 1) := by decide +kernel
theorem dX12_child_19 : decode cX12_child 19 = .ok (.iload_n 2, 1) := by decide +kernel
theorem dX12_child_20 : decode cX12_child 20 = .ok (.istore_n 3, 1) := by decide +kernel
theorem dX12_child_21 : decode cX12_child 21 = .ok (.iconst 1, 1) := by decide +kernel
theorem dX12_child_22 : decode cX12_child 22 = .ok (.istore 4, 2) := by decide +kernel
theorem dX12_child_24 : decode cX12_child 24 = .ok (.iload 4, 2) := by decide +kernel
theorem dX12_child_26 : decode cX12_child 26 = .ok (.aload_n 0, 1) := by decide +kernel
theorem dX12_child_27 : decode cX12_child 27 = .ok (.getfield 91, 3) := by decide +kernel
theorem dX12_child_30 : decode cX12_child 30 = .ok (.if_icmp .ge 30, 3) := by decide +kernel
theorem dX12_child_33 : decode cX12_child 33 = .ok (.aload_n 0, 1) := by decide +kernel
theorem dX12_child_34 : decode cX12_child 34 = .ok (.getfield 31, 3) := by decide +kernel
theorem dX12_child_37 : decode cX12_child 37 = .ok (.iload 4, 2) := by decide +kernel
theorem dX12_child_39 : decode cX12_child 39 = .ok (.iaload, 1) := by decide +kernel
theorem dX12_child_40 : decode cX12_child 40 = .ok (.iload_n 1, 1) := by decide +kernel
theorem dX12_child_41 : decode cX12_child 41 = .ok (.if_icmp .ne 13, 3) := by decide +kernel
theorem dX12_child_44 : decode cX12_child 44 = .ok (.iload_n 3, 1) := by decide +kernel
theorem dX12_child_45 : decode cX12_child 45 = .ok (.ifCond .ne 6, 3) := by decide +kernel
theorem dX12_child_48 : decode cX12_child 48 = .ok (.iload 4, 2) := by decide +kernel
theorem dX12_child_50 : decode cX12_child 50 = .ok (.ireturn, 1) := by decide +kernel
theorem dX12_child_51 : decode cX12_child 51 = .ok (.iinc 3 (-1), 3) := by decide +kernel
theorem dX12_child_54 : decode cX12_child 54 = .ok (.iinc 4 1, 3) := by decide +kernel
theorem dX12_child_57 : decode cX12_child 57 = .ok (.goto (-33), 3) := by decide +kernel
theorem dX12_child_60 : decode cX12_child 60 = .ok (.bipush (-2), 2) := by decide +kernel
theorem dX12_child_62 : decode cX12_child 62 = .ok (.ireturn, 1) := by decide +kernel
theorem dX12_isLeaf_0 : decode cX12_isLeaf 0 = .ok (.aload_n 0, 1) := by decide +kernel
theorem dX12_isLeaf_1 : decode cX12_isLeaf 1 = .ok (.iconst 0, 1) := by decide +kernel
theorem dX12_isLeaf_2 : decode cX12_isLeaf 2 = .ok (.putfield 88, 3) := by decide +kernel
theorem dX12_isLeaf_5 : decode cX12_isLeaf 5 = .ok (.aload_n 0, 1) := by decide +kernel
theorem dX12_isLeaf_6 : decode cX12_isLeaf 6 = .ok (.iload_n 1, 1) := by decide +kernel
theorem dX12_isLeaf_7 : decode cX12_isLeaf 7 = .ok (.invokevirtual 247, 3) := by decide +kernel
theorem dX12_isLeaf_10 : decode cX12_isLeaf 10 = .ok (.ireturn, 1) := by decide +kernel
theorem dX12_steps_0 : decode cX12_steps 0 = .ok (.iconst 0, 1) := by decide +kernel
theorem dX12_steps_1 : decode cX12_steps 1 = .ok (.istore_n 3, 1) := by decide +kernel
theorem dX12_steps_2 : decode cX12_steps 2 = .ok (.iload_n 1, 1) := by decide +kernel
theorem dX12_steps_3 : decode cX12_steps 3 = .ok (.istore 4, 2) := by decide +kernel
theorem dX12_steps_5 : decode cX12_steps 5 = .ok (.iload 4, 2) := by decide +kernel
theorem dX12_steps_7 : decode cX12_steps 7 = .ok (.iload_n 2, 1) := by decide +kernel
theorem dX12_steps_8 : decode cX12_steps 8 = .ok (.if_icmp .eq 18, 3) := by decide +kernel
theorem dX12_steps_11 : decode cX12_steps 11 = .ok (.iinc 3 1, 3) := by decide +kernel
theorem dX12_steps_14 : decode cX12_steps 14 = .ok (.aload_n 0, 1) := by decide +kernel
theorem dX12_steps_15 : decode cX12_steps 15 = .ok (.getfield 31, 3) := by decide +kernel
theorem dX12_steps_18 : decode cX12_steps 18 = .ok (.iload 4, 2) := by decide +kernel
theorem dX12_steps_20 : decode cX12_steps 20 = .ok (.iaload, 1) := by decide +kernel
theorem dX12_steps_21 : decode cX12_steps 21 = .ok (.istore 4, 2) := by decide +kernel
theorem dX12_steps_23 : decode cX12_steps 23 = .ok (.goto (-18), 3) := by decide +kernel
theorem dX12_steps_26 : decode cX12_steps 26 = .ok (.iload_n 3, 1) := by decide +kernel
theorem dX12_steps_27 : decode cX12_steps 27 = .ok (.ireturn, 1) := by decide +kernel
theorem dX12_depth_0 : decode cX12_depth 0 = .ok (.aload_n 0, 1) := by decide +kernel
theorem dX12_depth_1 : decode cX12_depth 1 = .ok (.iconst 0, 1) := by decide +kernel
theorem dX12_depth_2 : decode cX12_depth 2 = .ok (.putfield 88, 3) := by decide +kernel
theorem dX12_depth_5 : decode cX12_depth 5 = .ok (.aload_n 0, 1) := by decide +kernel
theorem dX12_depth_6 : decode cX12_depth 6 = .ok (.iload_n 1, 1) := by decide +kernel
theorem dX12_depth_7 : decode cX12_depth 7 = .ok (.invokevirtual 98, 3) := by decide +kernel
theorem dX12_depth_10 : decode cX12_depth 10 = .ok (.ifCond .eq 12, 3) := by decide +kernel
theorem dX12_depth_13 : decode cX12_depth 13 = .ok (.aload_n 0, 1) := by decide +kernel
theorem dX12_depth_14 : decode cX12_depth 14 = .ok (.iload_n 1, 1) := by decide +kernel
theorem dX12_depth_15 : decode cX12_depth 15 = .ok (.iconst 0, 1) := by decide +kernel
theorem dX12_depth_16 : decode cX12_depth 16 = .ok (.invokevirtual 250, 3) := by decide +kernel
theorem dX12_depth_19 : decode cX12_depth 19 = .ok (.goto 4, 3) := by decide +kernel
theorem dX12_depth_22 : decode cX12_depth 22 = .ok (.iconst (-1), 1) := by decide +kernel
theorem dX12_depth_23 : decode cX12_depth 23 = .ok (.ireturn, 1) := by decide +kernel
theorem dX12_rate_0 : decode cX12_rate 0 = .ok (.aload_n 0, 1) := by decide +kernel
theorem dX12_rate_1 : decode cX12_rate 1 = .ok (.iconst 0, 1) := by decide +kernel
theorem dX12_rate_2 : decode cX12_rate 2 = .ok (.putfield 88, 3) := by decide +kernel
theorem dX12_rate_5 : decode cX12_rate 5 = .ok (.aload_n 0, 1) := by decide +kernel
theorem dX12_rate_6 : decode cX12_rate 6 = .ok (.iload_n 1, 1) := by decide +kernel
theorem dX12_rate_7 : decode cX12_rate 7 = .ok (.invokevirtual 98, 3) := by decide +kernel
theorem dX12_rate_10 : decode cX12_rate 10 = .ok (.ifCond .eq 15, 3) := by decide +kernel
theorem dX12_rate_13 : decode cX12_rate 13 = .ok (.aload_n 0, 1) := by decide +kernel
theorem dX12_rate_14 : decode cX12_rate 14 = .ok (.getfield 7, 3) := by decide +kernel
theorem dX12_rate_17 : decode cX12_rate 17 = .ok (.bipush 99, 2) := by decide +kernel
theorem dX12_rate_19 : decode cX12_rate 19 = .ok (.iload_n 1, 1) := by decide +kernel
theorem dX12_rate_20 : decode cX12_rate 20 = .ok (.iadd, 1) := by decide +kernel
theorem dX12_rate_21 : decode cX12_rate 21 = .ok (.iaload, 1) := by decide +kernel
theorem dX12_rate_22 : decode cX12_rate 22 = .ok (.goto 4, 3) := by decide +kernel
theorem dX12_rate_25 : decode cX12_rate 25 = .ok (.iconst (-1), 1) := by decide +kernel
theorem dX12_rate_26 : decode cX12_rate 26 = .ok (.ireturn, 1) := by decide +kernel
theorem dX12_ceiling_0 : decode cX12_ceiling 0 = .ok (.aload_n 0, 1) := by decide +kernel
theorem dX12_ceiling_1 : decode cX12_ceiling 1 = .ok (.iconst 0, 1) := by decide +kernel
theorem dX12_ceiling_2 : decode cX12_ceiling 2 = .ok (.putfield 88, 3) := by decide +kernel
theorem dX12_ceiling_5 : decode cX12_ceiling 5 = .ok (.aload_n 0, 1) := by decide +kernel
theorem dX12_ceiling_6 : decode cX12_ceiling 6 = .ok (.iload_n 1, 1) := by decide +kernel
theorem dX12_ceiling_7 : decode cX12_ceiling 7 = .ok (.invokevirtual 98, 3) := by decide +kernel
theorem dX12_ceiling_10 : decode cX12_ceiling 10 = .ok (.ifCond .eq 15, 3) := by decide +kernel
theorem dX12_ceiling_13 : decode cX12_ceiling 13 = .ok (.aload_n 0, 1) := by decide +kernel
theorem dX12_ceiling_14 : decode cX12_ceiling 14 = .ok (.getfield 7, 3) := by decide +kernel
theorem dX12_ceiling_17 : decode cX12_ceiling 17 = .ok (.bipush 111, 2) := by decide +kernel
theorem dX12_ceiling_19 : decode cX12_ceiling 19 = .ok (.iload_n 1, 1) := by decide +kernel
theorem dX12_ceiling_20 : decode cX12_ceiling 20 = .ok (.iadd, 1) := by decide +kernel
theorem dX12_ceiling_21 : decode cX12_ceiling 21 = .ok (.iaload, 1) := by decide +kernel
theorem dX12_ceiling_22 : decode cX12_ceiling 22 = .ok (.goto 4, 3) := by decide +kernel
theorem dX12_ceiling_25 : decode cX12_ceiling 25 = .ok (.iconst (-1), 1) := by decide +kernel
theorem dX12_ceiling_26 : decode cX12_ceiling 26 = .ok (.ireturn, 1) := by decide +kernel
theorem dX12_burst_0 : decode cX12_burst 0 = .ok (.aload_n 0, 1) := by decide +kernel
theorem dX12_burst_1 : decode cX12_burst 1 = .ok (.iconst 0, 1) := by decide +kernel
theorem dX12_burst_2 : decode cX12_burst 2 = .ok (.putfield 88, 3) := by decide +kernel
theorem dX12_burst_5 : decode cX12_burst 5 = .ok (.aload_n 0, 1) := by decide +kernel
theorem dX12_burst_6 : decode cX12_burst 6 = .ok (.iload_n 1, 1) := by decide +kernel
theorem dX12_burst_7 : decode cX12_burst 7 = .ok (.invokevirtual 98, 3) := by decide +kernel
theorem dX12_burst_10 : decode cX12_burst 10 = .ok (.ifCond .eq 12, 3) := by decide +kernel
theorem dX12_burst_13 : decode cX12_burst 13 = .ok (.aload_n 0, 1) := by decide +kernel
theorem dX12_burst_14 : decode cX12_burst 14 = .ok (.getfield 34, 3) := by decide +kernel
theorem dX12_burst_17 : decode cX12_burst 17 = .ok (.iload_n 1, 1) := by decide +kernel
theorem dX12_burst_18 : decode cX12_burst 18 = .ok (.iaload, 1) := by decide +kernel
theorem dX12_burst_19 : decode cX12_burst 19 = .ok (.goto 4, 3) := by decide +kernel
theorem dX12_burst_22 : decode cX12_burst 22 = .ok (.iconst (-1), 1) := by decide +kernel
theorem dX12_burst_23 : decode cX12_burst 23 = .ok (.ireturn, 1) := by decide +kernel
theorem dX12_creditLimit_0 : decode cX12_creditLimit 0 = .ok (.aload_n 0, 1) := by decide +kernel
theorem dX12_creditLimit_1 : decode cX12_creditLimit 1 = .ok (.iconst 0, 1) := by decide +kernel
theorem dX12_creditLimit_2 : decode cX12_creditLimit 2 = .ok (.putfield 88, 3) := by decide +kernel
theorem dX12_creditLimit_5 : decode cX12_creditLimit 5 = .ok (.aload_n 0, 1) := by decide +kernel
theorem dX12_creditLimit_6 : decode cX12_creditLimit 6 = .ok (.iload_n 1, 1) := by decide +kernel
theorem dX12_creditLimit_7 : decode cX12_creditLimit 7 = .ok (.invokevirtual 98, 3) := by decide +kernel
theorem dX12_creditLimit_10 : decode cX12_creditLimit 10 = .ok (.ifCond .eq 12, 3) := by decide +kernel
theorem dX12_creditLimit_13 : decode cX12_creditLimit 13 = .ok (.aload_n 0, 1) := by decide +kernel
theorem dX12_creditLimit_14 : decode cX12_creditLimit 14 = .ok (.getfield 37, 3) := by decide +kernel
theorem dX12_creditLimit_17 : decode cX12_creditLimit 17 = .ok (.iload_n 1, 1) := by decide +kernel
theorem dX12_creditLimit_18 : decode cX12_creditLimit 18 = .ok (.iaload, 1) := by decide +kernel
theorem dX12_creditLimit_19 : decode cX12_creditLimit 19 = .ok (.goto 4, 3) := by decide +kernel
theorem dX12_creditLimit_22 : decode cX12_creditLimit 22 = .ok (.iconst (-1), 1) := by decide +kernel
theorem dX12_creditLimit_23 : decode cX12_creditLimit 23 = .ok (.ireturn, 1) := by decide +kernel
theorem dX12_weight_0 : decode cX12_weight 0 = .ok (.aload_n 0, 1) := by decide +kernel
theorem dX12_weight_1 : decode cX12_weight 1 = .ok (.iconst 0, 1) := by decide +kernel
theorem dX12_weight_2 : decode cX12_weight 2 = .ok (.putfield 88, 3) := by decide +kernel
theorem dX12_weight_5 : decode cX12_weight 5 = .ok (.aload_n 0, 1) := by decide +kernel
theorem dX12_weight_6 : decode cX12_weight 6 = .ok (.iload_n 1, 1) := by decide +kernel
theorem dX12_weight_7 : decode cX12_weight 7 = .ok (.invokevirtual 98, 3) := by decide +kernel
theorem dX12_weight_10 : decode cX12_weight 10 = .ok (.ifCond .eq 15, 3) := by decide +kernel
theorem dX12_weight_13 : decode cX12_weight 13 = .ok (.aload_n 0, 1) := by decide +kernel
theorem dX12_weight_14 : decode cX12_weight 14 = .ok (.getfield 7, 3) := by decide +kernel
theorem dX12_weight_17 : decode cX12_weight 17 = .ok (.bipush 123, 2) := by decide +kernel
theorem dX12_weight_19 : decode cX12_weight 19 = .ok (.iload_n 1, 1) := by decide +kernel
theorem dX12_weight_20 : decode cX12_weight 20 = .ok (.iadd, 1) := by decide +kernel
theorem dX12_weight_21 : decode cX12_weight 21 = .ok (.iaload, 1) := by decide +kernel
theorem dX12_weight_22 : decode cX12_weight 22 = .ok (.goto 4, 3) := by decide +kernel
theorem dX12_weight_25 : decode cX12_weight 25 = .ok (.iconst (-1), 1) := by decide +kernel
theorem dX12_weight_26 : decode cX12_weight 26 = .ok (.ireturn, 1) := by decide +kernel
theorem dX12_priority_0 : decode cX12_priority 0 = .ok (.aload_n 0, 1) := by decide +kernel
theorem dX12_priority_1 : decode cX12_priority 1 = .ok (.iconst 0, 1) := by decide +kernel
theorem dX12_priority_2 : decode cX12_priority 2 = .ok (.putfield 88, 3) := by decide +kernel
theorem dX12_priority_5 : decode cX12_priority 5 = .ok (.aload_n 0, 1) := by decide +kernel
theorem dX12_priority_6 : decode cX12_priority 6 = .ok (.iload_n 1, 1) := by decide +kernel
theorem dX12_priority_7 : decode cX12_priority 7 = .ok (.invokevirtual 98, 3) := by decide +kernel
theorem dX12_priority_10 : decode cX12_priority 10 = .ok (.ifCond .eq 12, 3) := by decide +kernel
theorem dX12_priority_13 : decode cX12_priority 13 = .ok (.aload_n 0, 1) := by decide +kernel
theorem dX12_priority_14 : decode cX12_priority 14 = .ok (.getfield 40, 3) := by decide +kernel
theorem dX12_priority_17 : decode cX12_priority 17 = .ok (.iload_n 1, 1) := by decide +kernel
theorem dX12_priority_18 : decode cX12_priority 18 = .ok (.iaload, 1) := by decide +kernel
theorem dX12_priority_19 : decode cX12_priority 19 = .ok (.goto 4, 3) := by decide +kernel
theorem dX12_priority_22 : decode cX12_priority 22 = .ok (.iconst (-1), 1) := by decide +kernel
theorem dX12_priority_23 : decode cX12_priority 23 = .ok (.ireturn, 1) := by decide +kernel
theorem dX12_mayBorrow_0 : decode cX12_mayBorrow 0 = .ok (.aload_n 0, 1) := by decide +kernel
theorem dX12_mayBorrow_1 : decode cX12_mayBorrow 1 = .ok (.iconst 0, 1) := by decide +kernel
theorem dX12_mayBorrow_2 : decode cX12_mayBorrow 2 = .ok (.putfield 88, 3) := by decide +kernel
theorem dX12_mayBorrow_5 : decode cX12_mayBorrow 5 = .ok (.aload_n 0, 1) := by decide +kernel
theorem dX12_mayBorrow_6 : decode cX12_mayBorrow 6 = .ok (.iload_n 1, 1) := by decide +kernel
theorem dX12_mayBorrow_7 : decode cX12_mayBorrow 7 = .ok (.invokevirtual 98, 3) := by decide +kernel
theorem dX12_mayBorrow_10 : decode cX12_mayBorrow 10 = .ok (.ifCond .eq 16, 3) := by decide +kernel
theorem dX12_mayBorrow_13 : decode cX12_mayBorrow 13 = .ok (.aload_n 0, 1) := by decide +kernel
theorem dX12_mayBorrow_14 : decode cX12_mayBorrow 14 = .ok (.getfield 43, 3) := by decide +kernel
theorem dX12_mayBorrow_17 : decode cX12_mayBorrow 17 = .ok (.iload_n 1, 1) := by decide +kernel
theorem dX12_mayBorrow_18 : decode cX12_mayBorrow 18 = .ok (.baload, 1) := by decide +kernel
theorem dX12_mayBorrow_19 : decode cX12_mayBorrow 19 = .ok (.ifCond .ne 7, 3) := by decide +kernel
theorem dX12_mayBorrow_22 : decode cX12_mayBorrow 22 = .ok (.iconst 1, 1) := by decide +kernel
theorem dX12_mayBorrow_23 : decode cX12_mayBorrow 23 = .ok (.goto 4, 3) := by decide +kernel
theorem dX12_mayBorrow_26 : decode cX12_mayBorrow 26 = .ok (.iconst 0, 1) := by decide +kernel
theorem dX12_mayBorrow_27 : decode cX12_mayBorrow 27 = .ok (.ireturn, 1) := by decide +kernel
theorem dX12_isOversubscribed_0 : decode cX12_isOversubscribed 0 = .ok (.aload_n 0, 1) := by decide +kernel
theorem dX12_isOversubscribed_1 : decode cX12_isOversubscribed 1 = .ok (.iconst 0, 1) := by decide +kernel
theorem dX12_isOversubscribed_2 : decode cX12_isOversubscribed 2 = .ok (.putfield 88, 3) := by decide +kernel
theorem dX12_isOversubscribed_5 : decode cX12_isOversubscribed 5 = .ok (.aload_n 0, 1) := by decide +kernel
theorem dX12_isOversubscribed_6 : decode cX12_isOversubscribed 6 = .ok (.iload_n 1, 1) := by decide +kernel
theorem dX12_isOversubscribed_7 : decode cX12_isOversubscribed 7 = .ok (.invokevirtual 98, 3) := by decide +kernel
theorem dX12_isOversubscribed_10 : decode cX12_isOversubscribed 10 = .ok (.ifCond .ne 5, 3) := by decide +kernel
theorem dX12_isOversubscribed_13 : decode cX12_isOversubscribed 13 = .ok (.iconst 0, 1) := by decide +kernel
theorem dX12_isOversubscribed_14 : decode cX12_isOversubscribed 14 = .ok (.ireturn, 1) := by decide +kernel
theorem dX12_isOversubscribed_15 : decode cX12_isOversubscribed 15 = .ok (.iconst 0, 1) := by decide +kernel
theorem dX12_isOversubscribed_16 : decode cX12_isOversubscribed 16 = .ok (.istore_n 2, 1) := by decide +kernel
theorem dX12_isOversubscribed_17 : decode cX12_isOversubscribed 17 = .ok (.iconst 1, 1) := by decide +kernel
theorem dX12_isOversubscribed_18 : decode cX12_isOversubscribed 18 = .ok (.istore_n 3, 1) := by decide +kernel
theorem dX12_isOversubscribed_19 : decode cX12_isOversubscribed 19 = .ok (.iload_n 3, 1) := by decide +kernel
theorem dX12_isOversubscribed_20 : decode cX12_isOversubscribed 20 = .ok (.aload_n 0, 1) := by decide +kernel
theorem dX12_isOversubscribed_21 : decode cX12_isOversubscribed 21 = .ok (.getfield 91, 3) := by decide +kernel
theorem dX12_isOversubscribed_24 : decode cX12_isOversubscribed 24 = .ok (.if_icmp .ge 35, 3) := by decide +kernel
theorem dX12_isOversubscribed_27 : decode cX12_isOversubscribed 27 = .ok (.iload_n 2, 1) := by decide +kernel
theorem dX12_isOversubscribed_28 : decode cX12_isOversubscribed 28 = .ok (.aload_n 0, 1) := by decide +kernel
theorem dX12_isOversubscribed_29 : decode cX12_isOversubscribed 29 = .ok (.getfield 31, 3) := by decide +kernel
theorem dX12_isOversubscribed_32 : decode cX12_isOversubscribed 32 = .ok (.iload_n 3, 1) := by decide +kernel
theorem dX12_isOversubscribed_33 : decode cX12_isOversubscribed 33 = .ok (.iaload, 1) := by decide +kernel
theorem dX12_isOversubscribed_34 : decode cX12_isOversubscribed 34 = .ok (.iload_n 1, 1) := by decide +kernel
theorem dX12_isOversubscribed_35 : decode cX12_isOversubscribed 35 = .ok (.if_icmp .ne 15, 3) := by decide +kernel
theorem dX12_isOversubscribed_38 : decode cX12_isOversubscribed 38 = .ok (.aload_n 0, 1) := by decide +kernel
theorem dX12_isOversubscribed_39 : decode cX12_isOversubscribed 39 = .ok (.getfield 7, 3) := by decide +kernel
theorem dX12_isOversubscribed_42 : decode cX12_isOversubscribed 42 = .ok (.bipush 99, 2) := by decide +kernel
theorem dX12_isOversubscribed_44 : decode cX12_isOversubscribed 44 = .ok (.iload_n 3, 1) := by decide +kernel
theorem dX12_isOversubscribed_45 : decode cX12_isOversubscribed 45 = .ok (.iadd, 1) := by decide +kernel
theorem dX12_isOversubscribed_46 : decode cX12_isOversubscribed 46 = .ok (.iaload, 1) := by decide +kernel
theorem dX12_isOversubscribed_47 : decode cX12_isOversubscribed 47 = .ok (.goto 4, 3) := by decide +kernel
theorem dX12_isOversubscribed_50 : decode cX12_isOversubscribed 50 = .ok (.iconst 0, 1) := by decide +kernel
theorem dX12_isOversubscribed_51 : decode cX12_isOversubscribed 51 = .ok (.iadd, 1) := by decide +kernel
theorem dX12_isOversubscribed_52 : decode cX12_isOversubscribed 52 = .ok (.istore_n 2, 1) := by decide +kernel
theorem dX12_isOversubscribed_53 : decode cX12_isOversubscribed 53 = .ok (.iinc 3 1, 3) := by decide +kernel
theorem dX12_isOversubscribed_56 : decode cX12_isOversubscribed 56 = .ok (.goto (-37), 3) := by decide +kernel
theorem dX12_isOversubscribed_59 : decode cX12_isOversubscribed 59 = .ok (.iload_n 2, 1) := by decide +kernel
theorem dX12_isOversubscribed_60 : decode cX12_isOversubscribed 60 = .ok (.aload_n 0, 1) := by decide +kernel
theorem dX12_isOversubscribed_61 : decode cX12_isOversubscribed 61 = .ok (.getfield 7, 3) := by decide +kernel
theorem dX12_isOversubscribed_64 : decode cX12_isOversubscribed 64 = .ok (.bipush 99, 2) := by decide +kernel
theorem dX12_isOversubscribed_66 : decode cX12_isOversubscribed 66 = .ok (.iload_n 1, 1) := by decide +kernel
theorem dX12_isOversubscribed_67 : decode cX12_isOversubscribed 67 = .ok (.iadd, 1) := by decide +kernel
theorem dX12_isOversubscribed_68 : decode cX12_isOversubscribed 68 = .ok (.iaload, 1) := by decide +kernel
theorem dX12_isOversubscribed_69 : decode cX12_isOversubscribed 69 = .ok (.if_icmp .le 7, 3) := by decide +kernel
theorem dX12_isOversubscribed_72 : decode cX12_isOversubscribed 72 = .ok (.iconst 1, 1) := by decide +kernel
theorem dX12_isOversubscribed_73 : decode cX12_isOversubscribed 73 = .ok (.goto 4, 3) := by decide +kernel
theorem dX12_isOversubscribed_76 : decode cX12_isOversubscribed 76 = .ok (.iconst 0, 1) := by decide +kernel
theorem dX12_isOversubscribed_77 : decode cX12_isOversubscribed 77 = .ok (.ireturn, 1) := by decide +kernel
theorem dX12_pathCeiling_0 : decode cX12_pathCeiling 0 = .ok (.aload_n 0, 1) := by decide +kernel
theorem dX12_pathCeiling_1 : decode cX12_pathCeiling 1 = .ok (.iconst 0, 1) := by decide +kernel
theorem dX12_pathCeiling_2 : decode cX12_pathCeiling 2 = .ok (.putfield 88, 3) := by decide +kernel
theorem dX12_pathCeiling_5 : decode cX12_pathCeiling 5 = .ok (.aload_n 0, 1) := by decide +kernel
theorem dX12_pathCeiling_6 : decode cX12_pathCeiling 6 = .ok (.iload_n 1, 1) := by decide +kernel
theorem dX12_pathCeiling_7 : decode cX12_pathCeiling 7 = .ok (.invokevirtual 98, 3) := by decide +kernel
theorem dX12_pathCeiling_10 : decode cX12_pathCeiling 10 = .ok (.ifCond .ne 5, 3) := by decide +kernel
theorem dX12_pathCeiling_13 : decode cX12_pathCeiling 13 = .ok (.iconst (-1), 1) := by decide +kernel
theorem dX12_pathCeiling_14 : decode cX12_pathCeiling 14 = .ok (.ireturn, 1) := by decide +kernel
theorem dX12_pathCeiling_15 : decode cX12_pathCeiling 15 = .ok (.aload_n 0, 1) := by decide +kernel
theorem dX12_pathCeiling_16 : decode cX12_pathCeiling 16 = .ok (.getfield 7, 3) := by decide +kernel
theorem dX12_pathCeiling_19 : decode cX12_pathCeiling 19 = .ok (.bipush 111, 2) := by decide +kernel
theorem dX12_pathCeiling_21 : decode cX12_pathCeiling 21 = .ok (.iload_n 1, 1) := by decide +kernel
theorem dX12_pathCeiling_22 : decode cX12_pathCeiling 22 = .ok (.iadd, 1) := by decide +kernel
theorem dX12_pathCeiling_23 : decode cX12_pathCeiling 23 = .ok (.iaload, 1) := by decide +kernel
theorem dX12_pathCeiling_24 : decode cX12_pathCeiling 24 = .ok (.istore_n 2, 1) := by decide +kernel
theorem dX12_pathCeiling_25 : decode cX12_pathCeiling 25 = .ok (.iload_n 1, 1) := by decide +kernel
theorem dX12_pathCeiling_26 : decode cX12_pathCeiling 26 = .ok (.istore_n 3, 1) := by decide +kernel
theorem dX12_pathCeiling_27 : decode cX12_pathCeiling 27 = .ok (.iload_n 3, 1) := by decide +kernel
theorem dX12_pathCeiling_28 : decode cX12_pathCeiling 28 = .ok (.ifCond .lt 40, 3) := by decide +kernel
theorem dX12_pathCeiling_31 : decode cX12_pathCeiling 31 = .ok (.aload_n 0, 1) := by decide +kernel
theorem dX12_pathCeiling_32 : decode cX12_pathCeiling 32 = .ok (.getfield 7, 3) := by decide +kernel
theorem dX12_pathCeiling_35 : decode cX12_pathCeiling 35 = .ok (.bipush 111, 2) := by decide +kernel
theorem dX12_pathCeiling_37 : decode cX12_pathCeiling 37 = .ok (.iload_n 3, 1) := by decide +kernel
theorem dX12_pathCeiling_38 : decode cX12_pathCeiling 38 = .ok (.iadd, 1) := by decide +kernel
theorem dX12_pathCeiling_39 : decode cX12_pathCeiling 39 = .ok (.iaload, 1) := by decide +kernel
theorem dX12_pathCeiling_40 : decode cX12_pathCeiling 40 = .ok (.iload_n 2, 1) := by decide +kernel
theorem dX12_pathCeiling_41 : decode cX12_pathCeiling 41 = .ok (.if_icmp .ge 15, 3) := by decide +kernel
theorem dX12_pathCeiling_44 : decode cX12_pathCeiling 44 = .ok (.aload_n 0, 1) := by decide +kernel
theorem dX12_pathCeiling_45 : decode cX12_pathCeiling 45 = .ok (.getfield 7, 3) := by decide +kernel
theorem dX12_pathCeiling_48 : decode cX12_pathCeiling 48 = .ok (.bipush 111, 2) := by decide +kernel
theorem dX12_pathCeiling_50 : decode cX12_pathCeiling 50 = .ok (.iload_n 3, 1) := by decide +kernel
theorem dX12_pathCeiling_51 : decode cX12_pathCeiling 51 = .ok (.iadd, 1) := by decide +kernel
theorem dX12_pathCeiling_52 : decode cX12_pathCeiling 52 = .ok (.iaload, 1) := by decide +kernel
theorem dX12_pathCeiling_53 : decode cX12_pathCeiling 53 = .ok (.goto 4, 3) := by decide +kernel
theorem dX12_pathCeiling_56 : decode cX12_pathCeiling 56 = .ok (.iload_n 2, 1) := by decide +kernel
theorem dX12_pathCeiling_57 : decode cX12_pathCeiling 57 = .ok (.istore_n 2, 1) := by decide +kernel
theorem dX12_pathCeiling_58 : decode cX12_pathCeiling 58 = .ok (.aload_n 0, 1) := by decide +kernel
theorem dX12_pathCeiling_59 : decode cX12_pathCeiling 59 = .ok (.getfield 31, 3) := by decide +kernel
theorem dX12_pathCeiling_62 : decode cX12_pathCeiling 62 = .ok (.iload_n 3, 1) := by decide +kernel
theorem dX12_pathCeiling_63 : decode cX12_pathCeiling 63 = .ok (.iaload, 1) := by decide +kernel
theorem dX12_pathCeiling_64 : decode cX12_pathCeiling 64 = .ok (.istore_n 3, 1) := by decide +kernel
theorem dX12_pathCeiling_65 : decode cX12_pathCeiling 65 = .ok (.goto (-38), 3) := by decide +kernel
theorem dX12_pathCeiling_68 : decode cX12_pathCeiling 68 = .ok (.iload_n 2, 1) := by decide +kernel
theorem dX12_pathCeiling_69 : decode cX12_pathCeiling 69 = .ok (.ireturn, 1) := by decide +kernel
theorem dX12_time_0 : decode cX12_time 0 = .ok (.aload_n 0, 1) := by decide +kernel
theorem dX12_time_1 : decode cX12_time 1 = .ok (.iconst 0, 1) := by decide +kernel
theorem dX12_time_2 : decode cX12_time 2 = .ok (.putfield 88, 3) := by decide +kernel
theorem dX12_time_5 : decode cX12_time 5 = .ok (.aload_n 0, 1) := by decide +kernel
theorem dX12_time_6 : decode cX12_time 6 = .ok (.getfield 7, 3) := by decide +kernel
theorem dX12_time_9 : decode cX12_time 9 = .ok (.iconst 0, 1) := by decide +kernel
theorem dX12_time_10 : decode cX12_time 10 = .ok (.iaload, 1) := by decide +kernel
theorem dX12_time_11 : decode cX12_time 11 = .ok (.ireturn, 1) := by decide +kernel
theorem dX12_tokens_0 : decode cX12_tokens 0 = .ok (.aload_n 0, 1) := by decide +kernel
theorem dX12_tokens_1 : decode cX12_tokens 1 = .ok (.iconst 0, 1) := by decide +kernel
theorem dX12_tokens_2 : decode cX12_tokens 2 = .ok (.putfield 88, 3) := by decide +kernel
theorem dX12_tokens_5 : decode cX12_tokens 5 = .ok (.aload_n 0, 1) := by decide +kernel
theorem dX12_tokens_6 : decode cX12_tokens 6 = .ok (.iload_n 1, 1) := by decide +kernel
theorem dX12_tokens_7 : decode cX12_tokens 7 = .ok (.invokevirtual 98, 3) := by decide +kernel
theorem dX12_tokens_10 : decode cX12_tokens 10 = .ok (.ifCond .eq 14, 3) := by decide +kernel
theorem dX12_tokens_13 : decode cX12_tokens 13 = .ok (.aload_n 0, 1) := by decide +kernel
theorem dX12_tokens_14 : decode cX12_tokens 14 = .ok (.getfield 7, 3) := by decide +kernel
theorem dX12_tokens_17 : decode cX12_tokens 17 = .ok (.iconst 3, 1) := by decide +kernel
theorem dX12_tokens_18 : decode cX12_tokens 18 = .ok (.iload_n 1, 1) := by decide +kernel
theorem dX12_tokens_19 : decode cX12_tokens 19 = .ok (.iadd, 1) := by decide +kernel
theorem dX12_tokens_20 : decode cX12_tokens 20 = .ok (.iaload, 1) := by decide +kernel
theorem dX12_tokens_21 : decode cX12_tokens 21 = .ok (.goto 4, 3) := by decide +kernel
theorem dX12_tokens_24 : decode cX12_tokens 24 = .ok (.iconst (-1), 1) := by decide +kernel
theorem dX12_tokens_25 : decode cX12_tokens 25 = .ok (.ireturn, 1) := by decide +kernel
theorem dX12_credit_0 : decode cX12_credit 0 = .ok (.aload_n 0, 1) := by decide +kernel
theorem dX12_credit_1 : decode cX12_credit 1 = .ok (.iconst 0, 1) := by decide +kernel
theorem dX12_credit_2 : decode cX12_credit 2 = .ok (.putfield 88, 3) := by decide +kernel
theorem dX12_credit_5 : decode cX12_credit 5 = .ok (.aload_n 0, 1) := by decide +kernel
theorem dX12_credit_6 : decode cX12_credit 6 = .ok (.iload_n 1, 1) := by decide +kernel
theorem dX12_credit_7 : decode cX12_credit 7 = .ok (.invokevirtual 98, 3) := by decide +kernel
theorem dX12_credit_10 : decode cX12_credit 10 = .ok (.ifCond .eq 15, 3) := by decide +kernel
theorem dX12_credit_13 : decode cX12_credit 13 = .ok (.aload_n 0, 1) := by decide +kernel
theorem dX12_credit_14 : decode cX12_credit 14 = .ok (.getfield 7, 3) := by decide +kernel
theorem dX12_credit_17 : decode cX12_credit 17 = .ok (.bipush 15, 2) := by decide +kernel
theorem dX12_credit_19 : decode cX12_credit 19 = .ok (.iload_n 1, 1) := by decide +kernel
theorem dX12_credit_20 : decode cX12_credit 20 = .ok (.iadd, 1) := by decide +kernel
theorem dX12_credit_21 : decode cX12_credit 21 = .ok (.iaload, 1) := by decide +kernel
theorem dX12_credit_22 : decode cX12_credit 22 = .ok (.goto 4, 3) := by decide +kernel
theorem dX12_credit_25 : decode cX12_credit 25 = .ok (.iconst (-1), 1) := by decide +kernel
theorem dX12_credit_26 : decode cX12_credit 26 = .ok (.ireturn, 1) := by decide +kernel
theorem dX12_headroom_0 : decode cX12_headroom 0 = .ok (.aload_n 0, 1) := by decide +kernel
theorem dX12_headroom_1 : decode cX12_headroom 1 = .ok (.iconst 0, 1) := by decide +kernel
theorem dX12_headroom_2 : decode cX12_headroom 2 = .ok (.putfield 88, 3) := by decide +kernel
theorem dX12_headroom_5 : decode cX12_headroom 5 = .ok (.aload_n 0, 1) := by decide +kernel
theorem dX12_headroom_6 : decode cX12_headroom 6 = .ok (.iload_n 1, 1) := by decide +kernel
theorem dX12_headroom_7 : decode cX12_headroom 7 = .ok (.invokevirtual 98, 3) := by decide +kernel
theorem dX12_headroom_10 : decode cX12_headroom 10 = .ok (.ifCond .eq 15, 3) := by decide +kernel
theorem dX12_headroom_13 : decode cX12_headroom 13 = .ok (.aload_n 0, 1) := by decide +kernel
theorem dX12_headroom_14 : decode cX12_headroom 14 = .ok (.getfield 7, 3) := by decide +kernel
theorem dX12_headroom_17 : decode cX12_headroom 17 = .ok (.bipush 27, 2) := by decide +kernel
theorem dX12_headroom_19 : decode cX12_headroom 19 = .ok (.iload_n 1, 1) := by decide +kernel
theorem dX12_headroom_20 : decode cX12_headroom 20 = .ok (.iadd, 1) := by decide +kernel
theorem dX12_headroom_21 : decode cX12_headroom 21 = .ok (.iaload, 1) := by decide +kernel
theorem dX12_headroom_22 : decode cX12_headroom 22 = .ok (.goto 4, 3) := by decide +kernel
theorem dX12_headroom_25 : decode cX12_headroom 25 = .ok (.iconst (-1), 1) := by decide +kernel
theorem dX12_headroom_26 : decode cX12_headroom 26 = .ok (.ireturn, 1) := by decide +kernel
theorem dX12_isAsked_0 : decode cX12_isAsked 0 = .ok (.aload_n 0, 1) := by decide +kernel
theorem dX12_isAsked_1 : decode cX12_isAsked 1 = .ok (.iload_n 1, 1) := by decide +kernel
theorem dX12_isAsked_2 : decode cX12_isAsked 2 = .ok (.invokevirtual 247, 3) := by decide +kernel
theorem dX12_isAsked_5 : decode cX12_isAsked 5 = .ok (.ifCond .eq 19, 3) := by decide +kernel
theorem dX12_isAsked_8 : decode cX12_isAsked 8 = .ok (.iload_n 2, 1) := by decide +kernel
theorem dX12_isAsked_9 : decode cX12_isAsked 9 = .ok (.i2l, 1) := by decide +kernel
theorem dX12_isAsked_10 : decode cX12_isAsked 10 = .ok (.lconst 1, 1) := by decide +kernel
theorem dX12_isAsked_11 : decode cX12_isAsked 11 = .ok (.ldc2_w 253, 3) := by decide +kernel
theorem dX12_isAsked_14 : decode cX12_isAsked 14 = .ok (.invokestatic 94, 3) := by decide +kernel
theorem dX12_isAsked_17 : decode cX12_isAsked 17 = .ok (.ifCond .eq 7, 3) := by decide +kernel
theorem dX12_isAsked_20 : decode cX12_isAsked 20 = .ok (.iconst 1, 1) := by decide +kernel
theorem dX12_isAsked_21 : decode cX12_isAsked 21 = .ok (.goto 4, 3) := by decide +kernel
theorem dX12_isAsked_24 : decode cX12_isAsked 24 = .ok (.iconst 0, 1) := by decide +kernel
theorem dX12_isAsked_25 : decode cX12_isAsked 25 = .ok (.ireturn, 1) := by decide +kernel
theorem dX12_blocker_0 : decode cX12_blocker 0 = .ok (.iload_n 1, 1) := by decide +kernel
theorem dX12_blocker_1 : decode cX12_blocker 1 = .ok (.istore_n 3, 1) := by decide +kernel
theorem dX12_blocker_2 : decode cX12_blocker 2 = .ok (.iload_n 3, 1) := by decide +kernel
theorem dX12_blocker_3 : decode cX12_blocker 3 = .ok (.ifCond .lt 28, 3) := by decide +kernel
theorem dX12_blocker_6 : decode cX12_blocker 6 = .ok (.aload_n 0, 1) := by decide +kernel
theorem dX12_blocker_7 : decode cX12_blocker 7 = .ok (.getfield 7, 3) := by decide +kernel
theorem dX12_blocker_10 : decode cX12_blocker 10 = .ok (.bipush 27, 2) := by decide +kernel
theorem dX12_blocker_12 : decode cX12_blocker 12 = .ok (.iload_n 3, 1) := by decide +kernel
theorem dX12_blocker_13 : decode cX12_blocker 13 = .ok (.iadd, 1) := by decide +kernel
theorem dX12_blocker_14 : decode cX12_blocker 14 = .ok (.iaload, 1) := by decide +kernel
theorem dX12_blocker_15 : decode cX12_blocker 15 = .ok (.iload_n 2, 1) := by decide +kernel
theorem dX12_blocker_16 : decode cX12_blocker 16 = .ok (.if_icmp .ge 5, 3) := by decide +kernel
theorem dX12_blocker_19 : decode cX12_blocker 19 = .ok (.iload_n 3, 1) := by decide +kernel
theorem dX12_blocker_20 : decode cX12_blocker 20 = .ok (.ireturn, 1) := by decide +kernel
theorem dX12_blocker_21 : decode cX12_blocker 21 = .ok (.aload_n 0, 1) := by decide +kernel
theorem dX12_blocker_22 : decode cX12_blocker 22 = .ok (.getfield 31, 3) := by decide +kernel
theorem dX12_blocker_25 : decode cX12_blocker 25 = .ok (.iload_n 3, 1) := by decide +kernel
theorem dX12_blocker_26 : decode cX12_blocker 26 = .ok (.iaload, 1) := by decide +kernel
theorem dX12_blocker_27 : decode cX12_blocker 27 = .ok (.istore_n 3, 1) := by decide +kernel
theorem dX12_blocker_28 : decode cX12_blocker 28 = .ok (.goto (-26), 3) := by decide +kernel
theorem dX12_blocker_31 : decode cX12_blocker 31 = .ok (.bipush (-2), 2) := by decide +kernel
theorem dX12_blocker_33 : decode cX12_blocker 33 = .ok (.ireturn, 1) := by decide +kernel
theorem dX12_lends_0 : decode cX12_lends 0 = .ok (.aload_n 0, 1) := by decide +kernel
theorem dX12_lends_1 : decode cX12_lends 1 = .ok (.iload_n 1, 1) := by decide +kernel
theorem dX12_lends_2 : decode cX12_lends 2 = .ok (.iload_n 2, 1) := by decide +kernel
theorem dX12_lends_3 : decode cX12_lends 3 = .ok (.invokevirtual 255, 3) := by decide +kernel
theorem dX12_lends_6 : decode cX12_lends 6 = .ok (.bipush (-2), 2) := by decide +kernel
theorem dX12_lends_8 : decode cX12_lends 8 = .ok (.if_icmp .eq 6, 3) := by decide +kernel
theorem dX12_lends_11 : decode cX12_lends 11 = .ok (.bipush (-2), 2) := by decide +kernel
theorem dX12_lends_13 : decode cX12_lends 13 = .ok (.ireturn, 1) := by decide +kernel
theorem dX12_lends_14 : decode cX12_lends 14 = .ok (.iload_n 1, 1) := by decide +kernel
theorem dX12_lends_15 : decode cX12_lends 15 = .ok (.istore_n 3, 1) := by decide +kernel
theorem dX12_lends_16 : decode cX12_lends 16 = .ok (.iload_n 3, 1) := by decide +kernel
theorem dX12_lends_17 : decode cX12_lends 17 = .ok (.ifCond .lt 49, 3) := by decide +kernel
theorem dX12_lends_20 : decode cX12_lends 20 = .ok (.aload_n 0, 1) := by decide +kernel
theorem dX12_lends_21 : decode cX12_lends 21 = .ok (.getfield 7, 3) := by decide +kernel
theorem dX12_lends_24 : decode cX12_lends 24 = .ok (.iconst 3, 1) := by decide +kernel
theorem dX12_lends_25 : decode cX12_lends 25 = .ok (.iload_n 3, 1) := by decide +kernel
theorem dX12_lends_26 : decode cX12_lends 26 = .ok (.iadd, 1) := by decide +kernel
theorem dX12_lends_27 : decode cX12_lends 27 = .ok (.iaload, 1) := by decide +kernel
theorem dX12_lends_28 : decode cX12_lends 28 = .ok (.aload_n 0, 1) := by decide +kernel
theorem dX12_lends_29 : decode cX12_lends 29 = .ok (.getfield 7, 3) := by decide +kernel
theorem dX12_lends_32 : decode cX12_lends 32 = .ok (.bipush 15, 2) := by decide +kernel
theorem dX12_lends_34 : decode cX12_lends 34 = .ok (.iload_n 3, 1) := by decide +kernel
theorem dX12_lends_35 : decode cX12_lends 35 = .ok (.iadd, 1) := by decide +kernel
theorem dX12_lends_36 : decode cX12_lends 36 = .ok (.iaload, 1) := by decide +kernel
theorem dX12_lends_37 : decode cX12_lends 37 = .ok (.iadd, 1) := by decide +kernel
theorem dX12_lends_38 : decode cX12_lends 38 = .ok (.iload_n 2, 1) := by decide +kernel
theorem dX12_lends_39 : decode cX12_lends 39 = .ok (.if_icmp .lt 5, 3) := by decide +kernel
theorem dX12_lends_42 : decode cX12_lends 42 = .ok (.iload_n 3, 1) := by decide +kernel
theorem dX12_lends_43 : decode cX12_lends 43 = .ok (.ireturn, 1) := by decide +kernel
theorem dX12_lends_44 : decode cX12_lends 44 = .ok (.aload_n 0, 1) := by decide +kernel
theorem dX12_lends_45 : decode cX12_lends 45 = .ok (.getfield 43, 3) := by decide +kernel
theorem dX12_lends_48 : decode cX12_lends 48 = .ok (.iload_n 3, 1) := by decide +kernel
theorem dX12_lends_49 : decode cX12_lends 49 = .ok (.baload, 1) := by decide +kernel
theorem dX12_lends_50 : decode cX12_lends 50 = .ok (.ifCond .eq 6, 3) := by decide +kernel
theorem dX12_lends_53 : decode cX12_lends 53 = .ok (.bipush (-2), 2) := by decide +kernel
theorem dX12_lends_55 : decode cX12_lends 55 = .ok (.ireturn, 1) := by decide +kernel
theorem dX12_lends_56 : decode cX12_lends 56 = .ok (.aload_n 0, 1) := by decide +kernel
theorem dX12_lends_57 : decode cX12_lends 57 = .ok (.getfield 31, 3) := by decide +kernel
theorem dX12_lends_60 : decode cX12_lends 60 = .ok (.iload_n 3, 1) := by decide +kernel
theorem dX12_lends_61 : decode cX12_lends 61 = .ok (.iaload, 1) := by decide +kernel
theorem dX12_lends_62 : decode cX12_lends 62 = .ok (.istore_n 3, 1) := by decide +kernel
theorem dX12_lends_63 : decode cX12_lends 63 = .ok (.goto (-47), 3) := by decide +kernel
theorem dX12_lends_66 : decode cX12_lends 66 = .ok (.bipush (-2), 2) := by decide +kernel
theorem dX12_lends_68 : decode cX12_lends 68 = .ok (.ireturn, 1) := by decide +kernel
theorem dX12_logs_0 : decode cX12_logs 0 = .ok (.bipush 95, 2) := by decide +kernel
theorem dX12_logs_2 : decode cX12_logs 2 = .ok (.istore 4, 2) := by decide +kernel
theorem dX12_logs_4 : decode cX12_logs 4 = .ok (.iload 4, 2) := by decide +kernel
theorem dX12_logs_6 : decode cX12_logs 6 = .ok (.iconst 4, 1) := by decide +kernel
theorem dX12_logs_7 : decode cX12_logs 7 = .ok (.if_icmp .lt 33, 3) := by decide +kernel
theorem dX12_logs_10 : decode cX12_logs 10 = .ok (.aload_n 0, 1) := by decide +kernel
theorem dX12_logs_11 : decode cX12_logs 11 = .ok (.getfield 7, 3) := by decide +kernel
theorem dX12_logs_14 : decode cX12_logs 14 = .ok (.sipush 723, 3) := by decide +kernel
theorem dX12_logs_17 : decode cX12_logs 17 = .ok (.iload 4, 2) := by decide +kernel
theorem dX12_logs_19 : decode cX12_logs 19 = .ok (.iadd, 1) := by decide +kernel
theorem dX12_logs_20 : decode cX12_logs 20 = .ok (.aload_n 0, 1) := by decide +kernel
theorem dX12_logs_21 : decode cX12_logs 21 = .ok (.getfield 7, 3) := by decide +kernel
theorem dX12_logs_24 : decode cX12_logs 24 = .ok (.sipush 723, 3) := by decide +kernel
theorem dX12_logs_27 : decode cX12_logs 27 = .ok (.iload 4, 2) := by decide +kernel
theorem dX12_logs_29 : decode cX12_logs 29 = .ok (.iadd, 1) := by decide +kernel
theorem dX12_logs_30 : decode cX12_logs 30 = .ok (.iconst 4, 1) := by decide +kernel
theorem dX12_logs_31 : decode cX12_logs 31 = .ok (.isub, 1) := by decide +kernel
theorem dX12_logs_32 : decode cX12_logs 32 = .ok (.iaload, 1) := by decide +kernel
theorem dX12_logs_33 : decode cX12_logs 33 = .ok (.iastore, 1) := by decide +kernel
theorem dX12_logs_34 : decode cX12_logs 34 = .ok (.iinc 4 (-1), 3) := by decide +kernel
theorem dX12_logs_37 : decode cX12_logs 37 = .ok (.goto (-33), 3) := by decide +kernel
theorem dX12_logs_40 : decode cX12_logs 40 = .ok (.aload_n 0, 1) := by decide +kernel
theorem dX12_logs_41 : decode cX12_logs 41 = .ok (.getfield 7, 3) := by decide +kernel
theorem dX12_logs_44 : decode cX12_logs 44 = .ok (.sipush 723, 3) := by decide +kernel
theorem dX12_logs_47 : decode cX12_logs 47 = .ok (.iload_n 1, 1) := by decide +kernel
theorem dX12_logs_48 : decode cX12_logs 48 = .ok (.iastore, 1) := by decide +kernel
theorem dX12_logs_49 : decode cX12_logs 49 = .ok (.aload_n 0, 1) := by decide +kernel
theorem dX12_logs_50 : decode cX12_logs 50 = .ok (.getfield 7, 3) := by decide +kernel
theorem dX12_logs_53 : decode cX12_logs 53 = .ok (.sipush 724, 3) := by decide +kernel
theorem dX12_logs_56 : decode cX12_logs 56 = .ok (.iload_n 2, 1) := by decide +kernel
theorem dX12_logs_57 : decode cX12_logs 57 = .ok (.iastore, 1) := by decide +kernel
theorem dX12_logs_58 : decode cX12_logs 58 = .ok (.aload_n 0, 1) := by decide +kernel
theorem dX12_logs_59 : decode cX12_logs 59 = .ok (.getfield 7, 3) := by decide +kernel
theorem dX12_logs_62 : decode cX12_logs 62 = .ok (.sipush 725, 3) := by decide +kernel
theorem dX12_logs_65 : decode cX12_logs 65 = .ok (.iload_n 3, 1) := by decide +kernel
theorem dX12_logs_66 : decode cX12_logs 66 = .ok (.iastore, 1) := by decide +kernel
theorem dX12_logs_67 : decode cX12_logs 67 = .ok (.aload_n 0, 1) := by decide +kernel
theorem dX12_logs_68 : decode cX12_logs 68 = .ok (.getfield 7, 3) := by decide +kernel
theorem dX12_logs_71 : decode cX12_logs 71 = .ok (.sipush 726, 3) := by decide +kernel
theorem dX12_logs_74 : decode cX12_logs 74 = .ok (.aload_n 0, 1) := by decide +kernel
theorem dX12_logs_75 : decode cX12_logs 75 = .ok (.getfield 7, 3) := by decide +kernel
theorem dX12_logs_78 : decode cX12_logs 78 = .ok (.iconst 0, 1) := by decide +kernel
theorem dX12_logs_79 : decode cX12_logs 79 = .ok (.iaload, 1) := by decide +kernel
theorem dX12_logs_80 : decode cX12_logs 80 = .ok (.iastore, 1) := by decide +kernel
theorem dX12_logs_81 : decode cX12_logs 81 = .ok (.aload_n 0, 1) := by decide +kernel
theorem dX12_logs_82 : decode cX12_logs 82 = .ok (.getfield 7, 3) := by decide +kernel
theorem dX12_logs_85 : decode cX12_logs 85 = .ok (.iconst 2, 1) := by decide +kernel
theorem dX12_logs_86 : decode cX12_logs 86 = .ok (.dup2, 1) := by decide +kernel
theorem dX12_logs_87 : decode cX12_logs 87 = .ok (.iaload, 1) := by decide +kernel
theorem dX12_logs_88 : decode cX12_logs 88 = .ok (.aload_n 0, 1) := by decide +kernel
theorem dX12_logs_89 : decode cX12_logs 89 = .ok (.getfield 7, 3) := by decide +kernel
theorem dX12_logs_92 : decode cX12_logs 92 = .ok (.iconst 2, 1) := by decide +kernel
theorem dX12_logs_93 : decode cX12_logs 93 = .ok (.iaload, 1) := by decide +kernel
theorem dX12_logs_94 : decode cX12_logs 94 = .ok (.bipush 24, 2) := by decide +kernel
theorem dX12_logs_96 : decode cX12_logs 96 = .ok (.if_icmp .ge 7, 3) := by decide +kernel
theorem dX12_logs_99 : decode cX12_logs 99 = .ok (.iconst 1, 1) := by decide +kernel
theorem dX12_logs_100 : decode cX12_logs 100 = .ok (.goto 4, 3) := by decide +kernel
theorem dX12_logs_103 : decode cX12_logs 103 = .ok (.iconst 0, 1) := by decide +kernel
theorem dX12_logs_104 : decode cX12_logs 104 = .ok (.iadd, 1) := by decide +kernel
theorem dX12_logs_105 : decode cX12_logs 105 = .ok (.iastore, 1) := by decide +kernel
theorem dX12_logs_106 : decode cX12_logs 106 = .ok (.return_, 1) := by decide +kernel
theorem dX12_sends_0 : decode cX12_sends 0 = .ok (.iload_n 1, 1) := by decide +kernel
theorem dX12_sends_1 : decode cX12_sends 1 = .ok (.istore 4, 2) := by decide +kernel
theorem dX12_sends_3 : decode cX12_sends 3 = .ok (.iload 4, 2) := by decide +kernel
theorem dX12_sends_5 : decode cX12_sends 5 = .ok (.ifCond .lt 29, 3) := by decide +kernel
theorem dX12_sends_8 : decode cX12_sends 8 = .ok (.aload_n 0, 1) := by decide +kernel
theorem dX12_sends_9 : decode cX12_sends 9 = .ok (.getfield 7, 3) := by decide +kernel
theorem dX12_sends_12 : decode cX12_sends 12 = .ok (.bipush 27, 2) := by decide +kernel
theorem dX12_sends_14 : decode cX12_sends 14 = .ok (.iload 4, 2) := by decide +kernel
theorem dX12_sends_16 : decode cX12_sends 16 = .ok (.iadd, 1) := by decide +kernel
theorem dX12_sends_17 : decode cX12_sends 17 = .ok (.dup2, 1) := by decide +kernel
theorem dX12_sends_18 : decode cX12_sends 18 = .ok (.iaload, 1) := by decide +kernel
theorem dX12_sends_19 : decode cX12_sends 19 = .ok (.iload_n 2, 1) := by decide +kernel
theorem dX12_sends_20 : decode cX12_sends 20 = .ok (.isub, 1) := by decide +kernel
theorem dX12_sends_21 : decode cX12_sends 21 = .ok (.iastore, 1) := by decide +kernel
theorem dX12_sends_22 : decode cX12_sends 22 = .ok (.aload_n 0, 1) := by decide +kernel
theorem dX12_sends_23 : decode cX12_sends 23 = .ok (.getfield 31, 3) := by decide +kernel
theorem dX12_sends_26 : decode cX12_sends 26 = .ok (.iload 4, 2) := by decide +kernel
theorem dX12_sends_28 : decode cX12_sends 28 = .ok (.iaload, 1) := by decide +kernel
theorem dX12_sends_29 : decode cX12_sends 29 = .ok (.istore 4, 2) := by decide +kernel
theorem dX12_sends_31 : decode cX12_sends 31 = .ok (.goto (-28), 3) := by decide +kernel
theorem dX12_sends_34 : decode cX12_sends 34 = .ok (.aload_n 0, 1) := by decide +kernel
theorem dX12_sends_35 : decode cX12_sends 35 = .ok (.getfield 7, 3) := by decide +kernel
theorem dX12_sends_38 : decode cX12_sends 38 = .ok (.iconst 3, 1) := by decide +kernel
theorem dX12_sends_39 : decode cX12_sends 39 = .ok (.iload_n 3, 1) := by decide +kernel
theorem dX12_sends_40 : decode cX12_sends 40 = .ok (.iadd, 1) := by decide +kernel
theorem dX12_sends_41 : decode cX12_sends 41 = .ok (.iaload, 1) := by decide +kernel
theorem dX12_sends_42 : decode cX12_sends 42 = .ok (.iload_n 2, 1) := by decide +kernel
theorem dX12_sends_43 : decode cX12_sends 43 = .ok (.if_icmp .ge 14, 3) := by decide +kernel
theorem dX12_sends_46 : decode cX12_sends 46 = .ok (.aload_n 0, 1) := by decide +kernel
theorem dX12_sends_47 : decode cX12_sends 47 = .ok (.getfield 7, 3) := by decide +kernel
theorem dX12_sends_50 : decode cX12_sends 50 = .ok (.iconst 3, 1) := by decide +kernel
theorem dX12_sends_51 : decode cX12_sends 51 = .ok (.iload_n 3, 1) := by decide +kernel
theorem dX12_sends_52 : decode cX12_sends 52 = .ok (.iadd, 1) := by decide +kernel
theorem dX12_sends_53 : decode cX12_sends 53 = .ok (.iaload, 1) := by decide +kernel
theorem dX12_sends_54 : decode cX12_sends 54 = .ok (.goto 4, 3) := by decide +kernel
theorem dX12_sends_57 : decode cX12_sends 57 = .ok (.iload_n 2, 1) := by decide +kernel
theorem dX12_sends_58 : decode cX12_sends 58 = .ok (.istore 4, 2) := by decide +kernel
theorem dX12_sends_60 : decode cX12_sends 60 = .ok (.aload_n 0, 1) := by decide +kernel
theorem dX12_sends_61 : decode cX12_sends 61 = .ok (.getfield 7, 3) := by decide +kernel
theorem dX12_sends_64 : decode cX12_sends 64 = .ok (.iconst 3, 1) := by decide +kernel
theorem dX12_sends_65 : decode cX12_sends 65 = .ok (.iload_n 3, 1) := by decide +kernel
theorem dX12_sends_66 : decode cX12_sends 66 = .ok (.iadd, 1) := by decide +kernel
theorem dX12_sends_67 : decode cX12_sends 67 = .ok (.dup2, 1) := by decide +kernel
theorem dX12_sends_68 : decode cX12_sends 68 = .ok (.iaload, 1) := by decide +kernel
theorem dX12_sends_69 : decode cX12_sends 69 = .ok (.iload 4, 2) := by decide +kernel
theorem dX12_sends_71 : decode cX12_sends 71 = .ok (.isub, 1) := by decide +kernel
theorem dX12_sends_72 : decode cX12_sends 72 = .ok (.iastore, 1) := by decide +kernel
theorem dX12_sends_73 : decode cX12_sends 73 = .ok (.aload_n 0, 1) := by decide +kernel
theorem dX12_sends_74 : decode cX12_sends 74 = .ok (.getfield 7, 3) := by decide +kernel
theorem dX12_sends_77 : decode cX12_sends 77 = .ok (.bipush 15, 2) := by decide +kernel
theorem dX12_sends_79 : decode cX12_sends 79 = .ok (.iload_n 3, 1) := by decide +kernel
theorem dX12_sends_80 : decode cX12_sends 80 = .ok (.iadd, 1) := by decide +kernel
theorem dX12_sends_81 : decode cX12_sends 81 = .ok (.dup2, 1) := by decide +kernel
theorem dX12_sends_82 : decode cX12_sends 82 = .ok (.iaload, 1) := by decide +kernel
theorem dX12_sends_83 : decode cX12_sends 83 = .ok (.iload_n 2, 1) := by decide +kernel
theorem dX12_sends_84 : decode cX12_sends 84 = .ok (.iload 4, 2) := by decide +kernel
theorem dX12_sends_86 : decode cX12_sends 86 = .ok (.isub, 1) := by decide +kernel
theorem dX12_sends_87 : decode cX12_sends 87 = .ok (.isub, 1) := by decide +kernel
theorem dX12_sends_88 : decode cX12_sends 88 = .ok (.iastore, 1) := by decide +kernel
theorem dX12_sends_89 : decode cX12_sends 89 = .ok (.aload_n 0, 1) := by decide +kernel
theorem dX12_sends_90 : decode cX12_sends 90 = .ok (.getfield 31, 3) := by decide +kernel
theorem dX12_sends_93 : decode cX12_sends 93 = .ok (.iload_n 3, 1) := by decide +kernel
theorem dX12_sends_94 : decode cX12_sends 94 = .ok (.iaload, 1) := by decide +kernel
theorem dX12_sends_95 : decode cX12_sends 95 = .ok (.istore 5, 2) := by decide +kernel
theorem dX12_sends_97 : decode cX12_sends 97 = .ok (.iload 5, 2) := by decide +kernel
theorem dX12_sends_99 : decode cX12_sends 99 = .ok (.ifCond .lt 52, 3) := by decide +kernel
theorem dX12_sends_102 : decode cX12_sends 102 = .ok (.aload_n 0, 1) := by decide +kernel
theorem dX12_sends_103 : decode cX12_sends 103 = .ok (.getfield 7, 3) := by decide +kernel
theorem dX12_sends_106 : decode cX12_sends 106 = .ok (.iconst 3, 1) := by decide +kernel
theorem dX12_sends_107 : decode cX12_sends 107 = .ok (.iload 5, 2) := by decide +kernel
theorem dX12_sends_109 : decode cX12_sends 109 = .ok (.iadd, 1) := by decide +kernel
theorem dX12_sends_110 : decode cX12_sends 110 = .ok (.aload_n 0, 1) := by decide +kernel
theorem dX12_sends_111 : decode cX12_sends 111 = .ok (.getfield 7, 3) := by decide +kernel
theorem dX12_sends_114 : decode cX12_sends 114 = .ok (.iconst 3, 1) := by decide +kernel
theorem dX12_sends_115 : decode cX12_sends 115 = .ok (.iload 5, 2) := by decide +kernel
theorem dX12_sends_117 : decode cX12_sends 117 = .ok (.iadd, 1) := by decide +kernel
theorem dX12_sends_118 : decode cX12_sends 118 = .ok (.iaload, 1) := by decide +kernel
theorem dX12_sends_119 : decode cX12_sends 119 = .ok (.iload_n 2, 1) := by decide +kernel
theorem dX12_sends_120 : decode cX12_sends 120 = .ok (.if_icmp .le 17, 3) := by decide +kernel
theorem dX12_sends_123 : decode cX12_sends 123 = .ok (.aload_n 0, 1) := by decide +kernel
theorem dX12_sends_124 : decode cX12_sends 124 = .ok (.getfield 7, 3) := by decide +kernel
theorem dX12_sends_127 : decode cX12_sends 127 = .ok (.iconst 3, 1) := by decide +kernel
theorem dX12_sends_128 : decode cX12_sends 128 = .ok (.iload 5, 2) := by decide +kernel
theorem dX12_sends_130 : decode cX12_sends 130 = .ok (.iadd, 1) := by decide +kernel
theorem dX12_sends_131 : decode cX12_sends 131 = .ok (.iaload, 1) := by decide +kernel
theorem dX12_sends_132 : decode cX12_sends 132 = .ok (.iload_n 2, 1) := by decide +kernel
theorem dX12_sends_133 : decode cX12_sends 133 = .ok (.isub, 1) := by decide +kernel
theorem dX12_sends_134 : decode cX12_sends 134 = .ok (.goto 4, 3) := by decide +kernel
theorem dX12_sends_137 : decode cX12_sends 137 = .ok (.iconst 0, 1) := by decide +kernel
theorem dX12_sends_138 : decode cX12_sends 138 = .ok (.iastore, 1) := by decide +kernel
theorem dX12_sends_139 : decode cX12_sends 139 = .ok (.aload_n 0, 1) := by decide +kernel
theorem dX12_sends_140 : decode cX12_sends 140 = .ok (.getfield 31, 3) := by decide +kernel
theorem dX12_sends_143 : decode cX12_sends 143 = .ok (.iload 5, 2) := by decide +kernel
theorem dX12_sends_145 : decode cX12_sends 145 = .ok (.iaload, 1) := by decide +kernel
theorem dX12_sends_146 : decode cX12_sends 146 = .ok (.istore 5, 2) := by decide +kernel
theorem dX12_sends_148 : decode cX12_sends 148 = .ok (.goto (-51), 3) := by decide +kernel
theorem dX12_sends_151 : decode cX12_sends 151 = .ok (.iload_n 3, 1) := by decide +kernel
theorem dX12_sends_152 : decode cX12_sends 152 = .ok (.iload_n 1, 1) := by decide +kernel
theorem dX12_sends_153 : decode cX12_sends 153 = .ok (.if_icmp .eq 29, 3) := by decide +kernel
theorem dX12_sends_156 : decode cX12_sends 156 = .ok (.aload_n 0, 1) := by decide +kernel
theorem dX12_sends_157 : decode cX12_sends 157 = .ok (.getfield 7, 3) := by decide +kernel
theorem dX12_sends_160 : decode cX12_sends 160 = .ok (.bipush 63, 2) := by decide +kernel
theorem dX12_sends_162 : decode cX12_sends 162 = .ok (.iload_n 1, 1) := by decide +kernel
theorem dX12_sends_163 : decode cX12_sends 163 = .ok (.iadd, 1) := by decide +kernel
theorem dX12_sends_164 : decode cX12_sends 164 = .ok (.dup2, 1) := by decide +kernel
theorem dX12_sends_165 : decode cX12_sends 165 = .ok (.iaload, 1) := by decide +kernel
theorem dX12_sends_166 : decode cX12_sends 166 = .ok (.iload_n 2, 1) := by decide +kernel
theorem dX12_sends_167 : decode cX12_sends 167 = .ok (.iadd, 1) := by decide +kernel
theorem dX12_sends_168 : decode cX12_sends 168 = .ok (.iastore, 1) := by decide +kernel
theorem dX12_sends_169 : decode cX12_sends 169 = .ok (.aload_n 0, 1) := by decide +kernel
theorem dX12_sends_170 : decode cX12_sends 170 = .ok (.getfield 7, 3) := by decide +kernel
theorem dX12_sends_173 : decode cX12_sends 173 = .ok (.bipush 75, 2) := by decide +kernel
theorem dX12_sends_175 : decode cX12_sends 175 = .ok (.iload_n 3, 1) := by decide +kernel
theorem dX12_sends_176 : decode cX12_sends 176 = .ok (.iadd, 1) := by decide +kernel
theorem dX12_sends_177 : decode cX12_sends 177 = .ok (.dup2, 1) := by decide +kernel
theorem dX12_sends_178 : decode cX12_sends 178 = .ok (.iaload, 1) := by decide +kernel
theorem dX12_sends_179 : decode cX12_sends 179 = .ok (.iload_n 2, 1) := by decide +kernel
theorem dX12_sends_180 : decode cX12_sends 180 = .ok (.iadd, 1) := by decide +kernel
theorem dX12_sends_181 : decode cX12_sends 181 = .ok (.iastore, 1) := by decide +kernel
theorem dX12_sends_182 : decode cX12_sends 182 = .ok (.aload_n 0, 1) := by decide +kernel
theorem dX12_sends_183 : decode cX12_sends 183 = .ok (.getfield 7, 3) := by decide +kernel
theorem dX12_sends_186 : decode cX12_sends 186 = .ok (.bipush 39, 2) := by decide +kernel
theorem dX12_sends_188 : decode cX12_sends 188 = .ok (.iload_n 1, 1) := by decide +kernel
theorem dX12_sends_189 : decode cX12_sends 189 = .ok (.iadd, 1) := by decide +kernel
theorem dX12_sends_190 : decode cX12_sends 190 = .ok (.dup2, 1) := by decide +kernel
theorem dX12_sends_191 : decode cX12_sends 191 = .ok (.iaload, 1) := by decide +kernel
theorem dX12_sends_192 : decode cX12_sends 192 = .ok (.iload_n 2, 1) := by decide +kernel
theorem dX12_sends_193 : decode cX12_sends 193 = .ok (.iadd, 1) := by decide +kernel
theorem dX12_sends_194 : decode cX12_sends 194 = .ok (.iastore, 1) := by decide +kernel
theorem dX12_sends_195 : decode cX12_sends 195 = .ok (.aload_n 0, 1) := by decide +kernel
theorem dX12_sends_196 : decode cX12_sends 196 = .ok (.getfield 7, 3) := by decide +kernel
theorem dX12_sends_199 : decode cX12_sends 199 = .ok (.bipush 51, 2) := by decide +kernel
theorem dX12_sends_201 : decode cX12_sends 201 = .ok (.iload_n 1, 1) := by decide +kernel
theorem dX12_sends_202 : decode cX12_sends 202 = .ok (.iadd, 1) := by decide +kernel
theorem dX12_sends_203 : decode cX12_sends 203 = .ok (.dup2, 1) := by decide +kernel
theorem dX12_sends_204 : decode cX12_sends 204 = .ok (.iaload, 1) := by decide +kernel
theorem dX12_sends_205 : decode cX12_sends 205 = .ok (.iconst 1, 1) := by decide +kernel
theorem dX12_sends_206 : decode cX12_sends 206 = .ok (.iadd, 1) := by decide +kernel
theorem dX12_sends_207 : decode cX12_sends 207 = .ok (.iastore, 1) := by decide +kernel
theorem dX12_sends_208 : decode cX12_sends 208 = .ok (.aload_n 0, 1) := by decide +kernel
theorem dX12_sends_209 : decode cX12_sends 209 = .ok (.iload_n 1, 1) := by decide +kernel
theorem dX12_sends_210 : decode cX12_sends 210 = .ok (.iload_n 2, 1) := by decide +kernel
theorem dX12_sends_211 : decode cX12_sends 211 = .ok (.iload_n 3, 1) := by decide +kernel
theorem dX12_sends_212 : decode cX12_sends 212 = .ok (.invokevirtual 258, 3) := by decide +kernel
theorem dX12_sends_215 : decode cX12_sends 215 = .ok (.return_, 1) := by decide +kernel
theorem dX12_lender_0 : decode cX12_lender 0 = .ok (.aload_n 0, 1) := by decide +kernel
theorem dX12_lender_1 : decode cX12_lender 1 = .ok (.iconst 0, 1) := by decide +kernel
theorem dX12_lender_2 : decode cX12_lender 2 = .ok (.putfield 88, 3) := by decide +kernel
theorem dX12_lender_5 : decode cX12_lender 5 = .ok (.aload_n 0, 1) := by decide +kernel
theorem dX12_lender_6 : decode cX12_lender 6 = .ok (.iload_n 1, 1) := by decide +kernel
theorem dX12_lender_7 : decode cX12_lender 7 = .ok (.iload_n 2, 1) := by decide +kernel
theorem dX12_lender_8 : decode cX12_lender 8 = .ok (.invokevirtual 262, 3) := by decide +kernel
theorem dX12_lender_11 : decode cX12_lender 11 = .ok (.ifCond .eq 12, 3) := by decide +kernel
theorem dX12_lender_14 : decode cX12_lender 14 = .ok (.aload_n 0, 1) := by decide +kernel
theorem dX12_lender_15 : decode cX12_lender 15 = .ok (.iload_n 1, 1) := by decide +kernel
theorem dX12_lender_16 : decode cX12_lender 16 = .ok (.iload_n 2, 1) := by decide +kernel
theorem dX12_lender_17 : decode cX12_lender 17 = .ok (.invokevirtual 266, 3) := by decide +kernel
theorem dX12_lender_20 : decode cX12_lender 20 = .ok (.goto 4, 3) := by decide +kernel
theorem dX12_lender_23 : decode cX12_lender 23 = .ok (.iconst (-1), 1) := by decide +kernel
theorem dX12_lender_24 : decode cX12_lender 24 = .ok (.ireturn, 1) := by decide +kernel
theorem dX12_greatestCost_0 : decode cX12_greatestCost 0 = .ok (.aload_n 0, 1) := by decide +kernel
theorem dX12_greatestCost_1 : decode cX12_greatestCost 1 = .ok (.iconst 0, 1) := by decide +kernel
theorem dX12_greatestCost_2 : decode cX12_greatestCost 2 = .ok (.putfield 88, 3) := by decide +kernel
theorem dX12_greatestCost_5 : decode cX12_greatestCost 5 = .ok (.aload_n 0, 1) := by decide +kernel
theorem dX12_greatestCost_6 : decode cX12_greatestCost 6 = .ok (.iload_n 1, 1) := by decide +kernel
theorem dX12_greatestCost_7 : decode cX12_greatestCost 7 = .ok (.invokevirtual 247, 3) := by decide +kernel
theorem dX12_greatestCost_10 : decode cX12_greatestCost 10 = .ok (.ifCond .ne 5, 3) := by decide +kernel
theorem dX12_greatestCost_13 : decode cX12_greatestCost 13 = .ok (.iconst (-1), 1) := by decide +kernel
theorem dX12_greatestCost_14 : decode cX12_greatestCost 14 = .ok (.ireturn, 1) := by decide +kernel
theorem dX12_greatestCost_15 : decode cX12_greatestCost 15 = .ok (.iconst 0, 1) := by decide +kernel
theorem dX12_greatestCost_16 : decode cX12_greatestCost 16 = .ok (.istore_n 2, 1) := by decide +kernel
theorem dX12_greatestCost_17 : decode cX12_greatestCost 17 = .ok (.iconst 1, 1) := by decide +kernel
theorem dX12_greatestCost_18 : decode cX12_greatestCost 18 = .ok (.istore_n 3, 1) := by decide +kernel
theorem dX12_greatestCost_19 : decode cX12_greatestCost 19 = .ok (.iload_n 3, 1) := by decide +kernel
theorem dX12_greatestCost_20 : decode cX12_greatestCost 20 = .ok (.bipush 99, 2) := by decide +kernel
theorem dX12_greatestCost_22 : decode cX12_greatestCost 22 = .ok (.if_icmp .gt 26, 3) := by decide +kernel
theorem dX12_greatestCost_25 : decode cX12_greatestCost 25 = .ok (.aload_n 0, 1) := by decide +kernel
theorem dX12_greatestCost_26 : decode cX12_greatestCost 26 = .ok (.iload_n 1, 1) := by decide +kernel
theorem dX12_greatestCost_27 : decode cX12_greatestCost 27 = .ok (.iload_n 3, 1) := by decide +kernel
theorem dX12_greatestCost_28 : decode cX12_greatestCost 28 = .ok (.invokevirtual 266, 3) := by decide +kernel
theorem dX12_greatestCost_31 : decode cX12_greatestCost 31 = .ok (.bipush (-2), 2) := by decide +kernel
theorem dX12_greatestCost_33 : decode cX12_greatestCost 33 = .ok (.if_icmp .eq 7, 3) := by decide +kernel
theorem dX12_greatestCost_36 : decode cX12_greatestCost 36 = .ok (.iload_n 3, 1) := by decide +kernel
theorem dX12_greatestCost_37 : decode cX12_greatestCost 37 = .ok (.goto 4, 3) := by decide +kernel
theorem dX12_greatestCost_40 : decode cX12_greatestCost 40 = .ok (.iload_n 2, 1) := by decide +kernel
theorem dX12_greatestCost_41 : decode cX12_greatestCost 41 = .ok (.istore_n 2, 1) := by decide +kernel
theorem dX12_greatestCost_42 : decode cX12_greatestCost 42 = .ok (.iinc 3 1, 3) := by decide +kernel
theorem dX12_greatestCost_45 : decode cX12_greatestCost 45 = .ok (.goto (-26), 3) := by decide +kernel
theorem dX12_greatestCost_48 : decode cX12_greatestCost 48 = .ok (.iload_n 2, 1) := by decide +kernel
theorem dX12_greatestCost_49 : decode cX12_greatestCost 49 = .ok (.ireturn, 1) := by decide +kernel
theorem dX12_acquire_0 : decode cX12_acquire 0 = .ok (.aload_n 0, 1) := by decide +kernel
theorem dX12_acquire_1 : decode cX12_acquire 1 = .ok (.iconst 0, 1) := by decide +kernel
theorem dX12_acquire_2 : decode cX12_acquire 2 = .ok (.putfield 88, 3) := by decide +kernel
theorem dX12_acquire_5 : decode cX12_acquire 5 = .ok (.aload_n 0, 1) := by decide +kernel
theorem dX12_acquire_6 : decode cX12_acquire 6 = .ok (.iload_n 1, 1) := by decide +kernel
theorem dX12_acquire_7 : decode cX12_acquire 7 = .ok (.iload_n 2, 1) := by decide +kernel
theorem dX12_acquire_8 : decode cX12_acquire 8 = .ok (.invokevirtual 262, 3) := by decide +kernel
theorem dX12_acquire_11 : decode cX12_acquire 11 = .ok (.ifCond .ne 5, 3) := by decide +kernel
theorem dX12_acquire_14 : decode cX12_acquire 14 = .ok (.iconst (-1), 1) := by decide +kernel
theorem dX12_acquire_15 : decode cX12_acquire 15 = .ok (.ireturn, 1) := by decide +kernel
theorem dX12_acquire_16 : decode cX12_acquire 16 = .ok (.aload_n 0, 1) := by decide +kernel
theorem dX12_acquire_17 : decode cX12_acquire 17 = .ok (.iload_n 1, 1) := by decide +kernel
theorem dX12_acquire_18 : decode cX12_acquire 18 = .ok (.iload_n 2, 1) := by decide +kernel
theorem dX12_acquire_19 : decode cX12_acquire 19 = .ok (.invokevirtual 266, 3) := by decide +kernel
theorem dX12_acquire_22 : decode cX12_acquire 22 = .ok (.istore_n 3, 1) := by decide +kernel
theorem dX12_acquire_23 : decode cX12_acquire 23 = .ok (.iload_n 3, 1) := by decide +kernel
theorem dX12_acquire_24 : decode cX12_acquire 24 = .ok (.bipush (-2), 2) := by decide +kernel
theorem dX12_acquire_26 : decode cX12_acquire 26 = .ok (.if_icmp .ne 6, 3) := by decide +kernel
theorem dX12_acquire_29 : decode cX12_acquire 29 = .ok (.bipush (-2), 2) := by decide +kernel
theorem dX12_acquire_31 : decode cX12_acquire 31 = .ok (.ireturn, 1) := by decide +kernel
theorem dX12_acquire_32 : decode cX12_acquire 32 = .ok (.aload_n 0, 1) := by decide +kernel
theorem dX12_acquire_33 : decode cX12_acquire 33 = .ok (.iload_n 1, 1) := by decide +kernel
theorem dX12_acquire_34 : decode cX12_acquire 34 = .ok (.iload_n 2, 1) := by decide +kernel
theorem dX12_acquire_35 : decode cX12_acquire 35 = .ok (.iload_n 3, 1) := by decide +kernel
theorem dX12_acquire_36 : decode cX12_acquire 36 = .ok (.invokevirtual 269, 3) := by decide +kernel
theorem dX12_acquire_39 : decode cX12_acquire 39 = .ok (.aload_n 0, 1) := by decide +kernel
theorem dX12_acquire_40 : decode cX12_acquire 40 = .ok (.iload_n 1, 1) := by decide +kernel
theorem dX12_acquire_41 : decode cX12_acquire 41 = .ok (.iload_n 3, 1) := by decide +kernel
theorem dX12_acquire_42 : decode cX12_acquire 42 = .ok (.invokevirtual 250, 3) := by decide +kernel
theorem dX12_acquire_45 : decode cX12_acquire 45 = .ok (.ireturn, 1) := by decide +kernel
theorem dX12_place_0 : decode cX12_place 0 = .ok (.sipush 147, 3) := by decide +kernel
theorem dX12_place_3 : decode cX12_place 3 = .ok (.iconst 3, 1) := by decide +kernel
theorem dX12_place_4 : decode cX12_place 4 = .ok (.bipush 16, 2) := by decide +kernel
theorem dX12_place_6 : decode cX12_place 6 = .ok (.iload_n 0, 1) := by decide +kernel
theorem dX12_place_7 : decode cX12_place 7 = .ok (.imul, 1) := by decide +kernel
theorem dX12_place_8 : decode cX12_place 8 = .ok (.iload_n 1, 1) := by decide +kernel
theorem dX12_place_9 : decode cX12_place 9 = .ok (.iadd, 1) := by decide +kernel
theorem dX12_place_10 : decode cX12_place 10 = .ok (.imul, 1) := by decide +kernel
theorem dX12_place_11 : decode cX12_place 11 = .ok (.iadd, 1) := by decide +kernel
theorem dX12_place_12 : decode cX12_place 12 = .ok (.ireturn, 1) := by decide +kernel
theorem dX12_enqueue_0 : decode cX12_enqueue 0 = .ok (.aload_n 0, 1) := by decide +kernel
theorem dX12_enqueue_1 : decode cX12_enqueue 1 = .ok (.iconst 0, 1) := by decide +kernel
theorem dX12_enqueue_2 : decode cX12_enqueue 2 = .ok (.putfield 88, 3) := by decide +kernel
theorem dX12_enqueue_5 : decode cX12_enqueue 5 = .ok (.aload_n 0, 1) := by decide +kernel
theorem dX12_enqueue_6 : decode cX12_enqueue 6 = .ok (.iload_n 1, 1) := by decide +kernel
theorem dX12_enqueue_7 : decode cX12_enqueue 7 = .ok (.iload_n 2, 1) := by decide +kernel
theorem dX12_enqueue_8 : decode cX12_enqueue 8 = .ok (.invokevirtual 262, 3) := by decide +kernel
theorem dX12_enqueue_11 : decode cX12_enqueue 11 = .ok (.ifCond .ne 5, 3) := by decide +kernel
theorem dX12_enqueue_14 : decode cX12_enqueue 14 = .ok (.iconst (-1), 1) := by decide +kernel
theorem dX12_enqueue_15 : decode cX12_enqueue 15 = .ok (.ireturn, 1) := by decide +kernel
theorem dX12_enqueue_16 : decode cX12_enqueue 16 = .ok (.aload_n 0, 1) := by decide +kernel
theorem dX12_enqueue_17 : decode cX12_enqueue 17 = .ok (.getfield 7, 3) := by decide +kernel
theorem dX12_enqueue_20 : decode cX12_enqueue 20 = .ok (.sipush 135, 3) := by decide +kernel
theorem dX12_enqueue_23 : decode cX12_enqueue 23 = .ok (.iload_n 1, 1) := by decide +kernel
theorem dX12_enqueue_24 : decode cX12_enqueue 24 = .ok (.iadd, 1) := by decide +kernel
theorem dX12_enqueue_25 : decode cX12_enqueue 25 = .ok (.iaload, 1) := by decide +kernel
theorem dX12_enqueue_26 : decode cX12_enqueue 26 = .ok (.istore_n 3, 1) := by decide +kernel
theorem dX12_enqueue_27 : decode cX12_enqueue 27 = .ok (.iload_n 3, 1) := by decide +kernel
theorem dX12_enqueue_28 : decode cX12_enqueue 28 = .ok (.bipush 16, 2) := by decide +kernel
theorem dX12_enqueue_30 : decode cX12_enqueue 30 = .ok (.if_icmp .ne 19, 3) := by decide +kernel
theorem dX12_enqueue_33 : decode cX12_enqueue 33 = .ok (.aload_n 0, 1) := by decide +kernel
theorem dX12_enqueue_34 : decode cX12_enqueue 34 = .ok (.getfield 7, 3) := by decide +kernel
theorem dX12_enqueue_37 : decode cX12_enqueue 37 = .ok (.bipush 87, 2) := by decide +kernel
theorem dX12_enqueue_39 : decode cX12_enqueue 39 = .ok (.iload_n 1, 1) := by decide +kernel
theorem dX12_enqueue_40 : decode cX12_enqueue 40 = .ok (.iadd, 1) := by decide +kernel
theorem dX12_enqueue_41 : decode cX12_enqueue 41 = .ok (.dup2, 1) := by decide +kernel
theorem dX12_enqueue_42 : decode cX12_enqueue 42 = .ok (.iaload, 1) := by decide +kernel
theorem dX12_enqueue_43 : decode cX12_enqueue 43 = .ok (.iconst 1, 1) := by decide +kernel
theorem dX12_enqueue_44 : decode cX12_enqueue 44 = .ok (.iadd, 1) := by decide +kernel
theorem dX12_enqueue_45 : decode cX12_enqueue 45 = .ok (.iastore, 1) := by decide +kernel
theorem dX12_enqueue_46 : decode cX12_enqueue 46 = .ok (.bipush (-2), 2) := by decide +kernel
theorem dX12_enqueue_48 : decode cX12_enqueue 48 = .ok (.ireturn, 1) := by decide +kernel
theorem dX12_enqueue_49 : decode cX12_enqueue 49 = .ok (.aload_n 0, 1) := by decide +kernel
theorem dX12_enqueue_50 : decode cX12_enqueue 50 = .ok (.getfield 7, 3) := by decide +kernel
theorem dX12_enqueue_53 : decode cX12_enqueue 53 = .ok (.iload_n 1, 1) := by decide +kernel
theorem dX12_enqueue_54 : decode cX12_enqueue 54 = .ok (.iload_n 3, 1) := by decide +kernel
theorem dX12_enqueue_55 : decode cX12_enqueue 55 = .ok (.invokestatic 272, 3) := by decide +kernel
theorem dX12_enqueue_58 : decode cX12_enqueue 58 = .ok (.aload_n 0, 1) := by decide +kernel
theorem dX12_enqueue_59 : decode cX12_enqueue 59 = .ok (.getfield 7, 3) := by decide +kernel
theorem dX12_enqueue_62 : decode cX12_enqueue 62 = .ok (.iconst 1, 1) := by decide +kernel
theorem dX12_enqueue_63 : decode cX12_enqueue 63 = .ok (.iaload, 1) := by decide +kernel
theorem dX12_enqueue_64 : decode cX12_enqueue 64 = .ok (.iastore, 1) := by decide +kernel
theorem dX12_enqueue_65 : decode cX12_enqueue 65 = .ok (.aload_n 0, 1) := by decide +kernel
theorem dX12_enqueue_66 : decode cX12_enqueue 66 = .ok (.getfield 7, 3) := by decide +kernel
theorem dX12_enqueue_69 : decode cX12_enqueue 69 = .ok (.iload_n 1, 1) := by decide +kernel
theorem dX12_enqueue_70 : decode cX12_enqueue 70 = .ok (.iload_n 3, 1) := by decide +kernel
theorem dX12_enqueue_71 : decode cX12_enqueue 71 = .ok (.invokestatic 272, 3) := by decide +kernel
theorem dX12_enqueue_74 : decode cX12_enqueue 74 = .ok (.iconst 1, 1) := by decide +kernel
theorem dX12_enqueue_75 : decode cX12_enqueue 75 = .ok (.iadd, 1) := by decide +kernel
theorem dX12_enqueue_76 : decode cX12_enqueue 76 = .ok (.iload_n 2, 1) := by decide +kernel
theorem dX12_enqueue_77 : decode cX12_enqueue 77 = .ok (.iastore, 1) := by decide +kernel
theorem dX12_enqueue_78 : decode cX12_enqueue 78 = .ok (.aload_n 0, 1) := by decide +kernel
theorem dX12_enqueue_79 : decode cX12_enqueue 79 = .ok (.getfield 7, 3) := by decide +kernel
theorem dX12_enqueue_82 : decode cX12_enqueue 82 = .ok (.iload_n 1, 1) := by decide +kernel
theorem dX12_enqueue_83 : decode cX12_enqueue 83 = .ok (.iload_n 3, 1) := by decide +kernel
theorem dX12_enqueue_84 : decode cX12_enqueue 84 = .ok (.invokestatic 272, 3) := by decide +kernel
theorem dX12_enqueue_87 : decode cX12_enqueue 87 = .ok (.iconst 2, 1) := by decide +kernel
theorem dX12_enqueue_88 : decode cX12_enqueue 88 = .ok (.iadd, 1) := by decide +kernel
theorem dX12_enqueue_89 : decode cX12_enqueue 89 = .ok (.aload_n 0, 1) := by decide +kernel
theorem dX12_enqueue_90 : decode cX12_enqueue 90 = .ok (.getfield 7, 3) := by decide +kernel
theorem dX12_enqueue_93 : decode cX12_enqueue 93 = .ok (.iconst 0, 1) := by decide +kernel
theorem dX12_enqueue_94 : decode cX12_enqueue 94 = .ok (.iaload, 1) := by decide +kernel
theorem dX12_enqueue_95 : decode cX12_enqueue 95 = .ok (.iastore, 1) := by decide +kernel
theorem dX12_enqueue_96 : decode cX12_enqueue 96 = .ok (.aload_n 0, 1) := by decide +kernel
theorem dX12_enqueue_97 : decode cX12_enqueue 97 = .ok (.getfield 7, 3) := by decide +kernel
theorem dX12_enqueue_100 : decode cX12_enqueue 100 = .ok (.sipush 135, 3) := by decide +kernel
theorem dX12_enqueue_103 : decode cX12_enqueue 103 = .ok (.iload_n 1, 1) := by decide +kernel
theorem dX12_enqueue_104 : decode cX12_enqueue 104 = .ok (.iadd, 1) := by decide +kernel
theorem dX12_enqueue_105 : decode cX12_enqueue 105 = .ok (.dup2, 1) := by decide +kernel
theorem dX12_enqueue_106 : decode cX12_enqueue 106 = .ok (.iaload, 1) := by decide +kernel
theorem dX12_enqueue_107 : decode cX12_enqueue 107 = .ok (.iconst 1, 1) := by decide +kernel
theorem dX12_enqueue_108 : decode cX12_enqueue 108 = .ok (.iadd, 1) := by decide +kernel
theorem dX12_enqueue_109 : decode cX12_enqueue 109 = .ok (.iastore, 1) := by decide +kernel
theorem dX12_enqueue_110 : decode cX12_enqueue 110 = .ok (.aload_n 0, 1) := by decide +kernel
theorem dX12_enqueue_111 : decode cX12_enqueue 111 = .ok (.getfield 7, 3) := by decide +kernel
theorem dX12_enqueue_114 : decode cX12_enqueue 114 = .ok (.iconst 1, 1) := by decide +kernel
theorem dX12_enqueue_115 : decode cX12_enqueue 115 = .ok (.dup2, 1) := by decide +kernel
theorem dX12_enqueue_116 : decode cX12_enqueue 116 = .ok (.iaload, 1) := by decide +kernel
theorem dX12_enqueue_117 : decode cX12_enqueue 117 = .ok (.iconst 1, 1) := by decide +kernel
theorem dX12_enqueue_118 : decode cX12_enqueue 118 = .ok (.iadd, 1) := by decide +kernel
theorem dX12_enqueue_119 : decode cX12_enqueue 119 = .ok (.iastore, 1) := by decide +kernel
theorem dX12_enqueue_120 : decode cX12_enqueue 120 = .ok (.aload_n 0, 1) := by decide +kernel
theorem dX12_enqueue_121 : decode cX12_enqueue 121 = .ok (.getfield 7, 3) := by decide +kernel
theorem dX12_enqueue_124 : decode cX12_enqueue 124 = .ok (.iconst 1, 1) := by decide +kernel
theorem dX12_enqueue_125 : decode cX12_enqueue 125 = .ok (.iaload, 1) := by decide +kernel
theorem dX12_enqueue_126 : decode cX12_enqueue 126 = .ok (.iconst 1, 1) := by decide +kernel
theorem dX12_enqueue_127 : decode cX12_enqueue 127 = .ok (.isub, 1) := by decide +kernel
theorem dX12_enqueue_128 : decode cX12_enqueue 128 = .ok (.ireturn, 1) := by decide +kernel
theorem dX12_refills_0 : decode cX12_refills 0 = .ok (.iconst 0, 1) := by decide +kernel
theorem dX12_refills_1 : decode cX12_refills 1 = .ok (.istore_n 1, 1) := by decide +kernel
theorem dX12_refills_2 : decode cX12_refills 2 = .ok (.iload_n 1, 1) := by decide +kernel
theorem dX12_refills_3 : decode cX12_refills 3 = .ok (.aload_n 0, 1) := by decide +kernel
theorem dX12_refills_4 : decode cX12_refills 4 = .ok (.getfield 91, 3) := by decide +kernel
theorem dX12_refills_7 : decode cX12_refills 7 = .ok (.if_icmp .ge 158, 3) := by decide +kernel
theorem dX12_refills_10 : decode cX12_refills 10 = .ok (.aload_n 0, 1) := by decide +kernel
theorem dX12_refills_11 : decode cX12_refills 11 = .ok (.getfield 7, 3) := by decide +kernel
theorem dX12_refills_14 : decode cX12_refills 14 = .ok (.iconst 3, 1) := by decide +kernel
theorem dX12_refills_15 : decode cX12_refills 15 = .ok (.iload_n 1, 1) := by decide +kernel
theorem dX12_refills_16 : decode cX12_refills 16 = .ok (.iadd, 1) := by decide +kernel
theorem dX12_refills_17 : decode cX12_refills 17 = .ok (.iaload, 1) := by decide +kernel
theorem dX12_refills_18 : decode cX12_refills 18 = .ok (.aload_n 0, 1) := by decide +kernel
theorem dX12_refills_19 : decode cX12_refills 19 = .ok (.getfield 7, 3) := by decide +kernel
theorem dX12_refills_22 : decode cX12_refills 22 = .ok (.bipush 99, 2) := by decide +kernel
theorem dX12_refills_24 : decode cX12_refills 24 = .ok (.iload_n 1, 1) := by decide +kernel
theorem dX12_refills_25 : decode cX12_refills 25 = .ok (.iadd, 1) := by decide +kernel
theorem dX12_refills_26 : decode cX12_refills 26 = .ok (.iaload, 1) := by decide +kernel
theorem dX12_refills_27 : decode cX12_refills 27 = .ok (.iadd, 1) := by decide +kernel
theorem dX12_refills_28 : decode cX12_refills 28 = .ok (.istore_n 2, 1) := by decide +kernel
theorem dX12_refills_29 : decode cX12_refills 29 = .ok (.iload_n 2, 1) := by decide +kernel
theorem dX12_refills_30 : decode cX12_refills 30 = .ok (.aload_n 0, 1) := by decide +kernel
theorem dX12_refills_31 : decode cX12_refills 31 = .ok (.getfield 34, 3) := by decide +kernel
theorem dX12_refills_34 : decode cX12_refills 34 = .ok (.iload_n 1, 1) := by decide +kernel
theorem dX12_refills_35 : decode cX12_refills 35 = .ok (.iaload, 1) := by decide +kernel
theorem dX12_refills_36 : decode cX12_refills 36 = .ok (.if_icmp .le 14, 3) := by decide +kernel
theorem dX12_refills_39 : decode cX12_refills 39 = .ok (.iload_n 2, 1) := by decide +kernel
theorem dX12_refills_40 : decode cX12_refills 40 = .ok (.aload_n 0, 1) := by decide +kernel
theorem dX12_refills_41 : decode cX12_refills 41 = .ok (.getfield 34, 3) := by decide +kernel
theorem dX12_refills_44 : decode cX12_refills 44 = .ok (.iload_n 1, 1) := by decide +kernel
theorem dX12_refills_45 : decode cX12_refills 45 = .ok (.iaload, 1) := by decide +kernel
theorem dX12_refills_46 : decode cX12_refills 46 = .ok (.isub, 1) := by decide +kernel
theorem dX12_refills_47 : decode cX12_refills 47 = .ok (.goto 4, 3) := by decide +kernel
theorem dX12_refills_50 : decode cX12_refills 50 = .ok (.iconst 0, 1) := by decide +kernel
theorem dX12_refills_51 : decode cX12_refills 51 = .ok (.istore_n 3, 1) := by decide +kernel
theorem dX12_refills_52 : decode cX12_refills 52 = .ok (.aload_n 0, 1) := by decide +kernel
theorem dX12_refills_53 : decode cX12_refills 53 = .ok (.getfield 7, 3) := by decide +kernel
theorem dX12_refills_56 : decode cX12_refills 56 = .ok (.iconst 3, 1) := by decide +kernel
theorem dX12_refills_57 : decode cX12_refills 57 = .ok (.iload_n 1, 1) := by decide +kernel
theorem dX12_refills_58 : decode cX12_refills 58 = .ok (.iadd, 1) := by decide +kernel
theorem dX12_refills_59 : decode cX12_refills 59 = .ok (.iload_n 2, 1) := by decide +kernel
theorem dX12_refills_60 : decode cX12_refills 60 = .ok (.iload_n 3, 1) := by decide +kernel
theorem dX12_refills_61 : decode cX12_refills 61 = .ok (.isub, 1) := by decide +kernel
theorem dX12_refills_62 : decode cX12_refills 62 = .ok (.iastore, 1) := by decide +kernel
theorem dX12_refills_63 : decode cX12_refills 63 = .ok (.aload_n 0, 1) := by decide +kernel
theorem dX12_refills_64 : decode cX12_refills 64 = .ok (.getfield 7, 3) := by decide +kernel
theorem dX12_refills_67 : decode cX12_refills 67 = .ok (.bipush 15, 2) := by decide +kernel
theorem dX12_refills_69 : decode cX12_refills 69 = .ok (.iload_n 1, 1) := by decide +kernel
theorem dX12_refills_70 : decode cX12_refills 70 = .ok (.iadd, 1) := by decide +kernel
theorem dX12_refills_71 : decode cX12_refills 71 = .ok (.iaload, 1) := by decide +kernel
theorem dX12_refills_72 : decode cX12_refills 72 = .ok (.iload_n 3, 1) := by decide +kernel
theorem dX12_refills_73 : decode cX12_refills 73 = .ok (.iadd, 1) := by decide +kernel
theorem dX12_refills_74 : decode cX12_refills 74 = .ok (.istore 4, 2) := by decide +kernel
theorem dX12_refills_76 : decode cX12_refills 76 = .ok (.aload_n 0, 1) := by decide +kernel
theorem dX12_refills_77 : decode cX12_refills 77 = .ok (.getfield 7, 3) := by decide +kernel
theorem dX12_refills_80 : decode cX12_refills 80 = .ok (.bipush 15, 2) := by decide +kernel
theorem dX12_refills_82 : decode cX12_refills 82 = .ok (.iload_n 1, 1) := by decide +kernel
theorem dX12_refills_83 : decode cX12_refills 83 = .ok (.iadd, 1) := by decide +kernel
theorem dX12_refills_84 : decode cX12_refills 84 = .ok (.iload 4, 2) := by decide +kernel
theorem dX12_refills_86 : decode cX12_refills 86 = .ok (.aload_n 0, 1) := by decide +kernel
theorem dX12_refills_87 : decode cX12_refills 87 = .ok (.getfield 37, 3) := by decide +kernel
theorem dX12_refills_90 : decode cX12_refills 90 = .ok (.iload_n 1, 1) := by decide +kernel
theorem dX12_refills_91 : decode cX12_refills 91 = .ok (.iaload, 1) := by decide +kernel
theorem dX12_refills_92 : decode cX12_refills 92 = .ok (.if_icmp .le 12, 3) := by decide +kernel
theorem dX12_refills_95 : decode cX12_refills 95 = .ok (.aload_n 0, 1) := by decide +kernel
theorem dX12_refills_96 : decode cX12_refills 96 = .ok (.getfield 37, 3) := by decide +kernel
theorem dX12_refills_99 : decode cX12_refills 99 = .ok (.iload_n 1, 1) := by decide +kernel
theorem dX12_refills_100 : decode cX12_refills 100 = .ok (.iaload, 1) := by decide +kernel
theorem dX12_refills_101 : decode cX12_refills 101 = .ok (.goto 5, 3) := by decide +kernel
theorem dX12_refills_104 : decode cX12_refills 104 = .ok (.iload 4, 2) := by decide +kernel
theorem dX12_refills_106 : decode cX12_refills 106 = .ok (.iastore, 1) := by decide +kernel
theorem dX12_refills_107 : decode cX12_refills 107 = .ok (.aload_n 0, 1) := by decide +kernel
theorem dX12_refills_108 : decode cX12_refills 108 = .ok (.getfield 7, 3) := by decide +kernel
theorem dX12_refills_111 : decode cX12_refills 111 = .ok (.bipush 27, 2) := by decide +kernel
theorem dX12_refills_113 : decode cX12_refills 113 = .ok (.iload_n 1, 1) := by decide +kernel
theorem dX12_refills_114 : decode cX12_refills 114 = .ok (.iadd, 1) := by decide +kernel
theorem dX12_refills_115 : decode cX12_refills 115 = .ok (.iaload, 1) := by decide +kernel
theorem dX12_refills_116 : decode cX12_refills 116 = .ok (.aload_n 0, 1) := by decide +kernel
theorem dX12_refills_117 : decode cX12_refills 117 = .ok (.getfield 7, 3) := by decide +kernel
theorem dX12_refills_120 : decode cX12_refills 120 = .ok (.bipush 111, 2) := by decide +kernel
theorem dX12_refills_122 : decode cX12_refills 122 = .ok (.iload_n 1, 1) := by decide +kernel
theorem dX12_refills_123 : decode cX12_refills 123 = .ok (.iadd, 1) := by decide +kernel
theorem dX12_refills_124 : decode cX12_refills 124 = .ok (.iaload, 1) := by decide +kernel
theorem dX12_refills_125 : decode cX12_refills 125 = .ok (.iadd, 1) := by decide +kernel
theorem dX12_refills_126 : decode cX12_refills 126 = .ok (.istore 5, 2) := by decide +kernel
theorem dX12_refills_128 : decode cX12_refills 128 = .ok (.aload_n 0, 1) := by decide +kernel
theorem dX12_refills_129 : decode cX12_refills 129 = .ok (.getfield 7, 3) := by decide +kernel
theorem dX12_refills_132 : decode cX12_refills 132 = .ok (.bipush 27, 2) := by decide +kernel
theorem dX12_refills_134 : decode cX12_refills 134 = .ok (.iload_n 1, 1) := by decide +kernel
theorem dX12_refills_135 : decode cX12_refills 135 = .ok (.iadd, 1) := by decide +kernel
theorem dX12_refills_136 : decode cX12_refills 136 = .ok (.iload 5, 2) := by decide +kernel
theorem dX12_refills_138 : decode cX12_refills 138 = .ok (.aload_n 0, 1) := by decide +kernel
theorem dX12_refills_139 : decode cX12_refills 139 = .ok (.getfield 34, 3) := by decide +kernel
theorem dX12_refills_142 : decode cX12_refills 142 = .ok (.iload_n 1, 1) := by decide +kernel
theorem dX12_refills_143 : decode cX12_refills 143 = .ok (.iaload, 1) := by decide +kernel
theorem dX12_refills_144 : decode cX12_refills 144 = .ok (.if_icmp .le 12, 3) := by decide +kernel
theorem dX12_refills_147 : decode cX12_refills 147 = .ok (.aload_n 0, 1) := by decide +kernel
theorem dX12_refills_148 : decode cX12_refills 148 = .ok (.getfield 34, 3) := by decide +kernel
theorem dX12_refills_151 : decode cX12_refills 151 = .ok (.iload_n 1, 1) := by decide +kernel
theorem dX12_refills_152 : decode cX12_refills 152 = .ok (.iaload, 1) := by decide +kernel
theorem dX12_refills_153 : decode cX12_refills 153 = .ok (.goto 5, 3) := by decide +kernel
theorem dX12_refills_156 : decode cX12_refills 156 = .ok (.iload 5, 2) := by decide +kernel
theorem dX12_refills_158 : decode cX12_refills 158 = .ok (.iastore, 1) := by decide +kernel
theorem dX12_refills_159 : decode cX12_refills 159 = .ok (.iinc 1 1, 3) := by decide +kernel
theorem dX12_refills_162 : decode cX12_refills 162 = .ok (.goto (-160), 3) := by decide +kernel
theorem dX12_refills_165 : decode cX12_refills 165 = .ok (.return_, 1) := by decide +kernel
theorem dX12_waitTime_0 : decode cX12_waitTime 0 = .ok (.aload_n 0, 1) := by decide +kernel
theorem dX12_waitTime_1 : decode cX12_waitTime 1 = .ok (.iconst 0, 1) := by decide +kernel
theorem dX12_waitTime_2 : decode cX12_waitTime 2 = .ok (.putfield 88, 3) := by decide +kernel
theorem dX12_waitTime_5 : decode cX12_waitTime 5 = .ok (.aload_n 0, 1) := by decide +kernel
theorem dX12_waitTime_6 : decode cX12_waitTime 6 = .ok (.iload_n 1, 1) := by decide +kernel
theorem dX12_waitTime_7 : decode cX12_waitTime 7 = .ok (.iload_n 2, 1) := by decide +kernel
theorem dX12_waitTime_8 : decode cX12_waitTime 8 = .ok (.invokevirtual 262, 3) := by decide +kernel
theorem dX12_waitTime_11 : decode cX12_waitTime 11 = .ok (.ifCond .ne 5, 3) := by decide +kernel
theorem dX12_waitTime_14 : decode cX12_waitTime 14 = .ok (.iconst (-1), 1) := by decide +kernel
theorem dX12_waitTime_15 : decode cX12_waitTime 15 = .ok (.ireturn, 1) := by decide +kernel
theorem dX12_waitTime_16 : decode cX12_waitTime 16 = .ok (.aload_n 0, 1) := by decide +kernel
theorem dX12_waitTime_17 : decode cX12_waitTime 17 = .ok (.iconst 0, 1) := by decide +kernel
theorem dX12_waitTime_18 : decode cX12_waitTime 18 = .ok (.iconst 3, 1) := by decide +kernel
theorem dX12_waitTime_19 : decode cX12_waitTime 19 = .ok (.invokevirtual 275, 3) := by decide +kernel
theorem dX12_waitTime_22 : decode cX12_waitTime 22 = .ok (.iconst 0, 1) := by decide +kernel
theorem dX12_waitTime_23 : decode cX12_waitTime 23 = .ok (.istore_n 3, 1) := by decide +kernel
theorem dX12_waitTime_24 : decode cX12_waitTime 24 = .ok (.iload_n 3, 1) := by decide +kernel
theorem dX12_waitTime_25 : decode cX12_waitTime 25 = .ok (.sipush 1000, 3) := by decide +kernel
theorem dX12_waitTime_28 : decode cX12_waitTime 28 = .ok (.if_icmp .gt 24, 3) := by decide +kernel
theorem dX12_waitTime_31 : decode cX12_waitTime 31 = .ok (.aload_n 0, 1) := by decide +kernel
theorem dX12_waitTime_32 : decode cX12_waitTime 32 = .ok (.iload_n 1, 1) := by decide +kernel
theorem dX12_waitTime_33 : decode cX12_waitTime 33 = .ok (.iload_n 2, 1) := by decide +kernel
theorem dX12_waitTime_34 : decode cX12_waitTime 34 = .ok (.invokevirtual 266, 3) := by decide +kernel
theorem dX12_waitTime_37 : decode cX12_waitTime 37 = .ok (.bipush (-2), 2) := by decide +kernel
theorem dX12_waitTime_39 : decode cX12_waitTime 39 = .ok (.if_icmp .ne 13, 3) := by decide +kernel
theorem dX12_waitTime_42 : decode cX12_waitTime 42 = .ok (.aload_n 0, 1) := by decide +kernel
theorem dX12_waitTime_43 : decode cX12_waitTime 43 = .ok (.invokevirtual 279, 3) := by decide +kernel
theorem dX12_waitTime_46 : decode cX12_waitTime 46 = .ok (.iinc 3 1, 3) := by decide +kernel
theorem dX12_waitTime_49 : decode cX12_waitTime 49 = .ok (.goto (-25), 3) := by decide +kernel
theorem dX12_waitTime_52 : decode cX12_waitTime 52 = .ok (.aload_n 0, 1) := by decide +kernel
theorem dX12_waitTime_53 : decode cX12_waitTime 53 = .ok (.iconst 3, 1) := by decide +kernel
theorem dX12_waitTime_54 : decode cX12_waitTime 54 = .ok (.iconst 0, 1) := by decide +kernel
theorem dX12_waitTime_55 : decode cX12_waitTime 55 = .ok (.invokevirtual 275, 3) := by decide +kernel
theorem dX12_waitTime_58 : decode cX12_waitTime 58 = .ok (.iload_n 3, 1) := by decide +kernel
theorem dX12_waitTime_59 : decode cX12_waitTime 59 = .ok (.sipush 1000, 3) := by decide +kernel
theorem dX12_waitTime_62 : decode cX12_waitTime 62 = .ok (.if_icmp .le 8, 3) := by decide +kernel
theorem dX12_waitTime_65 : decode cX12_waitTime 65 = .ok (.bipush (-2), 2) := by decide +kernel
theorem dX12_waitTime_67 : decode cX12_waitTime 67 = .ok (.goto 4, 3) := by decide +kernel
theorem dX12_waitTime_70 : decode cX12_waitTime 70 = .ok (.iload_n 3, 1) := by decide +kernel
theorem dX12_waitTime_71 : decode cX12_waitTime 71 = .ok (.ireturn, 1) := by decide +kernel
theorem dX12_repeats_0 : decode cX12_repeats 0 = .ok (.aload_n 0, 1) := by decide +kernel
theorem dX12_repeats_1 : decode cX12_repeats 1 = .ok (.iconst 0, 1) := by decide +kernel
theorem dX12_repeats_2 : decode cX12_repeats 2 = .ok (.putfield 88, 3) := by decide +kernel
theorem dX12_repeats_5 : decode cX12_repeats 5 = .ok (.aload_n 0, 1) := by decide +kernel
theorem dX12_repeats_6 : decode cX12_repeats 6 = .ok (.iload_n 1, 1) := by decide +kernel
theorem dX12_repeats_7 : decode cX12_repeats 7 = .ok (.iload_n 2, 1) := by decide +kernel
theorem dX12_repeats_8 : decode cX12_repeats 8 = .ok (.invokevirtual 262, 3) := by decide +kernel
theorem dX12_repeats_11 : decode cX12_repeats 11 = .ok (.ifCond .ne 5, 3) := by decide +kernel
theorem dX12_repeats_14 : decode cX12_repeats 14 = .ok (.iconst (-1), 1) := by decide +kernel
theorem dX12_repeats_15 : decode cX12_repeats 15 = .ok (.ireturn, 1) := by decide +kernel
theorem dX12_repeats_16 : decode cX12_repeats 16 = .ok (.aload_n 0, 1) := by decide +kernel
theorem dX12_repeats_17 : decode cX12_repeats 17 = .ok (.iconst 0, 1) := by decide +kernel
theorem dX12_repeats_18 : decode cX12_repeats 18 = .ok (.iconst 3, 1) := by decide +kernel
theorem dX12_repeats_19 : decode cX12_repeats 19 = .ok (.invokevirtual 275, 3) := by decide +kernel
theorem dX12_repeats_22 : decode cX12_repeats 22 = .ok (.iconst 0, 1) := by decide +kernel
theorem dX12_repeats_23 : decode cX12_repeats 23 = .ok (.istore_n 3, 1) := by decide +kernel
theorem dX12_repeats_24 : decode cX12_repeats 24 = .ok (.aload_n 0, 1) := by decide +kernel
theorem dX12_repeats_25 : decode cX12_repeats 25 = .ok (.iload_n 1, 1) := by decide +kernel
theorem dX12_repeats_26 : decode cX12_repeats 26 = .ok (.iload_n 2, 1) := by decide +kernel
theorem dX12_repeats_27 : decode cX12_repeats 27 = .ok (.invokevirtual 266, 3) := by decide +kernel
theorem dX12_repeats_30 : decode cX12_repeats 30 = .ok (.istore 4, 2) := by decide +kernel
theorem dX12_repeats_32 : decode cX12_repeats 32 = .ok (.iload 4, 2) := by decide +kernel
theorem dX12_repeats_34 : decode cX12_repeats 34 = .ok (.bipush (-2), 2) := by decide +kernel
theorem dX12_repeats_36 : decode cX12_repeats 36 = .ok (.if_icmp .eq 25, 3) := by decide +kernel
theorem dX12_repeats_39 : decode cX12_repeats 39 = .ok (.aload_n 0, 1) := by decide +kernel
theorem dX12_repeats_40 : decode cX12_repeats 40 = .ok (.iload_n 1, 1) := by decide +kernel
theorem dX12_repeats_41 : decode cX12_repeats 41 = .ok (.iload_n 2, 1) := by decide +kernel
theorem dX12_repeats_42 : decode cX12_repeats 42 = .ok (.iload 4, 2) := by decide +kernel
theorem dX12_repeats_44 : decode cX12_repeats 44 = .ok (.invokevirtual 269, 3) := by decide +kernel
theorem dX12_repeats_47 : decode cX12_repeats 47 = .ok (.iinc 3 1, 3) := by decide +kernel
theorem dX12_repeats_50 : decode cX12_repeats 50 = .ok (.aload_n 0, 1) := by decide +kernel
theorem dX12_repeats_51 : decode cX12_repeats 51 = .ok (.iload_n 1, 1) := by decide +kernel
theorem dX12_repeats_52 : decode cX12_repeats 52 = .ok (.iload_n 2, 1) := by decide +kernel
theorem dX12_repeats_53 : decode cX12_repeats 53 = .ok (.invokevirtual 266, 3) := by decide +kernel
theorem dX12_repeats_56 : decode cX12_repeats 56 = .ok (.istore 4, 2) := by decide +kernel
theorem dX12_repeats_58 : decode cX12_repeats 58 = .ok (.goto (-26), 3) := by decide +kernel
theorem dX12_repeats_61 : decode cX12_repeats 61 = .ok (.aload_n 0, 1) := by decide +kernel
theorem dX12_repeats_62 : decode cX12_repeats 62 = .ok (.iconst 3, 1) := by decide +kernel
theorem dX12_repeats_63 : decode cX12_repeats 63 = .ok (.iconst 0, 1) := by decide +kernel
theorem dX12_repeats_64 : decode cX12_repeats 64 = .ok (.invokevirtual 275, 3) := by decide +kernel
theorem dX12_repeats_67 : decode cX12_repeats 67 = .ok (.iload_n 3, 1) := by decide +kernel
theorem dX12_repeats_68 : decode cX12_repeats 68 = .ok (.ireturn, 1) := by decide +kernel
theorem dX12_refusal_0 : decode cX12_refusal 0 = .ok (.aload_n 0, 1) := by decide +kernel
theorem dX12_refusal_1 : decode cX12_refusal 1 = .ok (.iconst 0, 1) := by decide +kernel
theorem dX12_refusal_2 : decode cX12_refusal 2 = .ok (.putfield 88, 3) := by decide +kernel
theorem dX12_refusal_5 : decode cX12_refusal 5 = .ok (.aload_n 0, 1) := by decide +kernel
theorem dX12_refusal_6 : decode cX12_refusal 6 = .ok (.iload_n 1, 1) := by decide +kernel
theorem dX12_refusal_7 : decode cX12_refusal 7 = .ok (.iload_n 2, 1) := by decide +kernel
theorem dX12_refusal_8 : decode cX12_refusal 8 = .ok (.invokevirtual 262, 3) := by decide +kernel
theorem dX12_refusal_11 : decode cX12_refusal 11 = .ok (.ifCond .ne 5, 3) := by decide +kernel
theorem dX12_refusal_14 : decode cX12_refusal 14 = .ok (.iconst (-1), 1) := by decide +kernel
theorem dX12_refusal_15 : decode cX12_refusal 15 = .ok (.ireturn, 1) := by decide +kernel
theorem dX12_refusal_16 : decode cX12_refusal 16 = .ok (.aload_n 0, 1) := by decide +kernel
theorem dX12_refusal_17 : decode cX12_refusal 17 = .ok (.iload_n 1, 1) := by decide +kernel
theorem dX12_refusal_18 : decode cX12_refusal 18 = .ok (.iload_n 2, 1) := by decide +kernel
theorem dX12_refusal_19 : decode cX12_refusal 19 = .ok (.invokevirtual 255, 3) := by decide +kernel
theorem dX12_refusal_22 : decode cX12_refusal 22 = .ok (.bipush (-2), 2) := by decide +kernel
theorem dX12_refusal_24 : decode cX12_refusal 24 = .ok (.if_icmp .eq 7, 3) := by decide +kernel
theorem dX12_refusal_27 : decode cX12_refusal 27 = .ok (.iconst 1, 1) := by decide +kernel
theorem dX12_refusal_28 : decode cX12_refusal 28 = .ok (.goto 19, 3) := by decide +kernel
theorem dX12_refusal_31 : decode cX12_refusal 31 = .ok (.aload_n 0, 1) := by decide +kernel
theorem dX12_refusal_32 : decode cX12_refusal 32 = .ok (.iload_n 1, 1) := by decide +kernel
theorem dX12_refusal_33 : decode cX12_refusal 33 = .ok (.iload_n 2, 1) := by decide +kernel
theorem dX12_refusal_34 : decode cX12_refusal 34 = .ok (.invokevirtual 266, 3) := by decide +kernel
theorem dX12_refusal_37 : decode cX12_refusal 37 = .ok (.bipush (-2), 2) := by decide +kernel
theorem dX12_refusal_39 : decode cX12_refusal 39 = .ok (.if_icmp .ne 7, 3) := by decide +kernel
theorem dX12_refusal_42 : decode cX12_refusal 42 = .ok (.iconst 2, 1) := by decide +kernel
theorem dX12_refusal_43 : decode cX12_refusal 43 = .ok (.goto 4, 3) := by decide +kernel
theorem dX12_refusal_46 : decode cX12_refusal 46 = .ok (.iconst 0, 1) := by decide +kernel
theorem dX12_refusal_47 : decode cX12_refusal 47 = .ok (.ireturn, 1) := by decide +kernel
theorem dX12_blockingNode_0 : decode cX12_blockingNode 0 = .ok (.aload_n 0, 1) := by decide +kernel
theorem dX12_blockingNode_1 : decode cX12_blockingNode 1 = .ok (.iconst 0, 1) := by decide +kernel
theorem dX12_blockingNode_2 : decode cX12_blockingNode 2 = .ok (.putfield 88, 3) := by decide +kernel
theorem dX12_blockingNode_5 : decode cX12_blockingNode 5 = .ok (.aload_n 0, 1) := by decide +kernel
theorem dX12_blockingNode_6 : decode cX12_blockingNode 6 = .ok (.iload_n 1, 1) := by decide +kernel
theorem dX12_blockingNode_7 : decode cX12_blockingNode 7 = .ok (.iload_n 2, 1) := by decide +kernel
theorem dX12_blockingNode_8 : decode cX12_blockingNode 8 = .ok (.invokevirtual 262, 3) := by decide +kernel
theorem dX12_blockingNode_11 : decode cX12_blockingNode 11 = .ok (.ifCond .eq 12, 3) := by decide +kernel
theorem dX12_blockingNode_14 : decode cX12_blockingNode 14 = .ok (.aload_n 0, 1) := by decide +kernel
theorem dX12_blockingNode_15 : decode cX12_blockingNode 15 = .ok (.iload_n 1, 1) := by decide +kernel
theorem dX12_blockingNode_16 : decode cX12_blockingNode 16 = .ok (.iload_n 2, 1) := by decide +kernel
theorem dX12_blockingNode_17 : decode cX12_blockingNode 17 = .ok (.invokevirtual 255, 3) := by decide +kernel
theorem dX12_blockingNode_20 : decode cX12_blockingNode 20 = .ok (.goto 4, 3) := by decide +kernel
theorem dX12_blockingNode_23 : decode cX12_blockingNode 23 = .ok (.iconst (-1), 1) := by decide +kernel
theorem dX12_blockingNode_24 : decode cX12_blockingNode 24 = .ok (.ireturn, 1) := by decide +kernel
theorem dX12_queueLength_0 : decode cX12_queueLength 0 = .ok (.aload_n 0, 1) := by decide +kernel
theorem dX12_queueLength_1 : decode cX12_queueLength 1 = .ok (.iconst 0, 1) := by decide +kernel
theorem dX12_queueLength_2 : decode cX12_queueLength 2 = .ok (.putfield 88, 3) := by decide +kernel
theorem dX12_queueLength_5 : decode cX12_queueLength 5 = .ok (.aload_n 0, 1) := by decide +kernel
theorem dX12_queueLength_6 : decode cX12_queueLength 6 = .ok (.iload_n 1, 1) := by decide +kernel
theorem dX12_queueLength_7 : decode cX12_queueLength 7 = .ok (.invokevirtual 247, 3) := by decide +kernel
theorem dX12_queueLength_10 : decode cX12_queueLength 10 = .ok (.ifCond .eq 16, 3) := by decide +kernel
theorem dX12_queueLength_13 : decode cX12_queueLength 13 = .ok (.aload_n 0, 1) := by decide +kernel
theorem dX12_queueLength_14 : decode cX12_queueLength 14 = .ok (.getfield 7, 3) := by decide +kernel
theorem dX12_queueLength_17 : decode cX12_queueLength 17 = .ok (.sipush 135, 3) := by decide +kernel
theorem dX12_queueLength_20 : decode cX12_queueLength 20 = .ok (.iload_n 1, 1) := by decide +kernel
theorem dX12_queueLength_21 : decode cX12_queueLength 21 = .ok (.iadd, 1) := by decide +kernel
theorem dX12_queueLength_22 : decode cX12_queueLength 22 = .ok (.iaload, 1) := by decide +kernel
theorem dX12_queueLength_23 : decode cX12_queueLength 23 = .ok (.goto 4, 3) := by decide +kernel
theorem dX12_queueLength_26 : decode cX12_queueLength 26 = .ok (.iconst (-1), 1) := by decide +kernel
theorem dX12_queueLength_27 : decode cX12_queueLength 27 = .ok (.ireturn, 1) := by decide +kernel
theorem dX12_isAhead_0 : decode cX12_isAhead 0 = .ok (.aload_n 0, 1) := by decide +kernel
theorem dX12_isAhead_1 : decode cX12_isAhead 1 = .ok (.iload_n 1, 1) := by decide +kernel
theorem dX12_isAhead_2 : decode cX12_isAhead 2 = .ok (.aload_n 0, 1) := by decide +kernel
theorem dX12_isAhead_3 : decode cX12_isAhead 3 = .ok (.iload_n 1, 1) := by decide +kernel
theorem dX12_isAhead_4 : decode cX12_isAhead 4 = .ok (.aload_n 0, 1) := by decide +kernel
theorem dX12_isAhead_5 : decode cX12_isAhead 5 = .ok (.getfield 7, 3) := by decide +kernel
theorem dX12_isAhead_8 : decode cX12_isAhead 8 = .ok (.iload_n 1, 1) := by decide +kernel
theorem dX12_isAhead_9 : decode cX12_isAhead 9 = .ok (.iconst 0, 1) := by decide +kernel
theorem dX12_isAhead_10 : decode cX12_isAhead 10 = .ok (.invokestatic 272, 3) := by decide +kernel
theorem dX12_isAhead_13 : decode cX12_isAhead 13 = .ok (.iconst 1, 1) := by decide +kernel
theorem dX12_isAhead_14 : decode cX12_isAhead 14 = .ok (.iadd, 1) := by decide +kernel
theorem dX12_isAhead_15 : decode cX12_isAhead 15 = .ok (.iaload, 1) := by decide +kernel
theorem dX12_isAhead_16 : decode cX12_isAhead 16 = .ok (.invokevirtual 266, 3) := by decide +kernel
theorem dX12_isAhead_19 : decode cX12_isAhead 19 = .ok (.invokevirtual 250, 3) := by decide +kernel
theorem dX12_isAhead_22 : decode cX12_isAhead 22 = .ok (.istore_n 3, 1) := by decide +kernel
theorem dX12_isAhead_23 : decode cX12_isAhead 23 = .ok (.aload_n 0, 1) := by decide +kernel
theorem dX12_isAhead_24 : decode cX12_isAhead 24 = .ok (.iload_n 2, 1) := by decide +kernel
theorem dX12_isAhead_25 : decode cX12_isAhead 25 = .ok (.aload_n 0, 1) := by decide +kernel
theorem dX12_isAhead_26 : decode cX12_isAhead 26 = .ok (.iload_n 2, 1) := by decide +kernel
theorem dX12_isAhead_27 : decode cX12_isAhead 27 = .ok (.aload_n 0, 1) := by decide +kernel
theorem dX12_isAhead_28 : decode cX12_isAhead 28 = .ok (.getfield 7, 3) := by decide +kernel
theorem dX12_isAhead_31 : decode cX12_isAhead 31 = .ok (.iload_n 2, 1) := by decide +kernel
theorem dX12_isAhead_32 : decode cX12_isAhead 32 = .ok (.iconst 0, 1) := by decide +kernel
theorem dX12_isAhead_33 : decode cX12_isAhead 33 = .ok (.invokestatic 272, 3) := by decide +kernel
theorem dX12_isAhead_36 : decode cX12_isAhead 36 = .ok (.iconst 1, 1) := by decide +kernel
theorem dX12_isAhead_37 : decode cX12_isAhead 37 = .ok (.iadd, 1) := by decide +kernel
theorem dX12_isAhead_38 : decode cX12_isAhead 38 = .ok (.iaload, 1) := by decide +kernel
theorem dX12_isAhead_39 : decode cX12_isAhead 39 = .ok (.invokevirtual 266, 3) := by decide +kernel
theorem dX12_isAhead_42 : decode cX12_isAhead 42 = .ok (.invokevirtual 250, 3) := by decide +kernel
theorem dX12_isAhead_45 : decode cX12_isAhead 45 = .ok (.istore 4, 2) := by decide +kernel
theorem dX12_isAhead_47 : decode cX12_isAhead 47 = .ok (.iload_n 3, 1) := by decide +kernel
theorem dX12_isAhead_48 : decode cX12_isAhead 48 = .ok (.iload 4, 2) := by decide +kernel
theorem dX12_isAhead_50 : decode cX12_isAhead 50 = .ok (.if_icmp .eq 15, 3) := by decide +kernel
theorem dX12_isAhead_53 : decode cX12_isAhead 53 = .ok (.iload_n 3, 1) := by decide +kernel
theorem dX12_isAhead_54 : decode cX12_isAhead 54 = .ok (.iload 4, 2) := by decide +kernel
theorem dX12_isAhead_56 : decode cX12_isAhead 56 = .ok (.if_icmp .ge 7, 3) := by decide +kernel
theorem dX12_isAhead_59 : decode cX12_isAhead 59 = .ok (.iconst 1, 1) := by decide +kernel
theorem dX12_isAhead_60 : decode cX12_isAhead 60 = .ok (.goto 4, 3) := by decide +kernel
theorem dX12_isAhead_63 : decode cX12_isAhead 63 = .ok (.iconst 0, 1) := by decide +kernel
theorem dX12_isAhead_64 : decode cX12_isAhead 64 = .ok (.ireturn, 1) := by decide +kernel
theorem dX12_isAhead_65 : decode cX12_isAhead 65 = .ok (.aload_n 0, 1) := by decide +kernel
theorem dX12_isAhead_66 : decode cX12_isAhead 66 = .ok (.getfield 40, 3) := by decide +kernel
theorem dX12_isAhead_69 : decode cX12_isAhead 69 = .ok (.iload_n 1, 1) := by decide +kernel
theorem dX12_isAhead_70 : decode cX12_isAhead 70 = .ok (.iaload, 1) := by decide +kernel
theorem dX12_isAhead_71 : decode cX12_isAhead 71 = .ok (.aload_n 0, 1) := by decide +kernel
theorem dX12_isAhead_72 : decode cX12_isAhead 72 = .ok (.getfield 40, 3) := by decide +kernel
theorem dX12_isAhead_75 : decode cX12_isAhead 75 = .ok (.iload_n 2, 1) := by decide +kernel
theorem dX12_isAhead_76 : decode cX12_isAhead 76 = .ok (.iaload, 1) := by decide +kernel
theorem dX12_isAhead_77 : decode cX12_isAhead 77 = .ok (.if_icmp .eq 24, 3) := by decide +kernel
theorem dX12_isAhead_80 : decode cX12_isAhead 80 = .ok (.aload_n 0, 1) := by decide +kernel
theorem dX12_isAhead_81 : decode cX12_isAhead 81 = .ok (.getfield 40, 3) := by decide +kernel
theorem dX12_isAhead_84 : decode cX12_isAhead 84 = .ok (.iload_n 1, 1) := by decide +kernel
theorem dX12_isAhead_85 : decode cX12_isAhead 85 = .ok (.iaload, 1) := by decide +kernel
theorem dX12_isAhead_86 : decode cX12_isAhead 86 = .ok (.aload_n 0, 1) := by decide +kernel
theorem dX12_isAhead_87 : decode cX12_isAhead 87 = .ok (.getfield 40, 3) := by decide +kernel
theorem dX12_isAhead_90 : decode cX12_isAhead 90 = .ok (.iload_n 2, 1) := by decide +kernel
theorem dX12_isAhead_91 : decode cX12_isAhead 91 = .ok (.iaload, 1) := by decide +kernel
theorem dX12_isAhead_92 : decode cX12_isAhead 92 = .ok (.if_icmp .ge 7, 3) := by decide +kernel
theorem dX12_isAhead_95 : decode cX12_isAhead 95 = .ok (.iconst 1, 1) := by decide +kernel
theorem dX12_isAhead_96 : decode cX12_isAhead 96 = .ok (.goto 4, 3) := by decide +kernel
theorem dX12_isAhead_99 : decode cX12_isAhead 99 = .ok (.iconst 0, 1) := by decide +kernel
theorem dX12_isAhead_100 : decode cX12_isAhead 100 = .ok (.ireturn, 1) := by decide +kernel
theorem dX12_isAhead_101 : decode cX12_isAhead 101 = .ok (.aload_n 0, 1) := by decide +kernel
theorem dX12_isAhead_102 : decode cX12_isAhead 102 = .ok (.getfield 7, 3) := by decide +kernel
theorem dX12_isAhead_105 : decode cX12_isAhead 105 = .ok (.bipush 39, 2) := by decide +kernel
theorem dX12_isAhead_107 : decode cX12_isAhead 107 = .ok (.iload_n 1, 1) := by decide +kernel
theorem dX12_isAhead_108 : decode cX12_isAhead 108 = .ok (.iadd, 1) := by decide +kernel
theorem dX12_isAhead_109 : decode cX12_isAhead 109 = .ok (.iaload, 1) := by decide +kernel
theorem dX12_isAhead_110 : decode cX12_isAhead 110 = .ok (.i2l, 1) := by decide +kernel
theorem dX12_isAhead_111 : decode cX12_isAhead 111 = .ok (.aload_n 0, 1) := by decide +kernel
theorem dX12_isAhead_112 : decode cX12_isAhead 112 = .ok (.getfield 7, 3) := by decide +kernel
theorem dX12_isAhead_115 : decode cX12_isAhead 115 = .ok (.bipush 123, 2) := by decide +kernel
theorem dX12_isAhead_117 : decode cX12_isAhead 117 = .ok (.iload_n 2, 1) := by decide +kernel
theorem dX12_isAhead_118 : decode cX12_isAhead 118 = .ok (.iadd, 1) := by decide +kernel
theorem dX12_isAhead_119 : decode cX12_isAhead 119 = .ok (.iaload, 1) := by decide +kernel
theorem dX12_isAhead_120 : decode cX12_isAhead 120 = .ok (.i2l, 1) := by decide +kernel
theorem dX12_isAhead_121 : decode cX12_isAhead 121 = .ok (.lmul, 1) := by decide +kernel
theorem dX12_isAhead_122 : decode cX12_isAhead 122 = .ok (.aload_n 0, 1) := by decide +kernel
theorem dX12_isAhead_123 : decode cX12_isAhead 123 = .ok (.getfield 7, 3) := by decide +kernel
theorem dX12_isAhead_126 : decode cX12_isAhead 126 = .ok (.bipush 39, 2) := by decide +kernel
theorem dX12_isAhead_128 : decode cX12_isAhead 128 = .ok (.iload_n 2, 1) := by decide +kernel
theorem dX12_isAhead_129 : decode cX12_isAhead 129 = .ok (.iadd, 1) := by decide +kernel
theorem dX12_isAhead_130 : decode cX12_isAhead 130 = .ok (.iaload, 1) := by decide +kernel
theorem dX12_isAhead_131 : decode cX12_isAhead 131 = .ok (.i2l, 1) := by decide +kernel
theorem dX12_isAhead_132 : decode cX12_isAhead 132 = .ok (.aload_n 0, 1) := by decide +kernel
theorem dX12_isAhead_133 : decode cX12_isAhead 133 = .ok (.getfield 7, 3) := by decide +kernel
theorem dX12_isAhead_136 : decode cX12_isAhead 136 = .ok (.bipush 123, 2) := by decide +kernel
theorem dX12_isAhead_138 : decode cX12_isAhead 138 = .ok (.iload_n 1, 1) := by decide +kernel
theorem dX12_isAhead_139 : decode cX12_isAhead 139 = .ok (.iadd, 1) := by decide +kernel
theorem dX12_isAhead_140 : decode cX12_isAhead 140 = .ok (.iaload, 1) := by decide +kernel
theorem dX12_isAhead_141 : decode cX12_isAhead 141 = .ok (.i2l, 1) := by decide +kernel
theorem dX12_isAhead_142 : decode cX12_isAhead 142 = .ok (.lmul, 1) := by decide +kernel
theorem dX12_isAhead_143 : decode cX12_isAhead 143 = .ok (.lcmp, 1) := by decide +kernel
theorem dX12_isAhead_144 : decode cX12_isAhead 144 = .ok (.ifCond .ge 7, 3) := by decide +kernel
theorem dX12_isAhead_147 : decode cX12_isAhead 147 = .ok (.iconst 1, 1) := by decide +kernel
theorem dX12_isAhead_148 : decode cX12_isAhead 148 = .ok (.goto 4, 3) := by decide +kernel
theorem dX12_isAhead_151 : decode cX12_isAhead 151 = .ok (.iconst 0, 1) := by decide +kernel
theorem dX12_isAhead_152 : decode cX12_isAhead 152 = .ok (.ireturn, 1) := by decide +kernel
theorem dX12_chosen_0 : decode cX12_chosen 0 = .ok (.bipush (-2), 2) := by decide +kernel
theorem dX12_chosen_2 : decode cX12_chosen 2 = .ok (.istore_n 1, 1) := by decide +kernel
theorem dX12_chosen_3 : decode cX12_chosen 3 = .ok (.iconst 0, 1) := by decide +kernel
theorem dX12_chosen_4 : decode cX12_chosen 4 = .ok (.istore_n 2, 1) := by decide +kernel
theorem dX12_chosen_5 : decode cX12_chosen 5 = .ok (.iload_n 2, 1) := by decide +kernel
theorem dX12_chosen_6 : decode cX12_chosen 6 = .ok (.aload_n 0, 1) := by decide +kernel
theorem dX12_chosen_7 : decode cX12_chosen 7 = .ok (.getfield 91, 3) := by decide +kernel
theorem dX12_chosen_10 : decode cX12_chosen 10 = .ok (.if_icmp .ge 76, 3) := by decide +kernel
theorem dX12_chosen_13 : decode cX12_chosen 13 = .ok (.aload_n 0, 1) := by decide +kernel
theorem dX12_chosen_14 : decode cX12_chosen 14 = .ok (.iload_n 2, 1) := by decide +kernel
theorem dX12_chosen_15 : decode cX12_chosen 15 = .ok (.invokevirtual 247, 3) := by decide +kernel
theorem dX12_chosen_18 : decode cX12_chosen 18 = .ok (.ifCond .eq 62, 3) := by decide +kernel
theorem dX12_chosen_21 : decode cX12_chosen 21 = .ok (.aload_n 0, 1) := by decide +kernel
theorem dX12_chosen_22 : decode cX12_chosen 22 = .ok (.getfield 7, 3) := by decide +kernel
theorem dX12_chosen_25 : decode cX12_chosen 25 = .ok (.sipush 135, 3) := by decide +kernel
theorem dX12_chosen_28 : decode cX12_chosen 28 = .ok (.iload_n 2, 1) := by decide +kernel
theorem dX12_chosen_29 : decode cX12_chosen 29 = .ok (.iadd, 1) := by decide +kernel
theorem dX12_chosen_30 : decode cX12_chosen 30 = .ok (.iaload, 1) := by decide +kernel
theorem dX12_chosen_31 : decode cX12_chosen 31 = .ok (.ifCond .eq 49, 3) := by decide +kernel
theorem dX12_chosen_34 : decode cX12_chosen 34 = .ok (.aload_n 0, 1) := by decide +kernel
theorem dX12_chosen_35 : decode cX12_chosen 35 = .ok (.iload_n 2, 1) := by decide +kernel
theorem dX12_chosen_36 : decode cX12_chosen 36 = .ok (.aload_n 0, 1) := by decide +kernel
theorem dX12_chosen_37 : decode cX12_chosen 37 = .ok (.getfield 7, 3) := by decide +kernel
theorem dX12_chosen_40 : decode cX12_chosen 40 = .ok (.iload_n 2, 1) := by decide +kernel
theorem dX12_chosen_41 : decode cX12_chosen 41 = .ok (.iconst 0, 1) := by decide +kernel
theorem dX12_chosen_42 : decode cX12_chosen 42 = .ok (.invokestatic 272, 3) := by decide +kernel
theorem dX12_chosen_45 : decode cX12_chosen 45 = .ok (.iconst 1, 1) := by decide +kernel
theorem dX12_chosen_46 : decode cX12_chosen 46 = .ok (.iadd, 1) := by decide +kernel
theorem dX12_chosen_47 : decode cX12_chosen 47 = .ok (.iaload, 1) := by decide +kernel
theorem dX12_chosen_48 : decode cX12_chosen 48 = .ok (.invokevirtual 266, 3) := by decide +kernel
theorem dX12_chosen_51 : decode cX12_chosen 51 = .ok (.bipush (-2), 2) := by decide +kernel
theorem dX12_chosen_53 : decode cX12_chosen 53 = .ok (.if_icmp .ne 6, 3) := by decide +kernel
theorem dX12_chosen_56 : decode cX12_chosen 56 = .ok (.goto 24, 3) := by decide +kernel
theorem dX12_chosen_59 : decode cX12_chosen 59 = .ok (.iload_n 1, 1) := by decide +kernel
theorem dX12_chosen_60 : decode cX12_chosen 60 = .ok (.bipush (-2), 2) := by decide +kernel
theorem dX12_chosen_62 : decode cX12_chosen 62 = .ok (.if_icmp .eq 12, 3) := by decide +kernel
theorem dX12_chosen_65 : decode cX12_chosen 65 = .ok (.aload_n 0, 1) := by decide +kernel
theorem dX12_chosen_66 : decode cX12_chosen 66 = .ok (.iload_n 2, 1) := by decide +kernel
theorem dX12_chosen_67 : decode cX12_chosen 67 = .ok (.iload_n 1, 1) := by decide +kernel
theorem dX12_chosen_68 : decode cX12_chosen 68 = .ok (.invokevirtual 282, 3) := by decide +kernel
theorem dX12_chosen_71 : decode cX12_chosen 71 = .ok (.ifCond .eq 7, 3) := by decide +kernel
theorem dX12_chosen_74 : decode cX12_chosen 74 = .ok (.iload_n 2, 1) := by decide +kernel
theorem dX12_chosen_75 : decode cX12_chosen 75 = .ok (.goto 4, 3) := by decide +kernel
theorem dX12_chosen_78 : decode cX12_chosen 78 = .ok (.iload_n 1, 1) := by decide +kernel
theorem dX12_chosen_79 : decode cX12_chosen 79 = .ok (.istore_n 1, 1) := by decide +kernel
theorem dX12_chosen_80 : decode cX12_chosen 80 = .ok (.iinc 2 1, 3) := by decide +kernel
theorem dX12_chosen_83 : decode cX12_chosen 83 = .ok (.goto (-78), 3) := by decide +kernel
theorem dX12_chosen_86 : decode cX12_chosen 86 = .ok (.iload_n 1, 1) := by decide +kernel
theorem dX12_chosen_87 : decode cX12_chosen 87 = .ok (.ireturn, 1) := by decide +kernel
theorem dX12_nextLeaf_0 : decode cX12_nextLeaf 0 = .ok (.aload_n 0, 1) := by decide +kernel
theorem dX12_nextLeaf_1 : decode cX12_nextLeaf 1 = .ok (.iconst 0, 1) := by decide +kernel
theorem dX12_nextLeaf_2 : decode cX12_nextLeaf 2 = .ok (.putfield 88, 3) := by decide +kernel
theorem dX12_nextLeaf_5 : decode cX12_nextLeaf 5 = .ok (.aload_n 0, 1) := by decide +kernel
theorem dX12_nextLeaf_6 : decode cX12_nextLeaf 6 = .ok (.invokevirtual 285, 3) := by decide +kernel
theorem dX12_nextLeaf_9 : decode cX12_nextLeaf 9 = .ok (.ireturn, 1) := by decide +kernel
theorem dX12_queuedCost_0 : decode cX12_queuedCost 0 = .ok (.aload_n 0, 1) := by decide +kernel
theorem dX12_queuedCost_1 : decode cX12_queuedCost 1 = .ok (.iconst 0, 1) := by decide +kernel
theorem dX12_queuedCost_2 : decode cX12_queuedCost 2 = .ok (.putfield 88, 3) := by decide +kernel
theorem dX12_queuedCost_5 : decode cX12_queuedCost 5 = .ok (.aload_n 0, 1) := by decide +kernel
theorem dX12_queuedCost_6 : decode cX12_queuedCost 6 = .ok (.iload_n 1, 1) := by decide +kernel
theorem dX12_queuedCost_7 : decode cX12_queuedCost 7 = .ok (.invokevirtual 247, 3) := by decide +kernel
theorem dX12_queuedCost_10 : decode cX12_queuedCost 10 = .ok (.ifCond .ne 5, 3) := by decide +kernel
theorem dX12_queuedCost_13 : decode cX12_queuedCost 13 = .ok (.iconst (-1), 1) := by decide +kernel
theorem dX12_queuedCost_14 : decode cX12_queuedCost 14 = .ok (.ireturn, 1) := by decide +kernel
theorem dX12_queuedCost_15 : decode cX12_queuedCost 15 = .ok (.iconst 0, 1) := by decide +kernel
theorem dX12_queuedCost_16 : decode cX12_queuedCost 16 = .ok (.istore_n 2, 1) := by decide +kernel
theorem dX12_queuedCost_17 : decode cX12_queuedCost 17 = .ok (.iconst 0, 1) := by decide +kernel
theorem dX12_queuedCost_18 : decode cX12_queuedCost 18 = .ok (.istore_n 3, 1) := by decide +kernel
theorem dX12_queuedCost_19 : decode cX12_queuedCost 19 = .ok (.iload_n 3, 1) := by decide +kernel
theorem dX12_queuedCost_20 : decode cX12_queuedCost 20 = .ok (.aload_n 0, 1) := by decide +kernel
theorem dX12_queuedCost_21 : decode cX12_queuedCost 21 = .ok (.getfield 7, 3) := by decide +kernel
theorem dX12_queuedCost_24 : decode cX12_queuedCost 24 = .ok (.sipush 135, 3) := by decide +kernel
theorem dX12_queuedCost_27 : decode cX12_queuedCost 27 = .ok (.iload_n 1, 1) := by decide +kernel
theorem dX12_queuedCost_28 : decode cX12_queuedCost 28 = .ok (.iadd, 1) := by decide +kernel
theorem dX12_queuedCost_29 : decode cX12_queuedCost 29 = .ok (.iaload, 1) := by decide +kernel
theorem dX12_queuedCost_30 : decode cX12_queuedCost 30 = .ok (.if_icmp .ge 24, 3) := by decide +kernel
theorem dX12_queuedCost_33 : decode cX12_queuedCost 33 = .ok (.iload_n 2, 1) := by decide +kernel
theorem dX12_queuedCost_34 : decode cX12_queuedCost 34 = .ok (.aload_n 0, 1) := by decide +kernel
theorem dX12_queuedCost_35 : decode cX12_queuedCost 35 = .ok (.getfield 7, 3) := by decide +kernel
theorem dX12_queuedCost_38 : decode cX12_queuedCost 38 = .ok (.iload_n 1, 1) := by decide +kernel
theorem dX12_queuedCost_39 : decode cX12_queuedCost 39 = .ok (.iload_n 3, 1) := by decide +kernel
theorem dX12_queuedCost_40 : decode cX12_queuedCost 40 = .ok (.invokestatic 272, 3) := by decide +kernel
theorem dX12_queuedCost_43 : decode cX12_queuedCost 43 = .ok (.iconst 1, 1) := by decide +kernel
theorem dX12_queuedCost_44 : decode cX12_queuedCost 44 = .ok (.iadd, 1) := by decide +kernel
theorem dX12_queuedCost_45 : decode cX12_queuedCost 45 = .ok (.iaload, 1) := by decide +kernel
theorem dX12_queuedCost_46 : decode cX12_queuedCost 46 = .ok (.iadd, 1) := by decide +kernel
theorem dX12_queuedCost_47 : decode cX12_queuedCost 47 = .ok (.istore_n 2, 1) := by decide +kernel
theorem dX12_queuedCost_48 : decode cX12_queuedCost 48 = .ok (.iinc 3 1, 3) := by decide +kernel
theorem dX12_queuedCost_51 : decode cX12_queuedCost 51 = .ok (.goto (-32), 3) := by decide +kernel
theorem dX12_queuedCost_54 : decode cX12_queuedCost 54 = .ok (.iload_n 2, 1) := by decide +kernel
theorem dX12_queuedCost_55 : decode cX12_queuedCost 55 = .ok (.ireturn, 1) := by decide +kernel
theorem dX12_queued_0 : decode cX12_queued 0 = .ok (.aload_n 0, 1) := by decide +kernel
theorem dX12_queued_1 : decode cX12_queued 1 = .ok (.iload_n 1, 1) := by decide +kernel
theorem dX12_queued_2 : decode cX12_queued 2 = .ok (.invokevirtual 247, 3) := by decide +kernel
theorem dX12_queued_5 : decode cX12_queued 5 = .ok (.ifCond .eq 7, 3) := by decide +kernel
theorem dX12_queued_8 : decode cX12_queued 8 = .ok (.iload_n 2, 1) := by decide +kernel
theorem dX12_queued_9 : decode cX12_queued 9 = .ok (.ifCond .ge 5, 3) := by decide +kernel
theorem dX12_queued_12 : decode cX12_queued 12 = .ok (.iconst (-1), 1) := by decide +kernel
theorem dX12_queued_13 : decode cX12_queued 13 = .ok (.ireturn, 1) := by decide +kernel
theorem dX12_queued_14 : decode cX12_queued 14 = .ok (.iload_n 2, 1) := by decide +kernel
theorem dX12_queued_15 : decode cX12_queued 15 = .ok (.aload_n 0, 1) := by decide +kernel
theorem dX12_queued_16 : decode cX12_queued 16 = .ok (.getfield 7, 3) := by decide +kernel
theorem dX12_queued_19 : decode cX12_queued 19 = .ok (.sipush 135, 3) := by decide +kernel
theorem dX12_queued_22 : decode cX12_queued 22 = .ok (.iload_n 1, 1) := by decide +kernel
theorem dX12_queued_23 : decode cX12_queued 23 = .ok (.iadd, 1) := by decide +kernel
theorem dX12_queued_24 : decode cX12_queued 24 = .ok (.iaload, 1) := by decide +kernel
theorem dX12_queued_25 : decode cX12_queued 25 = .ok (.if_icmp .ge 18, 3) := by decide +kernel
theorem dX12_queued_28 : decode cX12_queued 28 = .ok (.aload_n 0, 1) := by decide +kernel
theorem dX12_queued_29 : decode cX12_queued 29 = .ok (.getfield 7, 3) := by decide +kernel
theorem dX12_queued_32 : decode cX12_queued 32 = .ok (.iload_n 1, 1) := by decide +kernel
theorem dX12_queued_33 : decode cX12_queued 33 = .ok (.iload_n 2, 1) := by decide +kernel
theorem dX12_queued_34 : decode cX12_queued 34 = .ok (.invokestatic 272, 3) := by decide +kernel
theorem dX12_queued_37 : decode cX12_queued 37 = .ok (.iload_n 3, 1) := by decide +kernel
theorem dX12_queued_38 : decode cX12_queued 38 = .ok (.iadd, 1) := by decide +kernel
theorem dX12_queued_39 : decode cX12_queued 39 = .ok (.iaload, 1) := by decide +kernel
theorem dX12_queued_40 : decode cX12_queued 40 = .ok (.goto 5, 3) := by decide +kernel
theorem dX12_queued_43 : decode cX12_queued 43 = .ok (.bipush (-2), 2) := by decide +kernel
theorem dX12_queued_45 : decode cX12_queued 45 = .ok (.ireturn, 1) := by decide +kernel
theorem dX12_requestAt_0 : decode cX12_requestAt 0 = .ok (.aload_n 0, 1) := by decide +kernel
theorem dX12_requestAt_1 : decode cX12_requestAt 1 = .ok (.iconst 0, 1) := by decide +kernel
theorem dX12_requestAt_2 : decode cX12_requestAt 2 = .ok (.putfield 88, 3) := by decide +kernel
theorem dX12_requestAt_5 : decode cX12_requestAt 5 = .ok (.aload_n 0, 1) := by decide +kernel
theorem dX12_requestAt_6 : decode cX12_requestAt 6 = .ok (.iload_n 1, 1) := by decide +kernel
theorem dX12_requestAt_7 : decode cX12_requestAt 7 = .ok (.iload_n 2, 1) := by decide +kernel
theorem dX12_requestAt_8 : decode cX12_requestAt 8 = .ok (.iconst 0, 1) := by decide +kernel
theorem dX12_requestAt_9 : decode cX12_requestAt 9 = .ok (.invokevirtual 288, 3) := by decide +kernel
theorem dX12_requestAt_12 : decode cX12_requestAt 12 = .ok (.ireturn, 1) := by decide +kernel
theorem dX12_costAt_0 : decode cX12_costAt 0 = .ok (.aload_n 0, 1) := by decide +kernel
theorem dX12_costAt_1 : decode cX12_costAt 1 = .ok (.iconst 0, 1) := by decide +kernel
theorem dX12_costAt_2 : decode cX12_costAt 2 = .ok (.putfield 88, 3) := by decide +kernel
theorem dX12_costAt_5 : decode cX12_costAt 5 = .ok (.aload_n 0, 1) := by decide +kernel
theorem dX12_costAt_6 : decode cX12_costAt 6 = .ok (.iload_n 1, 1) := by decide +kernel
theorem dX12_costAt_7 : decode cX12_costAt 7 = .ok (.iload_n 2, 1) := by decide +kernel
theorem dX12_costAt_8 : decode cX12_costAt 8 = .ok (.iconst 1, 1) := by decide +kernel
theorem dX12_costAt_9 : decode cX12_costAt 9 = .ok (.invokevirtual 288, 3) := by decide +kernel
theorem dX12_costAt_12 : decode cX12_costAt 12 = .ok (.ireturn, 1) := by decide +kernel
theorem dX12_ageAt_0 : decode cX12_ageAt 0 = .ok (.aload_n 0, 1) := by decide +kernel
theorem dX12_ageAt_1 : decode cX12_ageAt 1 = .ok (.iconst 0, 1) := by decide +kernel
theorem dX12_ageAt_2 : decode cX12_ageAt 2 = .ok (.putfield 88, 3) := by decide +kernel
theorem dX12_ageAt_5 : decode cX12_ageAt 5 = .ok (.aload_n 0, 1) := by decide +kernel
theorem dX12_ageAt_6 : decode cX12_ageAt 6 = .ok (.iload_n 1, 1) := by decide +kernel
theorem dX12_ageAt_7 : decode cX12_ageAt 7 = .ok (.iload_n 2, 1) := by decide +kernel
theorem dX12_ageAt_8 : decode cX12_ageAt 8 = .ok (.iconst 2, 1) := by decide +kernel
theorem dX12_ageAt_9 : decode cX12_ageAt 9 = .ok (.invokevirtual 288, 3) := by decide +kernel
theorem dX12_ageAt_12 : decode cX12_ageAt 12 = .ok (.istore_n 3, 1) := by decide +kernel
theorem dX12_ageAt_13 : decode cX12_ageAt 13 = .ok (.iload_n 3, 1) := by decide +kernel
theorem dX12_ageAt_14 : decode cX12_ageAt 14 = .ok (.ifCond .ge 7, 3) := by decide +kernel
theorem dX12_ageAt_17 : decode cX12_ageAt 17 = .ok (.iload_n 3, 1) := by decide +kernel
theorem dX12_ageAt_18 : decode cX12_ageAt 18 = .ok (.goto 11, 3) := by decide +kernel
theorem dX12_ageAt_21 : decode cX12_ageAt 21 = .ok (.aload_n 0, 1) := by decide +kernel
theorem dX12_ageAt_22 : decode cX12_ageAt 22 = .ok (.getfield 7, 3) := by decide +kernel
theorem dX12_ageAt_25 : decode cX12_ageAt 25 = .ok (.iconst 0, 1) := by decide +kernel
theorem dX12_ageAt_26 : decode cX12_ageAt 26 = .ok (.iaload, 1) := by decide +kernel
theorem dX12_ageAt_27 : decode cX12_ageAt 27 = .ok (.iload_n 3, 1) := by decide +kernel
theorem dX12_ageAt_28 : decode cX12_ageAt 28 = .ok (.isub, 1) := by decide +kernel
theorem dX12_ageAt_29 : decode cX12_ageAt 29 = .ok (.ireturn, 1) := by decide +kernel
theorem dX12_shifts_0 : decode cX12_shifts 0 = .ok (.aload_n 0, 1) := by decide +kernel
theorem dX12_shifts_1 : decode cX12_shifts 1 = .ok (.getfield 7, 3) := by decide +kernel
theorem dX12_shifts_4 : decode cX12_shifts 4 = .ok (.sipush 135, 3) := by decide +kernel
theorem dX12_shifts_7 : decode cX12_shifts 7 = .ok (.iload_n 1, 1) := by decide +kernel
theorem dX12_shifts_8 : decode cX12_shifts 8 = .ok (.iadd, 1) := by decide +kernel
theorem dX12_shifts_9 : decode cX12_shifts 9 = .ok (.dup2, 1) := by decide +kernel
theorem dX12_shifts_10 : decode cX12_shifts 10 = .ok (.iaload, 1) := by decide +kernel
theorem dX12_shifts_11 : decode cX12_shifts 11 = .ok (.iconst 1, 1) := by decide +kernel
theorem dX12_shifts_12 : decode cX12_shifts 12 = .ok (.isub, 1) := by decide +kernel
theorem dX12_shifts_13 : decode cX12_shifts 13 = .ok (.iastore, 1) := by decide +kernel
theorem dX12_shifts_14 : decode cX12_shifts 14 = .ok (.iconst 0, 1) := by decide +kernel
theorem dX12_shifts_15 : decode cX12_shifts 15 = .ok (.istore_n 2, 1) := by decide +kernel
theorem dX12_shifts_16 : decode cX12_shifts 16 = .ok (.iload_n 2, 1) := by decide +kernel
theorem dX12_shifts_17 : decode cX12_shifts 17 = .ok (.aload_n 0, 1) := by decide +kernel
theorem dX12_shifts_18 : decode cX12_shifts 18 = .ok (.getfield 7, 3) := by decide +kernel
theorem dX12_shifts_21 : decode cX12_shifts 21 = .ok (.sipush 135, 3) := by decide +kernel
theorem dX12_shifts_24 : decode cX12_shifts 24 = .ok (.iload_n 1, 1) := by decide +kernel
theorem dX12_shifts_25 : decode cX12_shifts 25 = .ok (.iadd, 1) := by decide +kernel
theorem dX12_shifts_26 : decode cX12_shifts 26 = .ok (.iaload, 1) := by decide +kernel
theorem dX12_shifts_27 : decode cX12_shifts 27 = .ok (.if_icmp .ge 48, 3) := by decide +kernel
theorem dX12_shifts_30 : decode cX12_shifts 30 = .ok (.iconst 0, 1) := by decide +kernel
theorem dX12_shifts_31 : decode cX12_shifts 31 = .ok (.istore_n 3, 1) := by decide +kernel
theorem dX12_shifts_32 : decode cX12_shifts 32 = .ok (.iload_n 3, 1) := by decide +kernel
theorem dX12_shifts_33 : decode cX12_shifts 33 = .ok (.iconst 3, 1) := by decide +kernel
theorem dX12_shifts_34 : decode cX12_shifts 34 = .ok (.if_icmp .ge 35, 3) := by decide +kernel
theorem dX12_shifts_37 : decode cX12_shifts 37 = .ok (.aload_n 0, 1) := by decide +kernel
theorem dX12_shifts_38 : decode cX12_shifts 38 = .ok (.getfield 7, 3) := by decide +kernel
theorem dX12_shifts_41 : decode cX12_shifts 41 = .ok (.iload_n 1, 1) := by decide +kernel
theorem dX12_shifts_42 : decode cX12_shifts 42 = .ok (.iload_n 2, 1) := by decide +kernel
theorem dX12_shifts_43 : decode cX12_shifts 43 = .ok (.invokestatic 272, 3) := by decide +kernel
theorem dX12_shifts_46 : decode cX12_shifts 46 = .ok (.iload_n 3, 1) := by decide +kernel
theorem dX12_shifts_47 : decode cX12_shifts 47 = .ok (.iadd, 1) := by decide +kernel
theorem dX12_shifts_48 : decode cX12_shifts 48 = .ok (.aload_n 0, 1) := by decide +kernel
theorem dX12_shifts_49 : decode cX12_shifts 49 = .ok (.getfield 7, 3) := by decide +kernel
theorem dX12_shifts_52 : decode cX12_shifts 52 = .ok (.iload_n 1, 1) := by decide +kernel
theorem dX12_shifts_53 : decode cX12_shifts 53 = .ok (.iload_n 2, 1) := by decide +kernel
theorem dX12_shifts_54 : decode cX12_shifts 54 = .ok (.iconst 1, 1) := by decide +kernel
theorem dX12_shifts_55 : decode cX12_shifts 55 = .ok (.iadd, 1) := by decide +kernel
theorem dX12_shifts_56 : decode cX12_shifts 56 = .ok (.invokestatic 272, 3) := by decide +kernel
theorem dX12_shifts_59 : decode cX12_shifts 59 = .ok (.iload_n 3, 1) := by decide +kernel
theorem dX12_shifts_60 : decode cX12_shifts 60 = .ok (.iadd, 1) := by decide +kernel
theorem dX12_shifts_61 : decode cX12_shifts 61 = .ok (.iaload, 1) := by decide +kernel
theorem dX12_shifts_62 : decode cX12_shifts 62 = .ok (.iastore, 1) := by decide +kernel
theorem dX12_shifts_63 : decode cX12_shifts 63 = .ok (.iinc 3 1, 3) := by decide +kernel
theorem dX12_shifts_66 : decode cX12_shifts 66 = .ok (.goto (-34), 3) := by decide +kernel
theorem dX12_shifts_69 : decode cX12_shifts 69 = .ok (.iinc 2 1, 3) := by decide +kernel
theorem dX12_shifts_72 : decode cX12_shifts 72 = .ok (.goto (-56), 3) := by decide +kernel
theorem dX12_shifts_75 : decode cX12_shifts 75 = .ok (.return_, 1) := by decide +kernel
theorem dX12_drops_0 : decode cX12_drops 0 = .ok (.iconst 0, 1) := by decide +kernel
theorem dX12_drops_1 : decode cX12_drops 1 = .ok (.istore_n 1, 1) := by decide +kernel
theorem dX12_drops_2 : decode cX12_drops 2 = .ok (.iload_n 1, 1) := by decide +kernel
theorem dX12_drops_3 : decode cX12_drops 3 = .ok (.aload_n 0, 1) := by decide +kernel
theorem dX12_drops_4 : decode cX12_drops 4 = .ok (.getfield 91, 3) := by decide +kernel
theorem dX12_drops_7 : decode cX12_drops 7 = .ok (.if_icmp .ge 76, 3) := by decide +kernel
theorem dX12_drops_10 : decode cX12_drops 10 = .ok (.aload_n 0, 1) := by decide +kernel
theorem dX12_drops_11 : decode cX12_drops 11 = .ok (.getfield 21, 3) := by decide +kernel
theorem dX12_drops_14 : decode cX12_drops 14 = .ok (.ifCond .lt 69, 3) := by decide +kernel
theorem dX12_drops_17 : decode cX12_drops 17 = .ok (.aload_n 0, 1) := by decide +kernel
theorem dX12_drops_18 : decode cX12_drops 18 = .ok (.getfield 7, 3) := by decide +kernel
theorem dX12_drops_21 : decode cX12_drops 21 = .ok (.sipush 135, 3) := by decide +kernel
theorem dX12_drops_24 : decode cX12_drops 24 = .ok (.iload_n 1, 1) := by decide +kernel
theorem dX12_drops_25 : decode cX12_drops 25 = .ok (.iadd, 1) := by decide +kernel
theorem dX12_drops_26 : decode cX12_drops 26 = .ok (.iaload, 1) := by decide +kernel
theorem dX12_drops_27 : decode cX12_drops 27 = .ok (.ifCond .le 50, 3) := by decide +kernel
theorem dX12_drops_30 : decode cX12_drops 30 = .ok (.aload_n 0, 1) := by decide +kernel
theorem dX12_drops_31 : decode cX12_drops 31 = .ok (.getfield 7, 3) := by decide +kernel
theorem dX12_drops_34 : decode cX12_drops 34 = .ok (.iconst 0, 1) := by decide +kernel
theorem dX12_drops_35 : decode cX12_drops 35 = .ok (.iaload, 1) := by decide +kernel
theorem dX12_drops_36 : decode cX12_drops 36 = .ok (.aload_n 0, 1) := by decide +kernel
theorem dX12_drops_37 : decode cX12_drops 37 = .ok (.getfield 7, 3) := by decide +kernel
theorem dX12_drops_40 : decode cX12_drops 40 = .ok (.iload_n 1, 1) := by decide +kernel
theorem dX12_drops_41 : decode cX12_drops 41 = .ok (.iconst 0, 1) := by decide +kernel
theorem dX12_drops_42 : decode cX12_drops 42 = .ok (.invokestatic 272, 3) := by decide +kernel
theorem dX12_drops_45 : decode cX12_drops 45 = .ok (.iconst 2, 1) := by decide +kernel
theorem dX12_drops_46 : decode cX12_drops 46 = .ok (.iadd, 1) := by decide +kernel
theorem dX12_drops_47 : decode cX12_drops 47 = .ok (.iaload, 1) := by decide +kernel
theorem dX12_drops_48 : decode cX12_drops 48 = .ok (.isub, 1) := by decide +kernel
theorem dX12_drops_49 : decode cX12_drops 49 = .ok (.aload_n 0, 1) := by decide +kernel
theorem dX12_drops_50 : decode cX12_drops 50 = .ok (.getfield 21, 3) := by decide +kernel
theorem dX12_drops_53 : decode cX12_drops 53 = .ok (.if_icmp .le 24, 3) := by decide +kernel
theorem dX12_drops_56 : decode cX12_drops 56 = .ok (.aload_n 0, 1) := by decide +kernel
theorem dX12_drops_57 : decode cX12_drops 57 = .ok (.iload_n 1, 1) := by decide +kernel
theorem dX12_drops_58 : decode cX12_drops 58 = .ok (.invokevirtual 292, 3) := by decide +kernel
theorem dX12_drops_61 : decode cX12_drops 61 = .ok (.aload_n 0, 1) := by decide +kernel
theorem dX12_drops_62 : decode cX12_drops 62 = .ok (.getfield 7, 3) := by decide +kernel
theorem dX12_drops_65 : decode cX12_drops 65 = .ok (.bipush 87, 2) := by decide +kernel
theorem dX12_drops_67 : decode cX12_drops 67 = .ok (.iload_n 1, 1) := by decide +kernel
theorem dX12_drops_68 : decode cX12_drops 68 = .ok (.iadd, 1) := by decide +kernel
theorem dX12_drops_69 : decode cX12_drops 69 = .ok (.dup2, 1) := by decide +kernel
theorem dX12_drops_70 : decode cX12_drops 70 = .ok (.iaload, 1) := by decide +kernel
theorem dX12_drops_71 : decode cX12_drops 71 = .ok (.iconst 1, 1) := by decide +kernel
theorem dX12_drops_72 : decode cX12_drops 72 = .ok (.iadd, 1) := by decide +kernel
theorem dX12_drops_73 : decode cX12_drops 73 = .ok (.iastore, 1) := by decide +kernel
theorem dX12_drops_74 : decode cX12_drops 74 = .ok (.goto (-57), 3) := by decide +kernel
theorem dX12_drops_77 : decode cX12_drops 77 = .ok (.iinc 1 1, 3) := by decide +kernel
theorem dX12_drops_80 : decode cX12_drops 80 = .ok (.goto (-78), 3) := by decide +kernel
theorem dX12_drops_83 : decode cX12_drops 83 = .ok (.return_, 1) := by decide +kernel
theorem dX12_ticks_0 : decode cX12_ticks 0 = .ok (.aload_n 0, 1) := by decide +kernel
theorem dX12_ticks_1 : decode cX12_ticks 1 = .ok (.getfield 7, 3) := by decide +kernel
theorem dX12_ticks_4 : decode cX12_ticks 4 = .ok (.iconst 0, 1) := by decide +kernel
theorem dX12_ticks_5 : decode cX12_ticks 5 = .ok (.dup2, 1) := by decide +kernel
theorem dX12_ticks_6 : decode cX12_ticks 6 = .ok (.iaload, 1) := by decide +kernel
theorem dX12_ticks_7 : decode cX12_ticks 7 = .ok (.iconst 1, 1) := by decide +kernel
theorem dX12_ticks_8 : decode cX12_ticks 8 = .ok (.iadd, 1) := by decide +kernel
theorem dX12_ticks_9 : decode cX12_ticks 9 = .ok (.iastore, 1) := by decide +kernel
theorem dX12_ticks_10 : decode cX12_ticks 10 = .ok (.aload_n 0, 1) := by decide +kernel
theorem dX12_ticks_11 : decode cX12_ticks 11 = .ok (.invokevirtual 295, 3) := by decide +kernel
theorem dX12_ticks_14 : decode cX12_ticks 14 = .ok (.aload_n 0, 1) := by decide +kernel
theorem dX12_ticks_15 : decode cX12_ticks 15 = .ok (.invokevirtual 279, 3) := by decide +kernel
theorem dX12_ticks_18 : decode cX12_ticks 18 = .ok (.aload_n 0, 1) := by decide +kernel
theorem dX12_ticks_19 : decode cX12_ticks 19 = .ok (.invokevirtual 298, 3) := by decide +kernel
theorem dX12_ticks_22 : decode cX12_ticks 22 = .ok (.iconst 0, 1) := by decide +kernel
theorem dX12_ticks_23 : decode cX12_ticks 23 = .ok (.istore_n 1, 1) := by decide +kernel
theorem dX12_ticks_24 : decode cX12_ticks 24 = .ok (.aload_n 0, 1) := by decide +kernel
theorem dX12_ticks_25 : decode cX12_ticks 25 = .ok (.getfield 17, 3) := by decide +kernel
theorem dX12_ticks_28 : decode cX12_ticks 28 = .ok (.ifCond .le 10, 3) := by decide +kernel
theorem dX12_ticks_31 : decode cX12_ticks 31 = .ok (.aload_n 0, 1) := by decide +kernel
theorem dX12_ticks_32 : decode cX12_ticks 32 = .ok (.invokevirtual 285, 3) := by decide +kernel
theorem dX12_ticks_35 : decode cX12_ticks 35 = .ok (.goto 5, 3) := by decide +kernel
theorem dX12_ticks_38 : decode cX12_ticks 38 = .ok (.bipush (-2), 2) := by decide +kernel
theorem dX12_ticks_40 : decode cX12_ticks 40 = .ok (.istore_n 2, 1) := by decide +kernel
theorem dX12_ticks_41 : decode cX12_ticks 41 = .ok (.iload_n 2, 1) := by decide +kernel
theorem dX12_ticks_42 : decode cX12_ticks 42 = .ok (.bipush (-2), 2) := by decide +kernel
theorem dX12_ticks_44 : decode cX12_ticks 44 = .ok (.if_icmp .eq 57, 3) := by decide +kernel
theorem dX12_ticks_47 : decode cX12_ticks 47 = .ok (.aload_n 0, 1) := by decide +kernel
theorem dX12_ticks_48 : decode cX12_ticks 48 = .ok (.getfield 7, 3) := by decide +kernel
theorem dX12_ticks_51 : decode cX12_ticks 51 = .ok (.iload_n 2, 1) := by decide +kernel
theorem dX12_ticks_52 : decode cX12_ticks 52 = .ok (.iconst 0, 1) := by decide +kernel
theorem dX12_ticks_53 : decode cX12_ticks 53 = .ok (.invokestatic 272, 3) := by decide +kernel
theorem dX12_ticks_56 : decode cX12_ticks 56 = .ok (.iconst 1, 1) := by decide +kernel
theorem dX12_ticks_57 : decode cX12_ticks 57 = .ok (.iadd, 1) := by decide +kernel
theorem dX12_ticks_58 : decode cX12_ticks 58 = .ok (.iaload, 1) := by decide +kernel
theorem dX12_ticks_59 : decode cX12_ticks 59 = .ok (.istore_n 3, 1) := by decide +kernel
theorem dX12_ticks_60 : decode cX12_ticks 60 = .ok (.aload_n 0, 1) := by decide +kernel
theorem dX12_ticks_61 : decode cX12_ticks 61 = .ok (.iload_n 2, 1) := by decide +kernel
theorem dX12_ticks_62 : decode cX12_ticks 62 = .ok (.iload_n 3, 1) := by decide +kernel
theorem dX12_ticks_63 : decode cX12_ticks 63 = .ok (.aload_n 0, 1) := by decide +kernel
theorem dX12_ticks_64 : decode cX12_ticks 64 = .ok (.iload_n 2, 1) := by decide +kernel
theorem dX12_ticks_65 : decode cX12_ticks 65 = .ok (.iload_n 3, 1) := by decide +kernel
theorem dX12_ticks_66 : decode cX12_ticks 66 = .ok (.invokevirtual 266, 3) := by decide +kernel
theorem dX12_ticks_69 : decode cX12_ticks 69 = .ok (.invokevirtual 269, 3) := by decide +kernel
theorem dX12_ticks_72 : decode cX12_ticks 72 = .ok (.aload_n 0, 1) := by decide +kernel
theorem dX12_ticks_73 : decode cX12_ticks 73 = .ok (.iload_n 2, 1) := by decide +kernel
theorem dX12_ticks_74 : decode cX12_ticks 74 = .ok (.invokevirtual 292, 3) := by decide +kernel
theorem dX12_ticks_77 : decode cX12_ticks 77 = .ok (.iinc 1 1, 3) := by decide +kernel
theorem dX12_ticks_80 : decode cX12_ticks 80 = .ok (.iload_n 1, 1) := by decide +kernel
theorem dX12_ticks_81 : decode cX12_ticks 81 = .ok (.aload_n 0, 1) := by decide +kernel
theorem dX12_ticks_82 : decode cX12_ticks 82 = .ok (.getfield 17, 3) := by decide +kernel
theorem dX12_ticks_85 : decode cX12_ticks 85 = .ok (.if_icmp .ge 10, 3) := by decide +kernel
theorem dX12_ticks_88 : decode cX12_ticks 88 = .ok (.aload_n 0, 1) := by decide +kernel
theorem dX12_ticks_89 : decode cX12_ticks 89 = .ok (.invokevirtual 285, 3) := by decide +kernel
theorem dX12_ticks_92 : decode cX12_ticks 92 = .ok (.goto 5, 3) := by decide +kernel
theorem dX12_ticks_95 : decode cX12_ticks 95 = .ok (.bipush (-2), 2) := by decide +kernel
theorem dX12_ticks_97 : decode cX12_ticks 97 = .ok (.istore_n 2, 1) := by decide +kernel
theorem dX12_ticks_98 : decode cX12_ticks 98 = .ok (.goto (-57), 3) := by decide +kernel
theorem dX12_ticks_101 : decode cX12_ticks 101 = .ok (.iload_n 1, 1) := by decide +kernel
theorem dX12_ticks_102 : decode cX12_ticks 102 = .ok (.ireturn, 1) := by decide +kernel
theorem dX12_mayTick_0 : decode cX12_mayTick 0 = .ok (.iload_n 1, 1) := by decide +kernel
theorem dX12_mayTick_1 : decode cX12_mayTick 1 = .ok (.i2l, 1) := by decide +kernel
theorem dX12_mayTick_2 : decode cX12_mayTick 2 = .ok (.lconst 1, 1) := by decide +kernel
theorem dX12_mayTick_3 : decode cX12_mayTick 3 = .ok (.ldc2_w 301, 3) := by decide +kernel
theorem dX12_mayTick_6 : decode cX12_mayTick 6 = .ok (.invokestatic 94, 3) := by decide +kernel
theorem dX12_mayTick_9 : decode cX12_mayTick 9 = .ok (.ifCond .eq 28, 3) := by decide +kernel
theorem dX12_mayTick_12 : decode cX12_mayTick 12 = .ok (.aload_n 0, 1) := by decide +kernel
theorem dX12_mayTick_13 : decode cX12_mayTick 13 = .ok (.getfield 7, 3) := by decide +kernel
theorem dX12_mayTick_16 : decode cX12_mayTick 16 = .ok (.iconst 0, 1) := by decide +kernel
theorem dX12_mayTick_17 : decode cX12_mayTick 17 = .ok (.iaload, 1) := by decide +kernel
