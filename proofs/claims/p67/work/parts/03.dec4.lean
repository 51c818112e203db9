theorem dX11_fairness_95 : decode cX11_fairness 95 = .ok (.lmul, 1) := by decide +kernel
theorem dX11_fairness_96 : decode cX11_fairness 96 = .ok (.ladd, 1) := by decide +kernel
theorem dX11_fairness_97 : decode cX11_fairness 97 = .ok (.lstore 5, 2) := by decide +kernel
theorem dX11_fairness_99 : decode cX11_fairness 99 = .ok (.iinc 7 1, 3) := by decide +kernel
theorem dX11_fairness_102 : decode cX11_fairness 102 = .ok (.goto (-80), 3) := by decide +kernel
theorem dX11_fairness_105 : decode cX11_fairness 105 = .ok (.lload 5, 2) := by decide +kernel
theorem dX11_fairness_107 : decode cX11_fairness 107 = .ok (.lconst 0, 1) := by decide +kernel
theorem dX11_fairness_108 : decode cX11_fairness 108 = .ok (.lcmp, 1) := by decide +kernel
theorem dX11_fairness_109 : decode cX11_fairness 109 = .ok (.ifCond .ne 9, 3) := by decide +kernel
theorem dX11_fairness_112 : decode cX11_fairness 112 = .ok (.sipush 1000, 3) := by decide +kernel
theorem dX11_fairness_115 : decode cX11_fairness 115 = .ok (.goto 18, 3) := by decide +kernel
theorem dX11_fairness_118 : decode cX11_fairness 118 = .ok (.ldc2_w 261, 3) := by decide +kernel
theorem dX11_fairness_121 : decode cX11_fairness 121 = .ok (.lload_n 3, 1) := by decide +kernel
theorem dX11_fairness_122 : decode cX11_fairness 122 = .ok (.lmul, 1) := by decide +kernel
theorem dX11_fairness_123 : decode cX11_fairness 123 = .ok (.lload_n 3, 1) := by decide +kernel
theorem dX11_fairness_124 : decode cX11_fairness 124 = .ok (.lmul, 1) := by decide +kernel
theorem dX11_fairness_125 : decode cX11_fairness 125 = .ok (.lload_n 1, 1) := by decide +kernel
theorem dX11_fairness_126 : decode cX11_fairness 126 = .ok (.lload 5, 2) := by decide +kernel
theorem dX11_fairness_128 : decode cX11_fairness 128 = .ok (.lmul, 1) := by decide +kernel
theorem dX11_fairness_129 : decode cX11_fairness 129 = .ok (.invokestatic 257, 3) := by decide +kernel
theorem dX11_fairness_132 : decode cX11_fairness 132 = .ok (.l2i, 1) := by decide +kernel
theorem dX11_fairness_133 : decode cX11_fairness 133 = .ok (.ireturn, 1) := by decide +kernel
theorem dX11_mostServed_0 : decode cX11_mostServed 0 = .ok (.bipush (-2), 2) := by decide +kernel
theorem dX11_mostServed_2 : decode cX11_mostServed 2 = .ok (.istore_n 1, 1) := by decide +kernel
theorem dX11_mostServed_3 : decode cX11_mostServed 3 = .ok (.iconst 0, 1) := by decide +kernel
theorem dX11_mostServed_4 : decode cX11_mostServed 4 = .ok (.istore_n 2, 1) := by decide +kernel
theorem dX11_mostServed_5 : decode cX11_mostServed 5 = .ok (.iload_n 2, 1) := by decide +kernel
theorem dX11_mostServed_6 : decode cX11_mostServed 6 = .ok (.aload_n 0, 1) := by decide +kernel
theorem dX11_mostServed_7 : decode cX11_mostServed 7 = .ok (.getfield 33, 3) := by decide +kernel
theorem dX11_mostServed_10 : decode cX11_mostServed 10 = .ok (.getfield 79, 3) := by decide +kernel
theorem dX11_mostServed_13 : decode cX11_mostServed 13 = .ok (.if_icmp .ge 40, 3) := by decide +kernel
theorem dX11_mostServed_16 : decode cX11_mostServed 16 = .ok (.aload_n 0, 1) := by decide +kernel
theorem dX11_mostServed_17 : decode cX11_mostServed 17 = .ok (.getfield 33, 3) := by decide +kernel
theorem dX11_mostServed_20 : decode cX11_mostServed 20 = .ok (.iload_n 2, 1) := by decide +kernel
theorem dX11_mostServed_21 : decode cX11_mostServed 21 = .ok (.invokevirtual 105, 3) := by decide +kernel
theorem dX11_mostServed_24 : decode cX11_mostServed 24 = .ok (.ifCond .eq 23, 3) := by decide +kernel
theorem dX11_mostServed_27 : decode cX11_mostServed 27 = .ok (.iload_n 1, 1) := by decide +kernel
theorem dX11_mostServed_28 : decode cX11_mostServed 28 = .ok (.bipush (-2), 2) := by decide +kernel
theorem dX11_mostServed_30 : decode cX11_mostServed 30 = .ok (.if_icmp .eq 15, 3) := by decide +kernel
theorem dX11_mostServed_33 : decode cX11_mostServed 33 = .ok (.aload_n 0, 1) := by decide +kernel
theorem dX11_mostServed_34 : decode cX11_mostServed 34 = .ok (.getfield 40, 3) := by decide +kernel
theorem dX11_mostServed_37 : decode cX11_mostServed 37 = .ok (.iload_n 2, 1) := by decide +kernel
theorem dX11_mostServed_38 : decode cX11_mostServed 38 = .ok (.iload_n 1, 1) := by decide +kernel
theorem dX11_mostServed_39 : decode cX11_mostServed 39 = .ok (.invokevirtual 263, 3) := by decide +kernel
theorem dX11_mostServed_42 : decode cX11_mostServed 42 = .ok (.ifCond .le 5, 3) := by decide +kernel
theorem dX11_mostServed_45 : decode cX11_mostServed 45 = .ok (.iload_n 2, 1) := by decide +kernel
theorem dX11_mostServed_46 : decode cX11_mostServed 46 = .ok (.istore_n 1, 1) := by decide +kernel
theorem dX11_mostServed_47 : decode cX11_mostServed 47 = .ok (.iinc 2 1, 3) := by decide +kernel
theorem dX11_mostServed_50 : decode cX11_mostServed 50 = .ok (.goto (-45), 3) := by decide +kernel
theorem dX11_mostServed_53 : decode cX11_mostServed 53 = .ok (.iload_n 1, 1) := by decide +kernel
theorem dX11_mostServed_54 : decode cX11_mostServed 54 = .ok (.ireturn, 1) := by decide +kernel
theorem dX11_loggedLeaf_0 : decode cX11_loggedLeaf 0 = .ok (.aload_n 0, 1) := by decide +kernel
theorem dX11_loggedLeaf_1 : decode cX11_loggedLeaf 1 = .ok (.iload_n 1, 1) := by decide +kernel
theorem dX11_loggedLeaf_2 : decode cX11_loggedLeaf 2 = .ok (.invokevirtual 278, 3) := by decide +kernel
theorem dX11_loggedLeaf_5 : decode cX11_loggedLeaf 5 = .ok (.istore_n 2, 1) := by decide +kernel
theorem dX11_loggedLeaf_6 : decode cX11_loggedLeaf 6 = .ok (.iload_n 2, 1) := by decide +kernel
theorem dX11_loggedLeaf_7 : decode cX11_loggedLeaf 7 = .ok (.ifCond .ge 7, 3) := by decide +kernel
theorem dX11_loggedLeaf_10 : decode cX11_loggedLeaf 10 = .ok (.iload_n 2, 1) := by decide +kernel
theorem dX11_loggedLeaf_11 : decode cX11_loggedLeaf 11 = .ok (.goto 15, 3) := by decide +kernel
theorem dX11_loggedLeaf_14 : decode cX11_loggedLeaf 14 = .ok (.aload_n 0, 1) := by decide +kernel
theorem dX11_loggedLeaf_15 : decode cX11_loggedLeaf 15 = .ok (.getfield 40, 3) := by decide +kernel
theorem dX11_loggedLeaf_18 : decode cX11_loggedLeaf 18 = .ok (.getfield 266, 3) := by decide +kernel
theorem dX11_loggedLeaf_21 : decode cX11_loggedLeaf 21 = .ok (.getfield 281, 3) := by decide +kernel
theorem dX11_loggedLeaf_24 : decode cX11_loggedLeaf 24 = .ok (.iload_n 2, 1) := by decide +kernel
theorem dX11_loggedLeaf_25 : decode cX11_loggedLeaf 25 = .ok (.iaload, 1) := by decide +kernel
theorem dX11_loggedLeaf_26 : decode cX11_loggedLeaf 26 = .ok (.ireturn, 1) := by decide +kernel
theorem dX11_loggedCost_0 : decode cX11_loggedCost 0 = .ok (.aload_n 0, 1) := by decide +kernel
theorem dX11_loggedCost_1 : decode cX11_loggedCost 1 = .ok (.iload_n 1, 1) := by decide +kernel
theorem dX11_loggedCost_2 : decode cX11_loggedCost 2 = .ok (.invokevirtual 278, 3) := by decide +kernel
theorem dX11_loggedCost_5 : decode cX11_loggedCost 5 = .ok (.istore_n 2, 1) := by decide +kernel
theorem dX11_loggedCost_6 : decode cX11_loggedCost 6 = .ok (.iload_n 2, 1) := by decide +kernel
theorem dX11_loggedCost_7 : decode cX11_loggedCost 7 = .ok (.ifCond .ge 7, 3) := by decide +kernel
theorem dX11_loggedCost_10 : decode cX11_loggedCost 10 = .ok (.iload_n 2, 1) := by decide +kernel
theorem dX11_loggedCost_11 : decode cX11_loggedCost 11 = .ok (.goto 15, 3) := by decide +kernel
theorem dX11_loggedCost_14 : decode cX11_loggedCost 14 = .ok (.aload_n 0, 1) := by decide +kernel
theorem dX11_loggedCost_15 : decode cX11_loggedCost 15 = .ok (.getfield 40, 3) := by decide +kernel
theorem dX11_loggedCost_18 : decode cX11_loggedCost 18 = .ok (.getfield 266, 3) := by decide +kernel
theorem dX11_loggedCost_21 : decode cX11_loggedCost 21 = .ok (.getfield 284, 3) := by decide +kernel
theorem dX11_loggedCost_24 : decode cX11_loggedCost 24 = .ok (.iload_n 2, 1) := by decide +kernel
theorem dX11_loggedCost_25 : decode cX11_loggedCost 25 = .ok (.iaload, 1) := by decide +kernel
theorem dX11_loggedCost_26 : decode cX11_loggedCost 26 = .ok (.ireturn, 1) := by decide +kernel
theorem dX11_loggedLender_0 : decode cX11_loggedLender 0 = .ok (.aload_n 0, 1) := by decide +kernel
theorem dX11_loggedLender_1 : decode cX11_loggedLender 1 = .ok (.iload_n 1, 1) := by decide +kernel
theorem dX11_loggedLender_2 : decode cX11_loggedLender 2 = .ok (.invokevirtual 278, 3) := by decide +kernel
theorem dX11_loggedLender_5 : decode cX11_loggedLender 5 = .ok (.istore_n 2, 1) := by decide +kernel
theorem dX11_loggedLender_6 : decode cX11_loggedLender 6 = .ok (.iload_n 2, 1) := by decide +kernel
theorem dX11_loggedLender_7 : decode cX11_loggedLender 7 = .ok (.ifCond .ge 7, 3) := by decide +kernel
theorem dX11_loggedLender_10 : decode cX11_loggedLender 10 = .ok (.iload_n 2, 1) := by decide +kernel
theorem dX11_loggedLender_11 : decode cX11_loggedLender 11 = .ok (.goto 15, 3) := by decide +kernel
theorem dX11_loggedLender_14 : decode cX11_loggedLender 14 = .ok (.aload_n 0, 1) := by decide +kernel
theorem dX11_loggedLender_15 : decode cX11_loggedLender 15 = .ok (.getfield 40, 3) := by decide +kernel
theorem dX11_loggedLender_18 : decode cX11_loggedLender 18 = .ok (.getfield 266, 3) := by decide +kernel
theorem dX11_loggedLender_21 : decode cX11_loggedLender 21 = .ok (.getfield 285, 3) := by decide +kernel
theorem dX11_loggedLender_24 : decode cX11_loggedLender 24 = .ok (.iload_n 2, 1) := by decide +kernel
theorem dX11_loggedLender_25 : decode cX11_loggedLender 25 = .ok (.iaload, 1) := by decide +kernel
theorem dX11_loggedLender_26 : decode cX11_loggedLender 26 = .ok (.ireturn, 1) := by decide +kernel
theorem dX11_loggedTime_0 : decode cX11_loggedTime 0 = .ok (.aload_n 0, 1) := by decide +kernel
theorem dX11_loggedTime_1 : decode cX11_loggedTime 1 = .ok (.iload_n 1, 1) := by decide +kernel
theorem dX11_loggedTime_2 : decode cX11_loggedTime 2 = .ok (.invokevirtual 278, 3) := by decide +kernel
theorem dX11_loggedTime_5 : decode cX11_loggedTime 5 = .ok (.istore_n 2, 1) := by decide +kernel
theorem dX11_loggedTime_6 : decode cX11_loggedTime 6 = .ok (.iload_n 2, 1) := by decide +kernel
theorem dX11_loggedTime_7 : decode cX11_loggedTime 7 = .ok (.ifCond .ge 7, 3) := by decide +kernel
theorem dX11_loggedTime_10 : decode cX11_loggedTime 10 = .ok (.iload_n 2, 1) := by decide +kernel
theorem dX11_loggedTime_11 : decode cX11_loggedTime 11 = .ok (.goto 15, 3) := by decide +kernel
theorem dX11_loggedTime_14 : decode cX11_loggedTime 14 = .ok (.aload_n 0, 1) := by decide +kernel
theorem dX11_loggedTime_15 : decode cX11_loggedTime 15 = .ok (.getfield 40, 3) := by decide +kernel
theorem dX11_loggedTime_18 : decode cX11_loggedTime 18 = .ok (.getfield 266, 3) := by decide +kernel
theorem dX11_loggedTime_21 : decode cX11_loggedTime 21 = .ok (.getfield 288, 3) := by decide +kernel
theorem dX11_loggedTime_24 : decode cX11_loggedTime 24 = .ok (.iload_n 2, 1) := by decide +kernel
theorem dX11_loggedTime_25 : decode cX11_loggedTime 25 = .ok (.iaload, 1) := by decide +kernel
theorem dX11_loggedTime_26 : decode cX11_loggedTime 26 = .ok (.ireturn, 1) := by decide +kernel
theorem dX11_setRate_0 : decode cX11_setRate 0 = .ok (.aload_n 0, 1) := by decide +kernel
theorem dX11_setRate_1 : decode cX11_setRate 1 = .ok (.iload_n 1, 1) := by decide +kernel
theorem dX11_setRate_2 : decode cX11_setRate 2 = .ok (.iconst 0, 1) := by decide +kernel
theorem dX11_setRate_3 : decode cX11_setRate 3 = .ok (.iload_n 2, 1) := by decide +kernel
theorem dX11_setRate_4 : decode cX11_setRate 4 = .ok (.invokevirtual 301, 3) := by decide +kernel
theorem dX11_setRate_7 : decode cX11_setRate 7 = .ok (.ireturn, 1) := by decide +kernel
theorem dX11_isRequest_0 : decode cX11_isRequest 0 = .ok (.aload_n 0, 1) := by decide +kernel
theorem dX11_isRequest_1 : decode cX11_isRequest 1 = .ok (.getfield 33, 3) := by decide +kernel
theorem dX11_isRequest_4 : decode cX11_isRequest 4 = .ok (.iload_n 1, 1) := by decide +kernel
theorem dX11_isRequest_5 : decode cX11_isRequest 5 = .ok (.invokevirtual 105, 3) := by decide +kernel
theorem dX11_isRequest_8 : decode cX11_isRequest 8 = .ok (.ifCond .eq 18, 3) := by decide +kernel
theorem dX11_isRequest_11 : decode cX11_isRequest 11 = .ok (.iload_n 2, 1) := by decide +kernel
theorem dX11_isRequest_12 : decode cX11_isRequest 12 = .ok (.iconst 1, 1) := by decide +kernel
theorem dX11_isRequest_13 : decode cX11_isRequest 13 = .ok (.if_icmp .lt 13, 3) := by decide +kernel
theorem dX11_isRequest_16 : decode cX11_isRequest 16 = .ok (.iload_n 2, 1) := by decide +kernel
theorem dX11_isRequest_17 : decode cX11_isRequest 17 = .ok (.bipush 99, 2) := by decide +kernel
theorem dX11_isRequest_19 : decode cX11_isRequest 19 = .ok (.if_icmp .gt 7, 3) := by decide +kernel
theorem dX11_isRequest_22 : decode cX11_isRequest 22 = .ok (.iconst 1, 1) := by decide +kernel
theorem dX11_isRequest_23 : decode cX11_isRequest 23 = .ok (.goto 4, 3) := by decide +kernel
theorem dX11_isRequest_26 : decode cX11_isRequest 26 = .ok (.iconst 0, 1) := by decide +kernel
theorem dX11_isRequest_27 : decode cX11_isRequest 27 = .ok (.ireturn, 1) := by decide +kernel
theorem dX11_canAdvance_0 : decode cX11_canAdvance 0 = .ok (.aload_n 0, 1) := by decide +kernel
theorem dX11_canAdvance_1 : decode cX11_canAdvance 1 = .ok (.getfield 33, 3) := by decide +kernel
theorem dX11_canAdvance_4 : decode cX11_canAdvance 4 = .ok (.getfield 79, 3) := by decide +kernel
theorem dX11_canAdvance_7 : decode cX11_canAdvance 7 = .ok (.ifCond .le 34, 3) := by decide +kernel
theorem dX11_canAdvance_10 : decode cX11_canAdvance 10 = .ok (.iload_n 1, 1) := by decide +kernel
theorem dX11_canAdvance_11 : decode cX11_canAdvance 11 = .ok (.iconst 1, 1) := by decide +kernel
theorem dX11_canAdvance_12 : decode cX11_canAdvance 12 = .ok (.if_icmp .lt 29, 3) := by decide +kernel
theorem dX11_canAdvance_15 : decode cX11_canAdvance 15 = .ok (.iload_n 1, 1) := by decide +kernel
theorem dX11_canAdvance_16 : decode cX11_canAdvance 16 = .ok (.sipush 500, 3) := by decide +kernel
theorem dX11_canAdvance_19 : decode cX11_canAdvance 19 = .ok (.if_icmp .gt 22, 3) := by decide +kernel
theorem dX11_canAdvance_22 : decode cX11_canAdvance 22 = .ok (.aload_n 0, 1) := by decide +kernel
theorem dX11_canAdvance_23 : decode cX11_canAdvance 23 = .ok (.getfield 40, 3) := by decide +kernel
theorem dX11_canAdvance_26 : decode cX11_canAdvance 26 = .ok (.getfield 140, 3) := by decide +kernel
theorem dX11_canAdvance_29 : decode cX11_canAdvance 29 = .ok (.iload_n 1, 1) := by decide +kernel
theorem dX11_canAdvance_30 : decode cX11_canAdvance 30 = .ok (.iadd, 1) := by decide +kernel
theorem dX11_canAdvance_31 : decode cX11_canAdvance 31 = .ok (.sipush 5000, 3) := by decide +kernel
theorem dX11_canAdvance_34 : decode cX11_canAdvance 34 = .ok (.if_icmp .gt 7, 3) := by decide +kernel
theorem dX11_canAdvance_37 : decode cX11_canAdvance 37 = .ok (.iconst 1, 1) := by decide +kernel
theorem dX11_canAdvance_38 : decode cX11_canAdvance 38 = .ok (.goto 4, 3) := by decide +kernel
theorem dX11_canAdvance_41 : decode cX11_canAdvance 41 = .ok (.iconst 0, 1) := by decide +kernel
theorem dX11_canAdvance_42 : decode cX11_canAdvance 42 = .ok (.ireturn, 1) := by decide +kernel
theorem dX11_logEntry_0 : decode cX11_logEntry 0 = .ok (.iload_n 1, 1) := by decide +kernel
theorem dX11_logEntry_1 : decode cX11_logEntry 1 = .ok (.ifCond .ge 5, 3) := by decide +kernel
theorem dX11_logEntry_4 : decode cX11_logEntry 4 = .ok (.iconst (-1), 1) := by decide +kernel
theorem dX11_logEntry_5 : decode cX11_logEntry 5 = .ok (.ireturn, 1) := by decide +kernel
theorem dX11_logEntry_6 : decode cX11_logEntry 6 = .ok (.iload_n 1, 1) := by decide +kernel
theorem dX11_logEntry_7 : decode cX11_logEntry 7 = .ok (.aload_n 0, 1) := by decide +kernel
theorem dX11_logEntry_8 : decode cX11_logEntry 8 = .ok (.getfield 40, 3) := by decide +kernel
theorem dX11_logEntry_11 : decode cX11_logEntry 11 = .ok (.getfield 266, 3) := by decide +kernel
theorem dX11_logEntry_14 : decode cX11_logEntry 14 = .ok (.getfield 275, 3) := by decide +kernel
theorem dX11_logEntry_17 : decode cX11_logEntry 17 = .ok (.if_icmp .ge 7, 3) := by decide +kernel
theorem dX11_logEntry_20 : decode cX11_logEntry 20 = .ok (.iload_n 1, 1) := by decide +kernel
theorem dX11_logEntry_21 : decode cX11_logEntry 21 = .ok (.goto 5, 3) := by decide +kernel
theorem dX11_logEntry_24 : decode cX11_logEntry 24 = .ok (.bipush (-2), 2) := by decide +kernel
theorem dX11_logEntry_26 : decode cX11_logEntry 26 = .ok (.ireturn, 1) := by decide +kernel
theorem dX11_change_0 : decode cX11_change 0 = .ok (.aload_n 0, 1) := by decide +kernel
theorem dX11_change_1 : decode cX11_change 1 = .ok (.getfield 33, 3) := by decide +kernel
theorem dX11_change_4 : decode cX11_change 4 = .ok (.iload_n 1, 1) := by decide +kernel
theorem dX11_change_5 : decode cX11_change 5 = .ok (.invokevirtual 85, 3) := by decide +kernel
theorem dX11_change_8 : decode cX11_change 8 = .ok (.ifCond .eq 11, 3) := by decide +kernel
theorem dX11_change_11 : decode cX11_change 11 = .ok (.iload_n 2, 1) := by decide +kernel
theorem dX11_change_12 : decode cX11_change 12 = .ok (.iload_n 3, 1) := by decide +kernel
theorem dX11_change_13 : decode cX11_change 13 = .ok (.invokestatic 309, 3) := by decide +kernel
theorem dX11_change_16 : decode cX11_change 16 = .ok (.ifCond .ne 5, 3) := by decide +kernel
theorem dX11_change_19 : decode cX11_change 19 = .ok (.iconst (-1), 1) := by decide +kernel
theorem dX11_change_20 : decode cX11_change 20 = .ok (.ireturn, 1) := by decide +kernel
theorem dX11_change_21 : decode cX11_change 21 = .ok (.aload_n 0, 1) := by decide +kernel
theorem dX11_change_22 : decode cX11_change 22 = .ok (.getfield 40, 3) := by decide +kernel
theorem dX11_change_25 : decode cX11_change 25 = .ok (.iload_n 2, 1) := by decide +kernel
theorem dX11_change_26 : decode cX11_change 26 = .ok (.invokevirtual 312, 3) := by decide +kernel
theorem dX11_change_29 : decode cX11_change 29 = .ok (.astore 4, 2) := by decide +kernel
theorem dX11_change_31 : decode cX11_change 31 = .ok (.aload 4, 2) := by decide +kernel
theorem dX11_change_33 : decode cX11_change 33 = .ok (.iload_n 1, 1) := by decide +kernel
theorem dX11_change_34 : decode cX11_change 34 = .ok (.iaload, 1) := by decide +kernel
theorem dX11_change_35 : decode cX11_change 35 = .ok (.istore 5, 2) := by decide +kernel
theorem dX11_change_37 : decode cX11_change 37 = .ok (.aload 4, 2) := by decide +kernel
theorem dX11_change_39 : decode cX11_change 39 = .ok (.iload_n 1, 1) := by decide +kernel
theorem dX11_change_40 : decode cX11_change 40 = .ok (.iload_n 3, 1) := by decide +kernel
theorem dX11_change_41 : decode cX11_change 41 = .ok (.iastore, 1) := by decide +kernel
theorem dX11_change_42 : decode cX11_change 42 = .ok (.iload 5, 2) := by decide +kernel
theorem dX11_change_44 : decode cX11_change 44 = .ok (.ireturn, 1) := by decide +kernel
theorem dX11_isInRange_0 : decode cX11_isInRange 0 = .ok (.iload_n 0, 1) := by decide +kernel
theorem dX11_isInRange_1 : decode cX11_isInRange 1 = .ok (.ifCond .lt 31, 3) := by decide +kernel
theorem dX11_isInRange_4 : decode cX11_isInRange 4 = .ok (.iload_n 0, 1) := by decide +kernel
theorem dX11_isInRange_5 : decode cX11_isInRange 5 = .ok (.bipush 6, 2) := by decide +kernel
theorem dX11_isInRange_7 : decode cX11_isInRange 7 = .ok (.if_icmp .ge 25, 3) := by decide +kernel
theorem dX11_isInRange_10 : decode cX11_isInRange 10 = .ok (.iload_n 1, 1) := by decide +kernel
theorem dX11_isInRange_11 : decode cX11_isInRange 11 = .ok (.getstatic 316, 3) := by decide +kernel
theorem dX11_isInRange_14 : decode cX11_isInRange 14 = .ok (.iload_n 0, 1) := by decide +kernel
theorem dX11_isInRange_15 : decode cX11_isInRange 15 = .ok (.iaload, 1) := by decide +kernel
theorem dX11_isInRange_16 : decode cX11_isInRange 16 = .ok (.if_icmp .lt 16, 3) := by decide +kernel
theorem dX11_isInRange_19 : decode cX11_isInRange 19 = .ok (.iload_n 1, 1) := by decide +kernel
theorem dX11_isInRange_20 : decode cX11_isInRange 20 = .ok (.getstatic 319, 3) := by decide +kernel
theorem dX11_isInRange_23 : decode cX11_isInRange 23 = .ok (.iload_n 0, 1) := by decide +kernel
theorem dX11_isInRange_24 : decode cX11_isInRange 24 = .ok (.iaload, 1) := by decide +kernel
theorem dX11_isInRange_25 : decode cX11_isInRange 25 = .ok (.if_icmp .gt 7, 3) := by decide +kernel
theorem dX11_isInRange_28 : decode cX11_isInRange 28 = .ok (.iconst 1, 1) := by decide +kernel
theorem dX11_isInRange_29 : decode cX11_isInRange 29 = .ok (.goto 4, 3) := by decide +kernel
theorem dX11_isInRange_32 : decode cX11_isInRange 32 = .ok (.iconst 0, 1) := by decide +kernel
theorem dX11_isInRange_33 : decode cX11_isInRange 33 = .ok (.ireturn, 1) := by decide +kernel
theorem dX11_quotient_0 : decode cX11_quotient 0 = .ok (.lload_n 2, 1) := by decide +kernel
theorem dX11_quotient_1 : decode cX11_quotient 1 = .ok (.lconst 0, 1) := by decide +kernel
theorem dX11_quotient_2 : decode cX11_quotient 2 = .ok (.lcmp, 1) := by decide +kernel
theorem dX11_quotient_3 : decode cX11_quotient 3 = .ok (.ifCond .ne 7, 3) := by decide +kernel
theorem dX11_quotient_6 : decode cX11_quotient 6 = .ok (.lconst 0, 1) := by decide +kernel
theorem dX11_quotient_7 : decode cX11_quotient 7 = .ok (.goto 6, 3) := by decide +kernel
theorem dX11_quotient_10 : decode cX11_quotient 10 = .ok (.lload_n 0, 1) := by decide +kernel
theorem dX11_quotient_11 : decode cX11_quotient 11 = .ok (.lload_n 2, 1) := by decide +kernel
theorem dX11_quotient_12 : decode cX11_quotient 12 = .ok (.ldiv, 1) := by decide +kernel
theorem dX11_quotient_13 : decode cX11_quotient 13 = .ok (.lreturn, 1) := by decide +kernel
theorem dX11_copyRow_0 : decode cX11_copyRow 0 = .ok (.aload_n 0, 1) := by decide +kernel
theorem dX11_copyRow_1 : decode cX11_copyRow 1 = .ok (.iconst 0, 1) := by decide +kernel
theorem dX11_copyRow_2 : decode cX11_copyRow 2 = .ok (.aload_n 1, 1) := by decide +kernel
theorem dX11_copyRow_3 : decode cX11_copyRow 3 = .ok (.iconst 0, 1) := by decide +kernel
theorem dX11_copyRow_4 : decode cX11_copyRow 4 = .ok (.aload_n 0, 1) := by decide +kernel
theorem dX11_copyRow_5 : decode cX11_copyRow 5 = .ok (.arraylength, 1) := by decide +kernel
theorem dX11_copyRow_6 : decode cX11_copyRow 6 = .ok (.aload_n 1, 1) := by decide +kernel
theorem dX11_copyRow_7 : decode cX11_copyRow 7 = .ok (.arraylength, 1) := by decide +kernel
theorem dX11_copyRow_8 : decode cX11_copyRow 8 = .ok (.invokestatic 235, 3) := by decide +kernel
theorem dX11_copyRow_11 : decode cX11_copyRow 11 = .ok (.invokestatic 322, 3) := by decide +kernel
theorem dX11_copyRow_14 : decode cX11_copyRow 14 = .ok (.return_, 1) := by decide +kernel
theorem dX11_clearRow_0 : decode cX11_clearRow 0 = .ok (.iconst 0, 1) := by decide +kernel
theorem dX11_clearRow_1 : decode cX11_clearRow 1 = .ok (.istore_n 1, 1) := by decide +kernel
theorem dX11_clearRow_2 : decode cX11_clearRow 2 = .ok (.iload_n 1, 1) := by decide +kernel
theorem dX11_clearRow_3 : decode cX11_clearRow 3 = .ok (.aload_n 0, 1) := by decide +kernel
theorem dX11_clearRow_4 : decode cX11_clearRow 4 = .ok (.arraylength, 1) := by decide +kernel
theorem dX11_clearRow_5 : decode cX11_clearRow 5 = .ok (.if_icmp .ge 13, 3) := by decide +kernel
theorem dX11_clearRow_8 : decode cX11_clearRow 8 = .ok (.aload_n 0, 1) := by decide +kernel
theorem dX11_clearRow_9 : decode cX11_clearRow 9 = .ok (.iload_n 1, 1) := by decide +kernel
theorem dX11_clearRow_10 : decode cX11_clearRow 10 = .ok (.iconst 0, 1) := by decide +kernel
theorem dX11_clearRow_11 : decode cX11_clearRow 11 = .ok (.iastore, 1) := by decide +kernel
theorem dX11_clearRow_12 : decode cX11_clearRow 12 = .ok (.iinc 1 1, 3) := by decide +kernel
theorem dX11_clearRow_15 : decode cX11_clearRow 15 = .ok (.goto (-13), 3) := by decide +kernel
theorem dX11_clearRow_18 : decode cX11_clearRow 18 = .ok (.return_, 1) := by decide +kernel
theorem dX11_keywordText_0 : decode cX11_keywordText 0 = .ok (.iload_n 0, 1) := by decide +kernel
theorem dX11_keywordText_1 : decode cX11_keywordText 1 = .ok (.tableswitch 111 0 11 #[63, 67, 71, 75, 79, 83, 87, 91, 95, 99, 103, 107], 63) := by decide +kernel
theorem dX11_keywordText_64 : decode cX11_keywordText 64 = .ok (.ldc_w 328, 3) := by decide +kernel
theorem dX11_keywordText_67 : decode cX11_keywordText 67 = .ok (.areturn, 1) := by decide +kernel
theorem dX11_keywordText_68 : decode cX11_keywordText 68 = .ok (.ldc_w 329, 3) := by decide +kernel
theorem dX11_keywordText_71 : decode cX11_keywordText 71 = .ok (.areturn, 1) := by decide +kernel
theorem dX11_keywordText_72 : decode cX11_keywordText 72 = .ok (.ldc_w 330, 3) := by decide +kernel
theorem dX11_keywordText_75 : decode cX11_keywordText 75 = .ok (.areturn, 1) := by decide +kernel
theorem dX11_keywordText_76 : decode cX11_keywordText 76 = .ok (.ldc_w 331, 3) := by decide +kernel
theorem dX11_keywordText_79 : decode cX11_keywordText 79 = .ok (.areturn, 1) := by decide +kernel
theorem dX11_keywordText_80 : decode cX11_keywordText 80 = .ok (.ldc_w 332, 3) := by decide +kernel
theorem dX11_keywordText_83 : decode cX11_keywordText 83 = .ok (.areturn, 1) := by decide +kernel
theorem dX11_keywordText_84 : decode cX11_keywordText 84 = .ok (.ldc_w 333, 3) := by decide +kernel
theorem dX11_keywordText_87 : decode cX11_keywordText 87 = .ok (.areturn, 1) := by decide +kernel
theorem dX11_keywordText_88 : decode cX11_keywordText 88 = .ok (.ldc_w 334, 3) := by decide +kernel
theorem dX11_keywordText_91 : decode cX11_keywordText 91 = .ok (.areturn, 1) := by decide +kernel
theorem dX11_keywordText_92 : decode cX11_keywordText 92 = .ok (.ldc_w 335, 3) := by decide +kernel
theorem dX11_keywordText_95 : decode cX11_keywordText 95 = .ok (.areturn, 1) := by decide +kernel
theorem dX11_keywordText_96 : decode cX11_keywordText 96 = .ok (.ldc_w 337, 3) := by decide +kernel
theorem dX11_keywordText_99 : decode cX11_keywordText 99 = .ok (.areturn, 1) := by decide +kernel
theorem dX11_keywordText_100 : decode cX11_keywordText 100 = .ok (.ldc_w 339, 3) := by decide +kernel
theorem dX11_keywordText_103 : decode cX11_keywordText 103 = .ok (.areturn, 1) := by decide +kernel
theorem dX11_keywordText_104 : decode cX11_keywordText 104 = .ok (.ldc_w 341, 3) := by decide +kernel
theorem dX11_keywordText_107 : decode cX11_keywordText 107 = .ok (.areturn, 1) := by decide +kernel
theorem dX11_keywordText_108 : decode cX11_keywordText 108 = .ok (.ldc_w 343, 3) := by decide +kernel
theorem dX11_keywordText_111 : decode cX11_keywordText 111 = .ok (.areturn, 1) := by decide +kernel
theorem dX11_keywordText_112 : decode cX11_keywordText 112 = .ok (.ldc_w 345, 3) := by decide +kernel
theorem dX11_keywordText_115 : decode cX11_keywordText 115 = .ok (.areturn, 1) := by decide +kernel
theorem dX11_withLetter_0 : decode cX11_withLetter 0 = .ok (.iload_n 2, 1) := by decide +kernel
theorem dX11_withLetter_1 : decode cX11_withLetter 1 = .ok (.bipush 8, 2) := by decide +kernel
theorem dX11_withLetter_3 : decode cX11_withLetter 3 = .ok (.if_icmp .ge 22, 3) := by decide +kernel
theorem dX11_withLetter_6 : decode cX11_withLetter 6 = .ok (.lload_n 0, 1) := by decide +kernel
theorem dX11_withLetter_7 : decode cX11_withLetter 7 = .ok (.iload_n 3, 1) := by decide +kernel
theorem dX11_withLetter_8 : decode cX11_withLetter 8 = .ok (.bipush 97, 2) := by decide +kernel
theorem dX11_withLetter_10 : decode cX11_withLetter 10 = .ok (.isub, 1) := by decide +kernel
theorem dX11_withLetter_11 : decode cX11_withLetter 11 = .ok (.iconst 1, 1) := by decide +kernel
theorem dX11_withLetter_12 : decode cX11_withLetter 12 = .ok (.iadd, 1) := by decide +kernel
theorem dX11_withLetter_13 : decode cX11_withLetter 13 = .ok (.i2l, 1) := by decide +kernel
theorem dX11_withLetter_14 : decode cX11_withLetter 14 = .ok (.iconst 5, 1) := by decide +kernel
theorem dX11_withLetter_15 : decode cX11_withLetter 15 = .ok (.bipush 7, 2) := by decide +kernel
theorem dX11_withLetter_17 : decode cX11_withLetter 17 = .ok (.iload_n 2, 1) := by decide +kernel
theorem dX11_withLetter_18 : decode cX11_withLetter 18 = .ok (.isub, 1) := by decide +kernel
theorem dX11_withLetter_19 : decode cX11_withLetter 19 = .ok (.imul, 1) := by decide +kernel
theorem dX11_withLetter_20 : decode cX11_withLetter 20 = .ok (.lshl, 1) := by decide +kernel
theorem dX11_withLetter_21 : decode cX11_withLetter 21 = .ok (.lor, 1) := by decide +kernel
theorem dX11_withLetter_22 : decode cX11_withLetter 22 = .ok (.goto 4, 3) := by decide +kernel
theorem dX11_withLetter_25 : decode cX11_withLetter 25 = .ok (.lload_n 0, 1) := by decide +kernel
theorem dX11_withLetter_26 : decode cX11_withLetter 26 = .ok (.lreturn, 1) := by decide +kernel
theorem dX11_letterOf_0 : decode cX11_letterOf 0 = .ok (.iload_n 2, 1) := by decide +kernel
theorem dX11_letterOf_1 : decode cX11_letterOf 1 = .ok (.bipush 8, 2) := by decide +kernel
theorem dX11_letterOf_3 : decode cX11_letterOf 3 = .ok (.if_icmp .ge 18, 3) := by decide +kernel
theorem dX11_letterOf_6 : decode cX11_letterOf 6 = .ok (.lload_n 0, 1) := by decide +kernel
theorem dX11_letterOf_7 : decode cX11_letterOf 7 = .ok (.iconst 5, 1) := by decide +kernel
theorem dX11_letterOf_8 : decode cX11_letterOf 8 = .ok (.bipush 7, 2) := by decide +kernel
theorem dX11_letterOf_10 : decode cX11_letterOf 10 = .ok (.iload_n 2, 1) := by decide +kernel
theorem dX11_letterOf_11 : decode cX11_letterOf 11 = .ok (.isub, 1) := by decide +kernel
theorem dX11_letterOf_12 : decode cX11_letterOf 12 = .ok (.imul, 1) := by decide +kernel
theorem dX11_letterOf_13 : decode cX11_letterOf 13 = .ok (.lshr, 1) := by decide +kernel
theorem dX11_letterOf_14 : decode cX11_letterOf 14 = .ok (.l2i, 1) := by decide +kernel
theorem dX11_letterOf_15 : decode cX11_letterOf 15 = .ok (.bipush 31, 2) := by decide +kernel
theorem dX11_letterOf_17 : decode cX11_letterOf 17 = .ok (.iand, 1) := by decide +kernel
theorem dX11_letterOf_18 : decode cX11_letterOf 18 = .ok (.goto 4, 3) := by decide +kernel
theorem dX11_letterOf_21 : decode cX11_letterOf 21 = .ok (.iconst 0, 1) := by decide +kernel
theorem dX11_letterOf_22 : decode cX11_letterOf 22 = .ok (.ireturn, 1) := by decide +kernel
theorem dX11_keywordOf_0 : decode cX11_keywordOf 0 = .ok (.iconst 0, 1) := by decide +kernel
theorem dX11_keywordOf_1 : decode cX11_keywordOf 1 = .ok (.istore_n 2, 1) := by decide +kernel
theorem dX11_keywordOf_2 : decode cX11_keywordOf 2 = .ok (.iload_n 2, 1) := by decide +kernel
theorem dX11_keywordOf_3 : decode cX11_keywordOf 3 = .ok (.bipush 12, 2) := by decide +kernel
theorem dX11_keywordOf_5 : decode cX11_keywordOf 5 = .ok (.if_icmp .ge 59, 3) := by decide +kernel
theorem dX11_keywordOf_8 : decode cX11_keywordOf 8 = .ok (.iload_n 2, 1) := by decide +kernel
theorem dX11_keywordOf_9 : decode cX11_keywordOf 9 = .ok (.invokestatic 347, 3) := by decide +kernel
theorem dX11_keywordOf_12 : decode cX11_keywordOf 12 = .ok (.astore_n 3, 1) := by decide +kernel
theorem dX11_keywordOf_13 : decode cX11_keywordOf 13 = .ok (.lconst 0, 1) := by decide +kernel
theorem dX11_keywordOf_14 : decode cX11_keywordOf 14 = .ok (.lstore 4, 2) := by decide +kernel
theorem dX11_keywordOf_16 : decode cX11_keywordOf 16 = .ok (.iconst 0, 1) := by decide +kernel
theorem dX11_keywordOf_17 : decode cX11_keywordOf 17 = .ok (.istore 6, 2) := by decide +kernel
theorem dX11_keywordOf_19 : decode cX11_keywordOf 19 = .ok (.iload 6, 2) := by decide +kernel
theorem dX11_keywordOf_21 : decode cX11_keywordOf 21 = .ok (.aload_n 3, 1) := by decide +kernel
theorem dX11_keywordOf_22 : decode cX11_keywordOf 22 = .ok (.invokevirtual 351, 3) := by decide +kernel
theorem dX11_keywordOf_25 : decode cX11_keywordOf 25 = .ok (.if_icmp .ge 24, 3) := by decide +kernel
theorem dX11_keywordOf_28 : decode cX11_keywordOf 28 = .ok (.lload 4, 2) := by decide +kernel
theorem dX11_keywordOf_30 : decode cX11_keywordOf 30 = .ok (.iload 6, 2) := by decide +kernel
theorem dX11_keywordOf_32 : decode cX11_keywordOf 32 = .ok (.aload_n 3, 1) := by decide +kernel
theorem dX11_keywordOf_33 : decode cX11_keywordOf 33 = .ok (.iload 6, 2) := by decide +kernel
theorem dX11_keywordOf_35 : decode cX11_keywordOf 35 = .ok (.invokevirtual 356, 3) := by decide +kernel
theorem dX11_keywordOf_38 : decode cX11_keywordOf 38 = .ok (.invokestatic 360, 3) := by decide +kernel
theorem dX11_keywordOf_41 : decode cX11_keywordOf 41 = .ok (.lstore 4, 2) := by decide +kernel
theorem dX11_keywordOf_43 : decode cX11_keywordOf 43 = .ok (.iinc 6 1, 3) := by decide +kernel
theorem dX11_keywordOf_46 : decode cX11_keywordOf 46 = .ok (.goto (-27), 3) := by decide +kernel
theorem dX11_keywordOf_49 : decode cX11_keywordOf 49 = .ok (.lload 4, 2) := by decide +kernel
theorem dX11_keywordOf_51 : decode cX11_keywordOf 51 = .ok (.lload_n 0, 1) := by decide +kernel
theorem dX11_keywordOf_52 : decode cX11_keywordOf 52 = .ok (.lcmp, 1) := by decide +kernel
theorem dX11_keywordOf_53 : decode cX11_keywordOf 53 = .ok (.ifCond .ne 5, 3) := by decide +kernel
theorem dX11_keywordOf_56 : decode cX11_keywordOf 56 = .ok (.iload_n 2, 1) := by decide +kernel
theorem dX11_keywordOf_57 : decode cX11_keywordOf 57 = .ok (.ireturn, 1) := by decide +kernel
theorem dX11_keywordOf_58 : decode cX11_keywordOf 58 = .ok (.iinc 2 1, 3) := by decide +kernel
theorem dX11_keywordOf_61 : decode cX11_keywordOf 61 = .ok (.goto (-59), 3) := by decide +kernel
theorem dX11_keywordOf_64 : decode cX11_keywordOf 64 = .ok (.iconst (-1), 1) := by decide +kernel
theorem dX11_keywordOf_65 : decode cX11_keywordOf 65 = .ok (.ireturn, 1) := by decide +kernel
theorem dX12_init_0 : decode cX12_init 0 = .ok (.aload_n 0, 1) := by decide +kernel
theorem dX12_init_1 : decode cX12_init 1 = .ok (.invokespecial 1, 3) := by decide +kernel
theorem dX12_init_4 : decode cX12_init 4 = .ok (.aload_n 0, 1) := by decide +kernel
theorem dX12_init_5 : decode cX12_init 5 = .ok (.bipush 6, 2) := by decide +kernel
theorem dX12_init_7 : decode cX12_init 7 = .ok (.newarray .int, 2) := by decide +kernel
theorem dX12_init_9 : decode cX12_init 9 = .ok (.putfield 7, 3) := by decide +kernel
theorem dX12_init_12 : decode cX12_init 12 = .ok (.aload_n 0, 1) := by decide +kernel
theorem dX12_init_13 : decode cX12_init 13 = .ok (.bipush 6, 2) := by decide +kernel
theorem dX12_init_15 : decode cX12_init 15 = .ok (.newarray .int, 2) := by decide +kernel
theorem dX12_init_17 : decode cX12_init 17 = .ok (.putfield 13, 3) := by decide +kernel
theorem dX12_init_20 : decode cX12_init 20 = .ok (.aload_n 0, 1) := by decide +kernel
theorem dX12_init_21 : decode cX12_init 21 = .ok (.bipush 6, 2) := by decide +kernel
theorem dX12_init_23 : decode cX12_init 23 = .ok (.newarray .int, 2) := by decide +kernel
theorem dX12_init_25 : decode cX12_init 25 = .ok (.putfield 16, 3) := by decide +kernel
theorem dX12_init_28 : decode cX12_init 28 = .ok (.aload_n 0, 1) := by decide +kernel
theorem dX12_init_29 : decode cX12_init 29 = .ok (.bipush 6, 2) := by decide +kernel
theorem dX12_init_31 : decode cX12_init 31 = .ok (.newarray .int, 2) := by decide +kernel
theorem dX12_init_33 : decode cX12_init 33 = .ok (.putfield 19, 3) := by decide +kernel
theorem dX12_init_36 : decode cX12_init 36 = .ok (.aload_n 0, 1) := by decide +kernel
theorem dX12_init_37 : decode cX12_init 37 = .ok (.bipush 6, 2) := by decide +kernel
theorem dX12_init_39 : decode cX12_init 39 = .ok (.newarray .int, 2) := by decide +kernel
theorem dX12_init_41 : decode cX12_init 41 = .ok (.putfield 22, 3) := by decide +kernel
theorem dX12_init_44 : decode cX12_init 44 = .ok (.aload_n 0, 1) := by decide +kernel
theorem dX12_init_45 : decode cX12_init 45 = .ok (.bipush 6, 2) := by decide +kernel
theorem dX12_init_47 : decode cX12_init 47 = .ok (.newarray .int, 2) := by decide +kernel
theorem dX12_init_49 : decode cX12_init 49 = .ok (.putfield 25, 3) := by decide +kernel
theorem dX12_init_52 : decode cX12_init 52 = .ok (.aload_n 0, 1) := by decide +kernel
theorem dX12_init_53 : decode cX12_init 53 = .ok (.bipush 6, 2) := by decide +kernel
theorem dX12_init_55 : decode cX12_init 55 = .ok (.newarray .int, 2) := by decide +kernel
theorem dX12_init_57 : decode cX12_init 57 = .ok (.putfield 28, 3) := by decide +kernel
theorem dX12_init_60 : decode cX12_init 60 = .ok (.aload_n 0, 1) := by decide +kernel
theorem dX12_init_61 : decode cX12_init 61 = .ok (.bipush 6, 2) := by decide +kernel
theorem dX12_init_63 : decode cX12_init 63 = .ok (.newarray .boolean, 2) := by decide +kernel
theorem dX12_init_65 : decode cX12_init 65 = .ok (.putfield 31, 3) := by decide +kernel
theorem dX12_init_68 : decode cX12_init 68 = .ok (.aload_n 0, 1) := by decide +kernel
theorem dX12_init_69 : decode cX12_init 69 = .ok (.bipush 6, 2) := by decide +kernel
theorem dX12_init_71 : decode cX12_init 71 = .ok (.newarray .int, 2) := by decide +kernel
theorem dX12_init_73 : decode cX12_init 73 = .ok (.putfield 35, 3) := by decide +kernel
theorem dX12_init_76 : decode cX12_init 76 = .ok (.aload_n 0, 1) := by decide +kernel
theorem dX12_init_77 : decode cX12_init 77 = .ok (.bipush 6, 2) := by decide +kernel
theorem dX12_init_79 : decode cX12_init 79 = .ok (.newarray .int, 2) := by decide +kernel
theorem dX12_init_81 : decode cX12_init 81 = .ok (.putfield 38, 3) := by decide +kernel
theorem dX12_init_84 : decode cX12_init 84 = .ok (.aload_n 0, 1) := by decide +kernel
theorem dX12_init_85 : decode cX12_init 85 = .ok (.bipush 6, 2) := by decide +kernel
theorem dX12_init_87 : decode cX12_init 87 = .ok (.newarray .int, 2) := by decide +kernel
theorem dX12_init_89 : decode cX12_init 89 = .ok (.putfield 41, 3) := by decide +kernel
theorem dX12_init_92 : decode cX12_init 92 = .ok (.aload_n 0, 1) := by decide +kernel
theorem dX12_init_93 : decode cX12_init 93 = .ok (.bipush 6, 2) := by decide +kernel
theorem dX12_init_95 : decode cX12_init 95 = .ok (.newarray .int, 2) := by decide +kernel
theorem dX12_init_97 : decode cX12_init 97 = .ok (.putfield 44, 3) := by decide +kernel
theorem dX12_init_100 : decode cX12_init 100 = .ok (.aload_n 0, 1) := by decide +kernel
theorem dX12_init_101 : decode cX12_init 101 = .ok (.bipush 6, 2) := by decide +kernel
theorem dX12_init_103 : decode cX12_init 103 = .ok (.newarray .int, 2) := by decide +kernel
theorem dX12_init_105 : decode cX12_init 105 = .ok (.putfield 47, 3) := by decide +kernel
theorem dX12_init_108 : decode cX12_init 108 = .ok (.aload_n 0, 1) := by decide +kernel
theorem dX12_init_109 : decode cX12_init 109 = .ok (.bipush 6, 2) := by decide +kernel
theorem dX12_init_111 : decode cX12_init 111 = .ok (.newarray .int, 2) := by decide +kernel
theorem dX12_init_113 : decode cX12_init 113 = .ok (.putfield 50, 3) := by decide +kernel
theorem dX12_init_116 : decode cX12_init 116 = .ok (.aload_n 0, 1) := by decide +kernel
theorem dX12_init_117 : decode cX12_init 117 = .ok (.bipush 6, 2) := by decide +kernel
theorem dX12_init_119 : decode cX12_init 119 = .ok (.newarray .int, 2) := by decide +kernel
theorem dX12_init_121 : decode cX12_init 121 = .ok (.putfield 53, 3) := by decide +kernel
theorem dX12_init_124 : decode cX12_init 124 = .ok (.aload_n 0, 1) := by decide +kernel
theorem dX12_init_125 : decode cX12_init 125 = .ok (.bipush 6, 2) := by decide +kernel
theorem dX12_init_127 : decode cX12_init 127 = .ok (.newarray .int, 2) := by decide +kernel
theorem dX12_init_129 : decode cX12_init 129 = .ok (.putfield 56, 3) := by decide +kernel
theorem dX12_init_132 : decode cX12_init 132 = .ok (.aload_n 0, 1) := by decide +kernel
theorem dX12_init_133 : decode cX12_init 133 = .ok (.new 59, 3) := by decide +kernel
theorem dX12_init_136 : decode cX12_init 136 = .ok (.dup, 1) := by decide +kernel
theorem dX12_init_137 : decode cX12_init 137 = .ok (.invokespecial 61, 3) := by decide +kernel
theorem dX12_init_140 : decode cX12_init 140 = .ok (.putfield 62, 3) := by decide +kernel
theorem dX12_init_143 : decode cX12_init 143 = .ok (.aload_n 0, 1) := by decide +kernel
theorem dX12_init_144 : decode cX12_init 144 = .ok (.iconst 1, 1) := by decide +kernel
theorem dX12_init_145 : decode cX12_init 145 = .ok (.aload_n 1, 1) := by decide +kernel
theorem dX12_init_146 : decode cX12_init 146 = .ok (.bipush 6, 2) := by decide +kernel
theorem dX12_init_148 : decode cX12_init 148 = .ok (.invokestatic 66, 3) := by decide +kernel
theorem dX12_init_151 : decode cX12_init 151 = .ok (.iadd, 1) := by decide +kernel
theorem dX12_init_152 : decode cX12_init 152 = .ok (.putfield 72, 3) := by decide +kernel
theorem dX12_init_155 : decode cX12_init 155 = .ok (.aload_n 0, 1) := by decide +kernel
theorem dX12_init_156 : decode cX12_init 156 = .ok (.aload_n 1, 1) := by decide +kernel
theorem dX12_init_157 : decode cX12_init 157 = .ok (.bipush 6, 2) := by decide +kernel
theorem dX12_init_159 : decode cX12_init 159 = .ok (.invokestatic 66, 3) := by decide +kernel
theorem dX12_init_162 : decode cX12_init 162 = .ok (.putfield 76, 3) := by decide +kernel
theorem dX12_init_165 : decode cX12_init 165 = .ok (.aload_n 0, 1) := by decide +kernel
theorem dX12_init_166 : decode cX12_init 166 = .ok (.aload_n 1, 1) := by decide +kernel
theorem dX12_init_167 : decode cX12_init 167 = .ok (.iconst 3, 1) := by decide +kernel
theorem dX12_init_168 : decode cX12_init 168 = .ok (.invokestatic 66, 3) := by decide +kernel
theorem dX12_init_171 : decode cX12_init 171 = .ok (.ifCond .ne 14, 3) := by decide +kernel
theorem dX12_init_174 : decode cX12_init 174 = .ok (.iconst 2, 1) := by decide +kernel
theorem dX12_init_175 : decode cX12_init 175 = .ok (.aload_n 1, 1) := by decide +kernel
theorem dX12_init_176 : decode cX12_init 176 = .ok (.bipush 6, 2) := by decide +kernel
theorem dX12_init_178 : decode cX12_init 178 = .ok (.invokestatic 66, 3) := by decide +kernel
theorem dX12_init_181 : decode cX12_init 181 = .ok (.iadd, 1) := by decide +kernel
theorem dX12_init_182 : decode cX12_init 182 = .ok (.goto 4, 3) := by decide +kernel
theorem dX12_init_185 : decode cX12_init 185 = .ok (.iconst (-1), 1) := by decide +kernel
theorem dX12_init_186 : decode cX12_init 186 = .ok (.putfield 79, 3) := by decide +kernel
theorem dX12_init_189 : decode cX12_init 189 = .ok (.aload_n 0, 1) := by decide +kernel
theorem dX12_init_190 : decode cX12_init 190 = .ok (.aload_n 1, 1) := by decide +kernel
theorem dX12_init_191 : decode cX12_init 191 = .ok (.iconst 2, 1) := by decide +kernel
theorem dX12_init_192 : decode cX12_init 192 = .ok (.invokestatic 66, 3) := by decide +kernel
theorem dX12_init_195 : decode cX12_init 195 = .ok (.ifCond .ne 14, 3) := by decide +kernel
theorem dX12_init_198 : decode cX12_init 198 = .ok (.iconst 1, 1) := by decide +kernel
theorem dX12_init_199 : decode cX12_init 199 = .ok (.aload_n 1, 1) := by decide +kernel
theorem dX12_init_200 : decode cX12_init 200 = .ok (.bipush 9, 2) := by decide +kernel
theorem dX12_init_202 : decode cX12_init 202 = .ok (.invokestatic 66, 3) := by decide +kernel
theorem dX12_init_205 : decode cX12_init 205 = .ok (.iadd, 1) := by decide +kernel
theorem dX12_init_206 : decode cX12_init 206 = .ok (.goto 4, 3) := by decide +kernel
theorem dX12_init_209 : decode cX12_init 209 = .ok (.iconst 0, 1) := by decide +kernel
theorem dX12_init_210 : decode cX12_init 210 = .ok (.putfield 82, 3) := by decide +kernel
theorem dX12_init_213 : decode cX12_init 213 = .ok (.aload_n 0, 1) := by decide +kernel
theorem dX12_init_214 : decode cX12_init 214 = .ok (.aload_n 1, 1) := by decide +kernel
theorem dX12_init_215 : decode cX12_init 215 = .ok (.aload_n 0, 1) := by decide +kernel
theorem dX12_init_216 : decode cX12_init 216 = .ok (.getfield 72, 3) := by decide +kernel
theorem dX12_init_219 : decode cX12_init 219 = .ok (.invokestatic 66, 3) := by decide +kernel
theorem dX12_init_222 : decode cX12_init 222 = .ok (.putfield 85, 3) := by decide +kernel
theorem dX12_init_225 : decode cX12_init 225 = .ok (.aload_n 0, 1) := by decide +kernel
theorem dX12_init_226 : decode cX12_init 226 = .ok (.aload_n 1, 1) := by decide +kernel
theorem dX12_init_227 : decode cX12_init 227 = .ok (.bipush 12, 2) := by decide +kernel
theorem dX12_init_229 : decode cX12_init 229 = .ok (.invokestatic 66, 3) := by decide +kernel
theorem dX12_init_232 : decode cX12_init 232 = .ok (.putfield 88, 3) := by decide +kernel
theorem dX12_init_235 : decode cX12_init 235 = .ok (.iconst 0, 1) := by decide +kernel
theorem dX12_init_236 : decode cX12_init 236 = .ok (.istore_n 2, 1) := by decide +kernel
theorem dX12_init_237 : decode cX12_init 237 = .ok (.iload_n 2, 1) := by decide +kernel
theorem dX12_init_238 : decode cX12_init 238 = .ok (.aload_n 0, 1) := by decide +kernel
theorem dX12_init_239 : decode cX12_init 239 = .ok (.getfield 72, 3) := by decide +kernel
theorem dX12_init_242 : decode cX12_init 242 = .ok (.if_icmp .ge 161, 3) := by decide +kernel
theorem dX12_init_245 : decode cX12_init 245 = .ok (.aload_n 0, 1) := by decide +kernel
theorem dX12_init_246 : decode cX12_init 246 = .ok (.getfield 7, 3) := by decide +kernel
theorem dX12_init_249 : decode cX12_init 249 = .ok (.iload_n 2, 1) := by decide +kernel
theorem dX12_init_250 : decode cX12_init 250 = .ok (.iload_n 2, 1) := by decide +kernel
theorem dX12_init_251 : decode cX12_init 251 = .ok (.ifCond .ne 8, 3) := by decide +kernel
theorem dX12_init_254 : decode cX12_init 254 = .ok (.bipush (-2), 2) := by decide +kernel
theorem dX12_init_256 : decode cX12_init 256 = .ok (.goto 8, 3) := by decide +kernel
theorem dX12_init_259 : decode cX12_init 259 = .ok (.aload_n 1, 1) := by decide +kernel
theorem dX12_init_260 : decode cX12_init 260 = .ok (.iload_n 2, 1) := by decide +kernel
theorem dX12_init_261 : decode cX12_init 261 = .ok (.invokestatic 66, 3) := by decide +kernel
theorem dX12_init_264 : decode cX12_init 264 = .ok (.iastore, 1) := by decide +kernel
theorem dX12_init_265 : decode cX12_init 265 = .ok (.aload_n 0, 1) := by decide +kernel
theorem dX12_init_266 : decode cX12_init 266 = .ok (.getfield 13, 3) := by decide +kernel
theorem dX12_init_269 : decode cX12_init 269 = .ok (.iload_n 2, 1) := by decide +kernel
theorem dX12_init_270 : decode cX12_init 270 = .ok (.aload_n 1, 1) := by decide +kernel
theorem dX12_init_271 : decode cX12_init 271 = .ok (.bipush 7, 2) := by decide +kernel
theorem dX12_init_273 : decode cX12_init 273 = .ok (.invokestatic 66, 3) := by decide +kernel
theorem dX12_init_276 : decode cX12_init 276 = .ok (.iastore, 1) := by decide +kernel
theorem dX12_init_277 : decode cX12_init 277 = .ok (.aload_n 0, 1) := by decide +kernel
theorem dX12_init_278 : decode cX12_init 278 = .ok (.getfield 16, 3) := by decide +kernel
theorem dX12_init_281 : decode cX12_init 281 = .ok (.iload_n 2, 1) := by decide +kernel
theorem dX12_init_282 : decode cX12_init 282 = .ok (.aload_n 1, 1) := by decide +kernel
theorem dX12_init_283 : decode cX12_init 283 = .ok (.bipush 12, 2) := by decide +kernel
theorem dX12_init_285 : decode cX12_init 285 = .ok (.invokestatic 66, 3) := by decide +kernel
theorem dX12_init_288 : decode cX12_init 288 = .ok (.iastore, 1) := by decide +kernel
theorem dX12_init_289 : decode cX12_init 289 = .ok (.aload_n 0, 1) := by decide +kernel
theorem dX12_init_290 : decode cX12_init 290 = .ok (.getfield 19, 3) := by decide +kernel
theorem dX12_init_293 : decode cX12_init 293 = .ok (.iload_n 2, 1) := by decide +kernel
theorem dX12_init_294 : decode cX12_init 294 = .ok (.iconst 1, 1) := by decide +kernel
theorem dX12_init_295 : decode cX12_init 295 = .ok (.aload_n 1, 1) := by decide +kernel
theorem dX12_init_296 : decode cX12_init 296 = .ok (.bipush 20, 2) := by decide +kernel
theorem dX12_init_298 : decode cX12_init 298 = .ok (.invokestatic 66, 3) := by decide +kernel
theorem dX12_init_301 : decode cX12_init 301 = .ok (.iadd, 1) := by decide +kernel
theorem dX12_init_302 : decode cX12_init 302 = .ok (.iastore, 1) := by decide +kernel
theorem dX12_init_303 : decode cX12_init 303 = .ok (.aload_n 0, 1) := by decide +kernel
theorem dX12_init_304 : decode cX12_init 304 = .ok (.getfield 22, 3) := by decide +kernel
theorem dX12_init_307 : decode cX12_init 307 = .ok (.iload_n 2, 1) := by decide +kernel
theorem dX12_init_308 : decode cX12_init 308 = .ok (.aload_n 1, 1) := by decide +kernel
theorem dX12_init_309 : decode cX12_init 309 = .ok (.bipush 9, 2) := by decide +kernel
theorem dX12_init_311 : decode cX12_init 311 = .ok (.invokestatic 66, 3) := by decide +kernel
theorem dX12_init_314 : decode cX12_init 314 = .ok (.iastore, 1) := by decide +kernel
theorem dX12_init_315 : decode cX12_init 315 = .ok (.aload_n 0, 1) := by decide +kernel
theorem dX12_init_316 : decode cX12_init 316 = .ok (.getfield 25, 3) := by decide +kernel
theorem dX12_init_319 : decode cX12_init 319 = .ok (.iload_n 2, 1) := by decide +kernel
theorem dX12_init_320 : decode cX12_init 320 = .ok (.iconst 1, 1) := by decide +kernel
theorem dX12_init_321 : decode cX12_init 321 = .ok (.aload_n 1, 1) := by decide +kernel
theorem dX12_init_322 : decode cX12_init 322 = .ok (.iconst 3, 1) := by decide +kernel
theorem dX12_init_323 : decode cX12_init 323 = .ok (.invokestatic 66, 3) := by decide +kernel
theorem dX12_init_326 : decode cX12_init 326 = .ok (.iadd, 1) := by decide +kernel
theorem dX12_init_327 : decode cX12_init 327 = .ok (.iastore, 1) := by decide +kernel
theorem dX12_init_328 : decode cX12_init 328 = .ok (.aload_n 0, 1) := by decide +kernel
theorem dX12_init_329 : decode cX12_init 329 = .ok (.getfield 28, 3) := by decide +kernel
theorem dX12_init_332 : decode cX12_init 332 = .ok (.iload_n 2, 1) := by decide +kernel
theorem dX12_init_333 : decode cX12_init 333 = .ok (.aload_n 1, 1) := by decide +kernel
theorem dX12_init_334 : decode cX12_init 334 = .ok (.iconst 2, 1) := by decide +kernel
theorem dX12_init_335 : decode cX12_init 335 = .ok (.invokestatic 66, 3) := by decide +kernel
theorem dX12_init_338 : decode cX12_init 338 = .ok (.iastore, 1) := by decide +kernel
theorem dX12_init_339 : decode cX12_init 339 = .ok (.aload_n 0, 1) := by decide +kernel
theorem dX12_init_340 : decode cX12_init 340 = .ok (.getfield 31, 3) := by decide +kernel
theorem dX12_init_343 : decode cX12_init 343 = .ok (.iload_n 2, 1) := by decide +kernel
theorem dX12_init_344 : decode cX12_init 344 = .ok (.aload_n 1, 1) := by decide +kernel
theorem dX12_init_345 : decode cX12_init 345 = .ok (.iconst 5, 1) := by decide +kernel
theorem dX12_init_346 : decode cX12_init 346 = .ok (.invokestatic 66, 3) := by decide +kernel
theorem dX12_init_349 : decode cX12_init 349 = .ok (.ifCond .ne 7, 3) := by decide +kernel
theorem dX12_init_352 : decode cX12_init 352 = .ok (.iconst 1, 1) := by decide +kernel
theorem dX12_init_353 : decode cX12_init 353 = .ok (.goto 4, 3) := by decide +kernel
theorem dX12_init_356 : decode cX12_init 356 = .ok (.iconst 0, 1) := by decide +kernel
theorem dX12_init_357 : decode cX12_init 357 = .ok (.bastore, 1) := by decide +kernel
theorem dX12_init_358 : decode cX12_init 358 = .ok (.aload_n 0, 1) := by decide +kernel
theorem dX12_init_359 : decode cX12_init 359 = .ok (.getfield 35, 3) := by decide +kernel
theorem dX12_init_362 : decode cX12_init 362 = .ok (.iload_n 2, 1) := by decide +kernel
theorem dX12_init_363 : decode cX12_init 363 = .ok (.aload_n 0, 1) := by decide +kernel
theorem dX12_init_364 : decode cX12_init 364 = .ok (.getfield 19, 3) := by decide +kernel
theorem dX12_init_367 : decode cX12_init 367 = .ok (.iload_n 2, 1) := by decide +kernel
theorem dX12_init_368 : decode cX12_init 368 = .ok (.iaload, 1) := by decide +kernel
theorem dX12_init_369 : decode cX12_init 369 = .ok (.iastore, 1) := by decide +kernel
theorem dX12_init_370 : decode cX12_init 370 = .ok (.aload_n 0, 1) := by decide +kernel
theorem dX12_init_371 : decode cX12_init 371 = .ok (.getfield 41, 3) := by decide +kernel
theorem dX12_init_374 : decode cX12_init 374 = .ok (.iload_n 2, 1) := by decide +kernel
theorem dX12_init_375 : decode cX12_init 375 = .ok (.aload_n 0, 1) := by decide +kernel
theorem dX12_init_376 : decode cX12_init 376 = .ok (.getfield 19, 3) := by decide +kernel
theorem dX12_init_379 : decode cX12_init 379 = .ok (.iload_n 2, 1) := by decide +kernel
theorem dX12_init_380 : decode cX12_init 380 = .ok (.iaload, 1) := by decide +kernel
theorem dX12_init_381 : decode cX12_init 381 = .ok (.iastore, 1) := by decide +kernel
theorem dX12_init_382 : decode cX12_init 382 = .ok (.aload_n 0, 1) := by decide +kernel
theorem dX12_init_383 : decode cX12_init 383 = .ok (.getfield 62, 3) := by decide +kernel
theorem dX12_init_386 : decode cX12_init 386 = .ok (.new 59, 3) := by decide +kernel
theorem dX12_init_389 : decode cX12_init 389 = .ok (.dup, 1) := by decide +kernel
theorem dX12_init_390 : decode cX12_init 390 = .ok (.invokespecial 61, 3) := by decide +kernel
theorem dX12_init_393 : decode cX12_init 393 = .ok (.invokevirtual 91, 3) := by decide +kernel
theorem dX12_init_396 : decode cX12_init 396 = .ok (.pop, 1) := by decide +kernel
theorem dX12_init_397 : decode cX12_init 397 = .ok (.iinc 2 1, 3) := by decide +kernel
theorem dX12_init_400 : decode cX12_init 400 = .ok (.goto (-163), 3) := by decide +kernel
theorem dX12_init_403 : decode cX12_init 403 = .ok (.return_, 1) := by decide +kernel
theorem dX12_isLeaf_0 : decode cX12_isLeaf 0 = .ok (.iconst 0, 1) := by decide +kernel
theorem dX12_isLeaf_1 : decode cX12_isLeaf 1 = .ok (.istore_n 2, 1) := by decide +kernel
theorem dX12_isLeaf_2 : decode cX12_isLeaf 2 = .ok (.iload_n 2, 1) := by decide +kernel
theorem dX12_isLeaf_3 : decode cX12_isLeaf 3 = .ok (.aload_n 0, 1) := by decide +kernel
theorem dX12_isLeaf_4 : decode cX12_isLeaf 4 = .ok (.getfield 72, 3) := by decide +kernel
theorem dX12_isLeaf_7 : decode cX12_isLeaf 7 = .ok (.if_icmp .ge 21, 3) := by decide +kernel
theorem dX12_isLeaf_10 : decode cX12_isLeaf 10 = .ok (.aload_n 0, 1) := by decide +kernel
theorem dX12_isLeaf_11 : decode cX12_isLeaf 11 = .ok (.getfield 7, 3) := by decide +kernel
theorem dX12_isLeaf_14 : decode cX12_isLeaf 14 = .ok (.iload_n 2, 1) := by decide +kernel
theorem dX12_isLeaf_15 : decode cX12_isLeaf 15 = .ok (.iaload, 1) := by decide +kernel
theorem dX12_isLeaf_16 : decode cX12_isLeaf 16 = .ok (.iload_n 1, 1) := by decide +kernel
theorem dX12_isLeaf_17 : decode cX12_isLeaf 17 = .ok (.if_icmp .ne 5, 3) := by decide +kernel
theorem dX12_isLeaf_20 : decode cX12_isLeaf 20 = .ok (.iconst 0, 1) := by decide +kernel
theorem dX12_isLeaf_21 : decode cX12_isLeaf 21 = .ok (.ireturn, 1) := by decide +kernel
theorem dX12_isLeaf_22 : decode cX12_isLeaf 22 = .ok (.iinc 2 1, 3) := by decide +kernel
theorem dX12_isLeaf_25 : decode cX12_isLeaf 25 = .ok (.goto (-23), 3) := by decide +kernel
theorem dX12_isLeaf_28 : decode cX12_isLeaf 28 = .ok (.iconst 1, 1) := by decide +kernel
theorem dX12_isLeaf_29 : decode cX12_isLeaf 29 = .ok (.ireturn, 1) := by decide +kernel
theorem dX12_steps_0 : decode cX12_steps 0 = .ok (.iload_n 1, 1) := by decide +kernel
theorem dX12_steps_1 : decode cX12_steps 1 = .ok (.iload_n 2, 1) := by decide +kernel
theorem dX12_steps_2 : decode cX12_steps 2 = .ok (.if_icmp .ne 7, 3) := by decide +kernel
theorem dX12_steps_5 : decode cX12_steps 5 = .ok (.iconst 0, 1) := by decide +kernel
theorem dX12_steps_6 : decode cX12_steps 6 = .ok (.goto 16, 3) := by decide +kernel
theorem dX12_steps_9 : decode cX12_steps 9 = .ok (.iconst 1, 1) := by decide +kernel
theorem dX12_steps_10 : decode cX12_steps 10 = .ok (.aload_n 0, 1) := by decide +kernel
theorem dX12_steps_11 : decode cX12_steps 11 = .ok (.aload_n 0, 1) := by decide +kernel
theorem dX12_steps_12 : decode cX12_steps 12 = .ok (.getfield 7, 3) := by decide +kernel
theorem dX12_steps_15 : decode cX12_steps 15 = .ok (.iload_n 1, 1) := by decide +kernel
theorem dX12_steps_16 : decode cX12_steps 16 = .ok (.iaload, 1) := by decide +kernel
theorem dX12_steps_17 : decode cX12_steps 17 = .ok (.iload_n 2, 1) := by decide +kernel
theorem dX12_steps_18 : decode cX12_steps 18 = .ok (.invokevirtual 95, 3) := by decide +kernel
theorem dX12_steps_21 : decode cX12_steps 21 = .ok (.iadd, 1) := by decide +kernel
theorem dX12_steps_22 : decode cX12_steps 22 = .ok (.ireturn, 1) := by decide +kernel
theorem dX12_lender_0 : decode cX12_lender 0 = .ok (.iload_n 1, 1) := by decide +kernel
theorem dX12_lender_1 : decode cX12_lender 1 = .ok (.istore_n 3, 1) := by decide +kernel
theorem dX12_lender_2 : decode cX12_lender 2 = .ok (.iload_n 3, 1) := by decide +kernel
theorem dX12_lender_3 : decode cX12_lender 3 = .ok (.ifCond .lt 26, 3) := by decide +kernel
theorem dX12_lender_6 : decode cX12_lender 6 = .ok (.aload_n 0, 1) := by decide +kernel
theorem dX12_lender_7 : decode cX12_lender 7 = .ok (.getfield 41, 3) := by decide +kernel
theorem dX12_lender_10 : decode cX12_lender 10 = .ok (.iload_n 3, 1) := by decide +kernel
theorem dX12_lender_11 : decode cX12_lender 11 = .ok (.iaload, 1) := by decide +kernel
theorem dX12_lender_12 : decode cX12_lender 12 = .ok (.iload_n 2, 1) := by decide +kernel
theorem dX12_lender_13 : decode cX12_lender 13 = .ok (.if_icmp .ge 6, 3) := by decide +kernel
theorem dX12_lender_16 : decode cX12_lender 16 = .ok (.bipush (-2), 2) := by decide +kernel
theorem dX12_lender_18 : decode cX12_lender 18 = .ok (.ireturn, 1) := by decide +kernel
theorem dX12_lender_19 : decode cX12_lender 19 = .ok (.aload_n 0, 1) := by decide +kernel
theorem dX12_lender_20 : decode cX12_lender 20 = .ok (.getfield 7, 3) := by decide +kernel
theorem dX12_lender_23 : decode cX12_lender 23 = .ok (.iload_n 3, 1) := by decide +kernel
theorem dX12_lender_24 : decode cX12_lender 24 = .ok (.iaload, 1) := by decide +kernel
theorem dX12_lender_25 : decode cX12_lender 25 = .ok (.istore_n 3, 1) := by decide +kernel
theorem dX12_lender_26 : decode cX12_lender 26 = .ok (.goto (-24), 3) := by decide +kernel
theorem dX12_lender_29 : decode cX12_lender 29 = .ok (.iload_n 1, 1) := by decide +kernel
theorem dX12_lender_30 : decode cX12_lender 30 = .ok (.istore_n 3, 1) := by decide +kernel
theorem dX12_lender_31 : decode cX12_lender 31 = .ok (.iload_n 3, 1) := by decide +kernel
theorem dX12_lender_32 : decode cX12_lender 32 = .ok (.ifCond .lt 44, 3) := by decide +kernel
theorem dX12_lender_35 : decode cX12_lender 35 = .ok (.aload_n 0, 1) := by decide +kernel
theorem dX12_lender_36 : decode cX12_lender 36 = .ok (.getfield 35, 3) := by decide +kernel
theorem dX12_lender_39 : decode cX12_lender 39 = .ok (.iload_n 3, 1) := by decide +kernel
theorem dX12_lender_40 : decode cX12_lender 40 = .ok (.iaload, 1) := by decide +kernel
theorem dX12_lender_41 : decode cX12_lender 41 = .ok (.aload_n 0, 1) := by decide +kernel
theorem dX12_lender_42 : decode cX12_lender 42 = .ok (.getfield 38, 3) := by decide +kernel
theorem dX12_lender_45 : decode cX12_lender 45 = .ok (.iload_n 3, 1) := by decide +kernel
theorem dX12_lender_46 : decode cX12_lender 46 = .ok (.iaload, 1) := by decide +kernel
theorem dX12_lender_47 : decode cX12_lender 47 = .ok (.iadd, 1) := by decide +kernel
theorem dX12_lender_48 : decode cX12_lender 48 = .ok (.iload_n 2, 1) := by decide +kernel
theorem dX12_lender_49 : decode cX12_lender 49 = .ok (.if_icmp .lt 5, 3) := by decide +kernel
theorem dX12_lender_52 : decode cX12_lender 52 = .ok (.iload_n 3, 1) := by decide +kernel
theorem dX12_lender_53 : decode cX12_lender 53 = .ok (.ireturn, 1) := by decide +kernel
theorem dX12_lender_54 : decode cX12_lender 54 = .ok (.aload_n 0, 1) := by decide +kernel
theorem dX12_lender_55 : decode cX12_lender 55 = .ok (.getfield 31, 3) := by decide +kernel
theorem dX12_lender_58 : decode cX12_lender 58 = .ok (.iload_n 3, 1) := by decide +kernel
theorem dX12_lender_59 : decode cX12_lender 59 = .ok (.baload, 1) := by decide +kernel
theorem dX12_lender_60 : decode cX12_lender 60 = .ok (.ifCond .eq 6, 3) := by decide +kernel
theorem dX12_lender_63 : decode cX12_lender 63 = .ok (.bipush (-2), 2) := by decide +kernel
theorem dX12_lender_65 : decode cX12_lender 65 = .ok (.ireturn, 1) := by decide +kernel
theorem dX12_lender_66 : decode cX12_lender 66 = .ok (.aload_n 0, 1) := by decide +kernel
theorem dX12_lender_67 : decode cX12_lender 67 = .ok (.getfield 7, 3) := by decide +kernel
theorem dX12_lender_70 : decode cX12_lender 70 = .ok (.iload_n 3, 1) := by decide +kernel
theorem dX12_lender_71 : decode cX12_lender 71 = .ok (.iaload, 1) := by decide +kernel
theorem dX12_lender_72 : decode cX12_lender 72 = .ok (.istore_n 3, 1) := by decide +kernel
theorem dX12_lender_73 : decode cX12_lender 73 = .ok (.goto (-42), 3) := by decide +kernel
theorem dX12_lender_76 : decode cX12_lender 76 = .ok (.bipush (-2), 2) := by decide +kernel
theorem dX12_lender_78 : decode cX12_lender 78 = .ok (.ireturn, 1) := by decide +kernel
theorem dX12_send_0 : decode cX12_send 0 = .ok (.aload_n 0, 1) := by decide +kernel
theorem dX12_send_1 : decode cX12_send 1 = .ok (.iload_n 1, 1) := by decide +kernel
theorem dX12_send_2 : decode cX12_send 2 = .ok (.iload_n 2, 1) := by decide +kernel
theorem dX12_send_3 : decode cX12_send 3 = .ok (.invokevirtual 99, 3) := by decide +kernel
theorem dX12_send_6 : decode cX12_send 6 = .ok (.istore_n 3, 1) := by decide +kernel
theorem dX12_send_7 : decode cX12_send 7 = .ok (.iload_n 1, 1) := by decide +kernel
theorem dX12_send_8 : decode cX12_send 8 = .ok (.istore 4, 2) := by decide +kernel
theorem dX12_send_10 : decode cX12_send 10 = .ok (.iload 4, 2) := by decide +kernel
theorem dX12_send_12 : decode cX12_send 12 = .ok (.ifCond .lt 26, 3) := by decide +kernel
theorem dX12_send_15 : decode cX12_send 15 = .ok (.aload_n 0, 1) := by decide +kernel
theorem dX12_send_16 : decode cX12_send 16 = .ok (.getfield 41, 3) := by decide +kernel
theorem dX12_send_19 : decode cX12_send 19 = .ok (.iload 4, 2) := by decide +kernel
theorem dX12_send_21 : decode cX12_send 21 = .ok (.dup2, 1) := by decide +kernel
theorem dX12_send_22 : decode cX12_send 22 = .ok (.iaload, 1) := by decide +kernel
theorem dX12_send_23 : decode cX12_send 23 = .ok (.iload_n 2, 1) := by decide +kernel
theorem dX12_send_24 : decode cX12_send 24 = .ok (.isub, 1) := by decide +kernel
theorem dX12_send_25 : decode cX12_send 25 = .ok (.iastore, 1) := by decide +kernel
theorem dX12_send_26 : decode cX12_send 26 = .ok (.aload_n 0, 1) := by decide +kernel
theorem dX12_send_27 : decode cX12_send 27 = .ok (.getfield 7, 3) := by decide +kernel
theorem dX12_send_30 : decode cX12_send 30 = .ok (.iload 4, 2) := by decide +kernel
theorem dX12_send_32 : decode cX12_send 32 = .ok (.iaload, 1) := by decide +kernel
theorem dX12_send_33 : decode cX12_send 33 = .ok (.istore 4, 2) := by decide +kernel
theorem dX12_send_35 : decode cX12_send 35 = .ok (.goto (-25), 3) := by decide +kernel
theorem dX12_send_38 : decode cX12_send 38 = .ok (.iload_n 2, 1) := by decide +kernel
theorem dX12_send_39 : decode cX12_send 39 = .ok (.aload_n 0, 1) := by decide +kernel
theorem dX12_send_40 : decode cX12_send 40 = .ok (.getfield 35, 3) := by decide +kernel
theorem dX12_send_43 : decode cX12_send 43 = .ok (.iload_n 3, 1) := by decide +kernel
theorem dX12_send_44 : decode cX12_send 44 = .ok (.iaload, 1) := by decide +kernel
theorem dX12_send_45 : decode cX12_send 45 = .ok (.invokestatic 102, 3) := by decide +kernel
theorem dX12_send_48 : decode cX12_send 48 = .ok (.istore 4, 2) := by decide +kernel
theorem dX12_send_50 : decode cX12_send 50 = .ok (.aload_n 0, 1) := by decide +kernel
theorem dX12_send_51 : decode cX12_send 51 = .ok (.getfield 35, 3) := by decide +kernel
theorem dX12_send_54 : decode cX12_send 54 = .ok (.iload_n 3, 1) := by decide +kernel
theorem dX12_send_55 : decode cX12_send 55 = .ok (.dup2, 1) := by decide +kernel
theorem dX12_send_56 : decode cX12_send 56 = .ok (.iaload, 1) := by decide +kernel
theorem dX12_send_57 : decode cX12_send 57 = .ok (.iload 4, 2) := by decide +kernel
theorem dX12_send_59 : decode cX12_send 59 = .ok (.isub, 1) := by decide +kernel
theorem dX12_send_60 : decode cX12_send 60 = .ok (.iastore, 1) := by decide +kernel
theorem dX12_send_61 : decode cX12_send 61 = .ok (.aload_n 0, 1) := by decide +kernel
theorem dX12_send_62 : decode cX12_send 62 = .ok (.getfield 38, 3) := by decide +kernel
theorem dX12_send_65 : decode cX12_send 65 = .ok (.iload_n 3, 1) := by decide +kernel
theorem dX12_send_66 : decode cX12_send 66 = .ok (.dup2, 1) := by decide +kernel
theorem dX12_send_67 : decode cX12_send 67 = .ok (.iaload, 1) := by decide +kernel
theorem dX12_send_68 : decode cX12_send 68 = .ok (.iload_n 2, 1) := by decide +kernel
theorem dX12_send_69 : decode cX12_send 69 = .ok (.iload 4, 2) := by decide +kernel
theorem dX12_send_71 : decode cX12_send 71 = .ok (.isub, 1) := by decide +kernel
theorem dX12_send_72 : decode cX12_send 72 = .ok (.isub, 1) := by decide +kernel
theorem dX12_send_73 : decode cX12_send 73 = .ok (.iastore, 1) := by decide +kernel
theorem dX12_send_74 : decode cX12_send 74 = .ok (.aload_n 0, 1) := by decide +kernel
theorem dX12_send_75 : decode cX12_send 75 = .ok (.getfield 7, 3) := by decide +kernel
theorem dX12_send_78 : decode cX12_send 78 = .ok (.iload_n 3, 1) := by decide +kernel
theorem dX12_send_79 : decode cX12_send 79 = .ok (.iaload, 1) := by decide +kernel
theorem dX12_send_80 : decode cX12_send 80 = .ok (.istore 5, 2) := by decide +kernel
theorem dX12_send_82 : decode cX12_send 82 = .ok (.iload 5, 2) := by decide +kernel
theorem dX12_send_84 : decode cX12_send 84 = .ok (.ifCond .lt 35, 3) := by decide +kernel
theorem dX12_send_87 : decode cX12_send 87 = .ok (.aload_n 0, 1) := by decide +kernel
theorem dX12_send_88 : decode cX12_send 88 = .ok (.getfield 35, 3) := by decide +kernel
theorem dX12_send_91 : decode cX12_send 91 = .ok (.iload 5, 2) := by decide +kernel
theorem dX12_send_93 : decode cX12_send 93 = .ok (.iconst 0, 1) := by decide +kernel
theorem dX12_send_94 : decode cX12_send 94 = .ok (.aload_n 0, 1) := by decide +kernel
theorem dX12_send_95 : decode cX12_send 95 = .ok (.getfield 35, 3) := by decide +kernel
theorem dX12_send_98 : decode cX12_send 98 = .ok (.iload 5, 2) := by decide +kernel
theorem dX12_send_100 : decode cX12_send 100 = .ok (.iaload, 1) := by decide +kernel
theorem dX12_send_101 : decode cX12_send 101 = .ok (.iload_n 2, 1) := by decide +kernel
theorem dX12_send_102 : decode cX12_send 102 = .ok (.isub, 1) := by decide +kernel
theorem dX12_send_103 : decode cX12_send 103 = .ok (.invokestatic 107, 3) := by decide +kernel
theorem dX12_send_106 : decode cX12_send 106 = .ok (.iastore, 1) := by decide +kernel
theorem dX12_send_107 : decode cX12_send 107 = .ok (.aload_n 0, 1) := by decide +kernel
theorem dX12_send_108 : decode cX12_send 108 = .ok (.getfield 7, 3) := by decide +kernel
theorem dX12_send_111 : decode cX12_send 111 = .ok (.iload 5, 2) := by decide +kernel
theorem dX12_send_113 : decode cX12_send 113 = .ok (.iaload, 1) := by decide +kernel
theorem dX12_send_114 : decode cX12_send 114 = .ok (.istore 5, 2) := by decide +kernel
theorem dX12_send_116 : decode cX12_send 116 = .ok (.goto (-34), 3) := by decide +kernel
theorem dX12_send_119 : decode cX12_send 119 = .ok (.aload_n 0, 1) := by decide +kernel
theorem dX12_send_120 : decode cX12_send 120 = .ok (.getfield 50, 3) := by decide +kernel
theorem dX12_send_123 : decode cX12_send 123 = .ok (.iload_n 1, 1) := by decide +kernel
theorem dX12_send_124 : decode cX12_send 124 = .ok (.dup2, 1) := by decide +kernel
theorem dX12_send_125 : decode cX12_send 125 = .ok (.iaload, 1) := by decide +kernel
theorem dX12_send_126 : decode cX12_send 126 = .ok (.iload_n 3, 1) := by decide +kernel
theorem dX12_send_127 : decode cX12_send 127 = .ok (.iload_n 1, 1) := by decide +kernel
theorem dX12_send_128 : decode cX12_send 128 = .ok (.if_icmp .ne 7, 3) := by decide +kernel
theorem dX12_send_131 : decode cX12_send 131 = .ok (.iconst 0, 1) := by decide +kernel
theorem dX12_send_132 : decode cX12_send 132 = .ok (.goto 4, 3) := by decide +kernel
theorem dX12_send_135 : decode cX12_send 135 = .ok (.iload_n 2, 1) := by decide +kernel
theorem dX12_send_136 : decode cX12_send 136 = .ok (.iadd, 1) := by decide +kernel
theorem dX12_send_137 : decode cX12_send 137 = .ok (.iastore, 1) := by decide +kernel
theorem dX12_send_138 : decode cX12_send 138 = .ok (.aload_n 0, 1) := by decide +kernel
theorem dX12_send_139 : decode cX12_send 139 = .ok (.getfield 53, 3) := by decide +kernel
theorem dX12_send_142 : decode cX12_send 142 = .ok (.iload_n 3, 1) := by decide +kernel
theorem dX12_send_143 : decode cX12_send 143 = .ok (.dup2, 1) := by decide +kernel
theorem dX12_send_144 : decode cX12_send 144 = .ok (.iaload, 1) := by decide +kernel
theorem dX12_send_145 : decode cX12_send 145 = .ok (.iload_n 3, 1) := by decide +kernel
theorem dX12_send_146 : decode cX12_send 146 = .ok (.iload_n 1, 1) := by decide +kernel
theorem dX12_send_147 : decode cX12_send 147 = .ok (.if_icmp .ne 7, 3) := by decide +kernel
theorem dX12_send_150 : decode cX12_send 150 = .ok (.iconst 0, 1) := by decide +kernel
theorem dX12_send_151 : decode cX12_send 151 = .ok (.goto 4, 3) := by decide +kernel
theorem dX12_send_154 : decode cX12_send 154 = .ok (.iload_n 2, 1) := by decide +kernel
theorem dX12_send_155 : decode cX12_send 155 = .ok (.iadd, 1) := by decide +kernel
theorem dX12_send_156 : decode cX12_send 156 = .ok (.iastore, 1) := by decide +kernel
theorem dX12_send_157 : decode cX12_send 157 = .ok (.aload_n 0, 1) := by decide +kernel
theorem dX12_send_158 : decode cX12_send 158 = .ok (.getfield 44, 3) := by decide +kernel
theorem dX12_send_161 : decode cX12_send 161 = .ok (.iload_n 1, 1) := by decide +kernel
theorem dX12_send_162 : decode cX12_send 162 = .ok (.dup2, 1) := by decide +kernel
theorem dX12_send_163 : decode cX12_send 163 = .ok (.iaload, 1) := by decide +kernel
theorem dX12_send_164 : decode cX12_send 164 = .ok (.iload_n 2, 1) := by decide +kernel
theorem dX12_send_165 : decode cX12_send 165 = .ok (.iadd, 1) := by decide +kernel
theorem dX12_send_166 : decode cX12_send 166 = .ok (.iastore, 1) := by decide +kernel
theorem dX12_send_167 : decode cX12_send 167 = .ok (.aload_n 0, 1) := by decide +kernel
theorem dX12_send_168 : decode cX12_send 168 = .ok (.getfield 47, 3) := by decide +kernel
theorem dX12_send_171 : decode cX12_send 171 = .ok (.iload_n 1, 1) := by decide +kernel
theorem dX12_send_172 : decode cX12_send 172 = .ok (.dup2, 1) := by decide +kernel
theorem dX12_send_173 : decode cX12_send 173 = .ok (.iaload, 1) := by decide +kernel
theorem dX12_send_174 : decode cX12_send 174 = .ok (.iconst 1, 1) := by decide +kernel
theorem dX12_send_175 : decode cX12_send 175 = .ok (.iadd, 1) := by decide +kernel
theorem dX12_send_176 : decode cX12_send 176 = .ok (.iastore, 1) := by decide +kernel
theorem dX12_send_177 : decode cX12_send 177 = .ok (.return_, 1) := by decide +kernel
theorem dX12_refill_0 : decode cX12_refill 0 = .ok (.iconst 0, 1) := by decide +kernel
theorem dX12_refill_1 : decode cX12_refill 1 = .ok (.istore_n 1, 1) := by decide +kernel
theorem dX12_refill_2 : decode cX12_refill 2 = .ok (.iload_n 1, 1) := by decide +kernel
theorem dX12_refill_3 : decode cX12_refill 3 = .ok (.aload_n 0, 1) := by decide +kernel
theorem dX12_refill_4 : decode cX12_refill 4 = .ok (.getfield 72, 3) := by decide +kernel
theorem dX12_refill_7 : decode cX12_refill 7 = .ok (.if_icmp .ge 97, 3) := by decide +kernel
theorem dX12_refill_10 : decode cX12_refill 10 = .ok (.aload_n 0, 1) := by decide +kernel
theorem dX12_refill_11 : decode cX12_refill 11 = .ok (.getfield 35, 3) := by decide +kernel
theorem dX12_refill_14 : decode cX12_refill 14 = .ok (.iload_n 1, 1) := by decide +kernel
theorem dX12_refill_15 : decode cX12_refill 15 = .ok (.iaload, 1) := by decide +kernel
theorem dX12_refill_16 : decode cX12_refill 16 = .ok (.aload_n 0, 1) := by decide +kernel
theorem dX12_refill_17 : decode cX12_refill 17 = .ok (.getfield 13, 3) := by decide +kernel
theorem dX12_refill_20 : decode cX12_refill 20 = .ok (.iload_n 1, 1) := by decide +kernel
theorem dX12_refill_21 : decode cX12_refill 21 = .ok (.iaload, 1) := by decide +kernel
theorem dX12_refill_22 : decode cX12_refill 22 = .ok (.iadd, 1) := by decide +kernel
theorem dX12_refill_23 : decode cX12_refill 23 = .ok (.istore_n 2, 1) := by decide +kernel
theorem dX12_refill_24 : decode cX12_refill 24 = .ok (.aload_n 0, 1) := by decide +kernel
theorem dX12_refill_25 : decode cX12_refill 25 = .ok (.getfield 35, 3) := by decide +kernel
theorem dX12_refill_28 : decode cX12_refill 28 = .ok (.iload_n 1, 1) := by decide +kernel
theorem dX12_refill_29 : decode cX12_refill 29 = .ok (.aload_n 0, 1) := by decide +kernel
theorem dX12_refill_30 : decode cX12_refill 30 = .ok (.getfield 19, 3) := by decide +kernel
theorem dX12_refill_33 : decode cX12_refill 33 = .ok (.iload_n 1, 1) := by decide +kernel
theorem dX12_refill_34 : decode cX12_refill 34 = .ok (.iaload, 1) := by decide +kernel
theorem dX12_refill_35 : decode cX12_refill 35 = .ok (.iload_n 2, 1) := by decide +kernel
theorem dX12_refill_36 : decode cX12_refill 36 = .ok (.invokestatic 102, 3) := by decide +kernel
theorem dX12_refill_39 : decode cX12_refill 39 = .ok (.iastore, 1) := by decide +kernel
theorem dX12_refill_40 : decode cX12_refill 40 = .ok (.aload_n 0, 1) := by decide +kernel
theorem dX12_refill_41 : decode cX12_refill 41 = .ok (.getfield 38, 3) := by decide +kernel
theorem dX12_refill_44 : decode cX12_refill 44 = .ok (.iload_n 1, 1) := by decide +kernel
theorem dX12_refill_45 : decode cX12_refill 45 = .ok (.aload_n 0, 1) := by decide +kernel
theorem dX12_refill_46 : decode cX12_refill 46 = .ok (.getfield 22, 3) := by decide +kernel
theorem dX12_refill_49 : decode cX12_refill 49 = .ok (.iload_n 1, 1) := by decide +kernel
theorem dX12_refill_50 : decode cX12_refill 50 = .ok (.iaload, 1) := by decide +kernel
theorem dX12_refill_51 : decode cX12_refill 51 = .ok (.aload_n 0, 1) := by decide +kernel
theorem dX12_refill_52 : decode cX12_refill 52 = .ok (.getfield 38, 3) := by decide +kernel
theorem dX12_refill_55 : decode cX12_refill 55 = .ok (.iload_n 1, 1) := by decide +kernel
theorem dX12_refill_56 : decode cX12_refill 56 = .ok (.iaload, 1) := by decide +kernel
theorem dX12_refill_57 : decode cX12_refill 57 = .ok (.iload_n 2, 1) := by decide +kernel
theorem dX12_refill_58 : decode cX12_refill 58 = .ok (.iadd, 1) := by decide +kernel
theorem dX12_refill_59 : decode cX12_refill 59 = .ok (.aload_n 0, 1) := by decide +kernel
theorem dX12_refill_60 : decode cX12_refill 60 = .ok (.getfield 35, 3) := by decide +kernel
theorem dX12_refill_63 : decode cX12_refill 63 = .ok (.iload_n 1, 1) := by decide +kernel
theorem dX12_refill_64 : decode cX12_refill 64 = .ok (.iaload, 1) := by decide +kernel
theorem dX12_refill_65 : decode cX12_refill 65 = .ok (.isub, 1) := by decide +kernel
theorem dX12_refill_66 : decode cX12_refill 66 = .ok (.invokestatic 102, 3) := by decide +kernel
theorem dX12_refill_69 : decode cX12_refill 69 = .ok (.iastore, 1) := by decide +kernel
theorem dX12_refill_70 : decode cX12_refill 70 = .ok (.aload_n 0, 1) := by decide +kernel
theorem dX12_refill_71 : decode cX12_refill 71 = .ok (.getfield 41, 3) := by decide +kernel
theorem dX12_refill_74 : decode cX12_refill 74 = .ok (.iload_n 1, 1) := by decide +kernel
theorem dX12_refill_75 : decode cX12_refill 75 = .ok (.aload_n 0, 1) := by decide +kernel
theorem dX12_refill_76 : decode cX12_refill 76 = .ok (.getfield 19, 3) := by decide +kernel
theorem dX12_refill_79 : decode cX12_refill 79 = .ok (.iload_n 1, 1) := by decide +kernel
theorem dX12_refill_80 : decode cX12_refill 80 = .ok (.iaload, 1) := by decide +kernel
theorem dX12_refill_81 : decode cX12_refill 81 = .ok (.aload_n 0, 1) := by decide +kernel
theorem dX12_refill_82 : decode cX12_refill 82 = .ok (.getfield 41, 3) := by decide +kernel
theorem dX12_refill_85 : decode cX12_refill 85 = .ok (.iload_n 1, 1) := by decide +kernel
theorem dX12_refill_86 : decode cX12_refill 86 = .ok (.iaload, 1) := by decide +kernel
theorem dX12_refill_87 : decode cX12_refill 87 = .ok (.aload_n 0, 1) := by decide +kernel
theorem dX12_refill_88 : decode cX12_refill 88 = .ok (.getfield 16, 3) := by decide +kernel
theorem dX12_refill_91 : decode cX12_refill 91 = .ok (.iload_n 1, 1) := by decide +kernel
theorem dX12_refill_92 : decode cX12_refill 92 = .ok (.iaload, 1) := by decide +kernel
theorem dX12_refill_93 : decode cX12_refill 93 = .ok (.iadd, 1) := by decide +kernel
theorem dX12_refill_94 : decode cX12_refill 94 = .ok (.invokestatic 102, 3) := by decide +kernel
theorem dX12_refill_97 : decode cX12_refill 97 = .ok (.iastore, 1) := by decide +kernel
theorem dX12_refill_98 : decode cX12_refill 98 = .ok (.iinc 1 1, 3) := by decide +kernel
theorem dX12_refill_101 : decode cX12_refill 101 = .ok (.goto (-99), 3) := by decide +kernel
theorem dX12_refill_104 : decode cX12_refill 104 = .ok (.return_, 1) := by decide +kernel
theorem dX12_first_0 : decode cX12_first 0 = .ok (.bipush (-2), 2) := by decide +kernel
theorem dX12_first_2 : decode cX12_first 2 = .ok (.istore_n 1, 1) := by decide +kernel
theorem dX12_first_3 : decode cX12_first 3 = .ok (.iconst 0, 1) := by decide +kernel
theorem dX12_first_4 : decode cX12_first 4 = .ok (.istore_n 2, 1) := by decide +kernel
theorem dX12_first_5 : decode cX12_first 5 = .ok (.iload_n 2, 1) := by decide +kernel
theorem dX12_first_6 : decode cX12_first 6 = .ok (.aload_n 0, 1) := by decide +kernel
theorem dX12_first_7 : decode cX12_first 7 = .ok (.getfield 72, 3) := by decide +kernel
theorem dX12_first_10 : decode cX12_first 10 = .ok (.if_icmp .ge 72, 3) := by decide +kernel
theorem dX12_first_13 : decode cX12_first 13 = .ok (.aload_n 0, 1) := by decide +kernel
theorem dX12_first_14 : decode cX12_first 14 = .ok (.getfield 62, 3) := by decide +kernel
theorem dX12_first_17 : decode cX12_first 17 = .ok (.iload_n 2, 1) := by decide +kernel
theorem dX12_first_18 : decode cX12_first 18 = .ok (.invokevirtual 110, 3) := by decide +kernel
theorem dX12_first_21 : decode cX12_first 21 = .ok (.checkcast 59, 3) := by decide +kernel
theorem dX12_first_24 : decode cX12_first 24 = .ok (.invokevirtual 114, 3) := by decide +kernel
theorem dX12_first_27 : decode cX12_first 27 = .ok (.ifCond .ne 49, 3) := by decide +kernel
theorem dX12_first_30 : decode cX12_first 30 = .ok (.aload_n 0, 1) := by decide +kernel
theorem dX12_first_31 : decode cX12_first 31 = .ok (.iload_n 2, 1) := by decide +kernel
theorem dX12_first_32 : decode cX12_first 32 = .ok (.aload_n 0, 1) := by decide +kernel
theorem dX12_first_33 : decode cX12_first 33 = .ok (.getfield 62, 3) := by decide +kernel
theorem dX12_first_36 : decode cX12_first 36 = .ok (.iload_n 2, 1) := by decide +kernel
theorem dX12_first_37 : decode cX12_first 37 = .ok (.invokevirtual 110, 3) := by decide +kernel
theorem dX12_first_40 : decode cX12_first 40 = .ok (.checkcast 59, 3) := by decide +kernel
theorem dX12_first_43 : decode cX12_first 43 = .ok (.iconst 0, 1) := by decide +kernel
theorem dX12_first_44 : decode cX12_first 44 = .ok (.invokevirtual 110, 3) := by decide +kernel
theorem dX12_first_47 : decode cX12_first 47 = .ok (.checkcast 118, 3) := by decide +kernel
theorem dX12_first_50 : decode cX12_first 50 = .ok (.iconst 1, 1) := by decide +kernel
theorem dX12_first_51 : decode cX12_first 51 = .ok (.iaload, 1) := by decide +kernel
theorem dX12_first_52 : decode cX12_first 52 = .ok (.invokevirtual 99, 3) := by decide +kernel
theorem dX12_first_55 : decode cX12_first 55 = .ok (.ifCond .ge 6, 3) := by decide +kernel
theorem dX12_first_58 : decode cX12_first 58 = .ok (.goto 18, 3) := by decide +kernel
theorem dX12_first_61 : decode cX12_first 61 = .ok (.iload_n 1, 1) := by decide +kernel
theorem dX12_first_62 : decode cX12_first 62 = .ok (.ifCond .lt 12, 3) := by decide +kernel
theorem dX12_first_65 : decode cX12_first 65 = .ok (.aload_n 0, 1) := by decide +kernel
theorem dX12_first_66 : decode cX12_first 66 = .ok (.iload_n 2, 1) := by decide +kernel
theorem dX12_first_67 : decode cX12_first 67 = .ok (.iload_n 1, 1) := by decide +kernel
theorem dX12_first_68 : decode cX12_first 68 = .ok (.invokevirtual 119, 3) := by decide +kernel
theorem dX12_first_71 : decode cX12_first 71 = .ok (.ifCond .eq 5, 3) := by decide +kernel
theorem dX12_first_74 : decode cX12_first 74 = .ok (.iload_n 2, 1) := by decide +kernel
theorem dX12_first_75 : decode cX12_first 75 = .ok (.istore_n 1, 1) := by decide +kernel
theorem dX12_first_76 : decode cX12_first 76 = .ok (.iinc 2 1, 3) := by decide +kernel
theorem dX12_first_79 : decode cX12_first 79 = .ok (.goto (-74), 3) := by decide +kernel
theorem dX12_first_82 : decode cX12_first 82 = .ok (.iload_n 1, 1) := by decide +kernel
theorem dX12_first_83 : decode cX12_first 83 = .ok (.ireturn, 1) := by decide +kernel
theorem dX12_isAhead_0 : decode cX12_isAhead 0 = .ok (.aload_n 0, 1) := by decide +kernel
theorem dX12_isAhead_1 : decode cX12_isAhead 1 = .ok (.iload_n 1, 1) := by decide +kernel
theorem dX12_isAhead_2 : decode cX12_isAhead 2 = .ok (.aload_n 0, 1) := by decide +kernel
theorem dX12_isAhead_3 : decode cX12_isAhead 3 = .ok (.iload_n 1, 1) := by decide +kernel
theorem dX12_isAhead_4 : decode cX12_isAhead 4 = .ok (.aload_n 0, 1) := by decide +kernel
theorem dX12_isAhead_5 : decode cX12_isAhead 5 = .ok (.getfield 62, 3) := by decide +kernel
theorem dX12_isAhead_8 : decode cX12_isAhead 8 = .ok (.iload_n 1, 1) := by decide +kernel
theorem dX12_isAhead_9 : decode cX12_isAhead 9 = .ok (.invokevirtual 110, 3) := by decide +kernel
theorem dX12_isAhead_12 : decode cX12_isAhead 12 = .ok (.checkcast 59, 3) := by decide +kernel
theorem dX12_isAhead_15 : decode cX12_isAhead 15 = .ok (.iconst 0, 1) := by decide +kernel
theorem dX12_isAhead_16 : decode cX12_isAhead 16 = .ok (.invokevirtual 110, 3) := by decide +kernel
theorem dX12_isAhead_19 : decode cX12_isAhead 19 = .ok (.checkcast 118, 3) := by decide +kernel
theorem dX12_isAhead_22 : decode cX12_isAhead 22 = .ok (.iconst 1, 1) := by decide +kernel
theorem dX12_isAhead_23 : decode cX12_isAhead 23 = .ok (.iaload, 1) := by decide +kernel
theorem dX12_isAhead_24 : decode cX12_isAhead 24 = .ok (.invokevirtual 99, 3) := by decide +kernel
theorem dX12_isAhead_27 : decode cX12_isAhead 27 = .ok (.invokevirtual 95, 3) := by decide +kernel
theorem dX12_isAhead_30 : decode cX12_isAhead 30 = .ok (.aload_n 0, 1) := by decide +kernel
theorem dX12_isAhead_31 : decode cX12_isAhead 31 = .ok (.iload_n 2, 1) := by decide +kernel
theorem dX12_isAhead_32 : decode cX12_isAhead 32 = .ok (.aload_n 0, 1) := by decide +kernel
theorem dX12_isAhead_33 : decode cX12_isAhead 33 = .ok (.iload_n 2, 1) := by decide +kernel
theorem dX12_isAhead_34 : decode cX12_isAhead 34 = .ok (.aload_n 0, 1) := by decide +kernel
theorem dX12_isAhead_35 : decode cX12_isAhead 35 = .ok (.getfield 62, 3) := by decide +kernel
theorem dX12_isAhead_38 : decode cX12_isAhead 38 = .ok (.iload_n 2, 1) := by decide +kernel
theorem dX12_isAhead_39 : decode cX12_isAhead 39 = .ok (.invokevirtual 110, 3) := by decide +kernel
theorem dX12_isAhead_42 : decode cX12_isAhead 42 = .ok (.checkcast 59, 3) := by decide +kernel
theorem dX12_isAhead_45 : decode cX12_isAhead 45 = .ok (.iconst 0, 1) := by decide +kernel
theorem dX12_isAhead_46 : decode cX12_isAhead 46 = .ok (.invokevirtual 110, 3) := by decide +kernel
theorem dX12_isAhead_49 : decode cX12_isAhead 49 = .ok (.checkcast 118, 3) := by decide +kernel
theorem dX12_isAhead_52 : decode cX12_isAhead 52 = .ok (.iconst 1, 1) := by decide +kernel
theorem dX12_isAhead_53 : decode cX12_isAhead 53 = .ok (.iaload, 1) := by decide +kernel
theorem dX12_isAhead_54 : decode cX12_isAhead 54 = .ok (.invokevirtual 99, 3) := by decide +kernel
theorem dX12_isAhead_57 : decode cX12_isAhead 57 = .ok (.invokevirtual 95, 3) := by decide +kernel
theorem dX12_isAhead_60 : decode cX12_isAhead 60 = .ok (.isub, 1) := by decide +kernel
theorem dX12_isAhead_61 : decode cX12_isAhead 61 = .ok (.istore_n 3, 1) := by decide +kernel
theorem dX12_isAhead_62 : decode cX12_isAhead 62 = .ok (.iload_n 3, 1) := by decide +kernel
theorem dX12_isAhead_63 : decode cX12_isAhead 63 = .ok (.ifCond .eq 13, 3) := by decide +kernel
theorem dX12_isAhead_66 : decode cX12_isAhead 66 = .ok (.iload_n 3, 1) := by decide +kernel
theorem dX12_isAhead_67 : decode cX12_isAhead 67 = .ok (.ifCond .ge 7, 3) := by decide +kernel
theorem dX12_isAhead_70 : decode cX12_isAhead 70 = .ok (.iconst 1, 1) := by decide +kernel
theorem dX12_isAhead_71 : decode cX12_isAhead 71 = .ok (.goto 4, 3) := by decide +kernel
theorem dX12_isAhead_74 : decode cX12_isAhead 74 = .ok (.iconst 0, 1) := by decide +kernel
theorem dX12_isAhead_75 : decode cX12_isAhead 75 = .ok (.ireturn, 1) := by decide +kernel
theorem dX12_isAhead_76 : decode cX12_isAhead 76 = .ok (.aload_n 0, 1) := by decide +kernel
theorem dX12_isAhead_77 : decode cX12_isAhead 77 = .ok (.getfield 28, 3) := by decide +kernel
theorem dX12_isAhead_80 : decode cX12_isAhead 80 = .ok (.iload_n 1, 1) := by decide +kernel
theorem dX12_isAhead_81 : decode cX12_isAhead 81 = .ok (.iaload, 1) := by decide +kernel
theorem dX12_isAhead_82 : decode cX12_isAhead 82 = .ok (.aload_n 0, 1) := by decide +kernel
theorem dX12_isAhead_83 : decode cX12_isAhead 83 = .ok (.getfield 28, 3) := by decide +kernel
theorem dX12_isAhead_86 : decode cX12_isAhead 86 = .ok (.iload_n 2, 1) := by decide +kernel
theorem dX12_isAhead_87 : decode cX12_isAhead 87 = .ok (.iaload, 1) := by decide +kernel
theorem dX12_isAhead_88 : decode cX12_isAhead 88 = .ok (.if_icmp .eq 26, 3) := by decide +kernel
theorem dX12_isAhead_91 : decode cX12_isAhead 91 = .ok (.aload_n 0, 1) := by decide +kernel
theorem dX12_isAhead_92 : decode cX12_isAhead 92 = .ok (.getfield 28, 3) := by decide +kernel
theorem dX12_isAhead_95 : decode cX12_isAhead 95 = .ok (.iload_n 1, 1) := by decide +kernel
theorem dX12_isAhead_96 : decode cX12_isAhead 96 = .ok (.iaload, 1) := by decide +kernel
theorem dX12_isAhead_97 : decode cX12_isAhead 97 = .ok (.aload_n 0, 1) := by decide +kernel
theorem dX12_isAhead_98 : decode cX12_isAhead 98 = .ok (.getfield 28, 3) := by decide +kernel
theorem dX12_isAhead_101 : decode cX12_isAhead 101 = .ok (.iload_n 2, 1) := by decide +kernel
theorem dX12_isAhead_102 : decode cX12_isAhead 102 = .ok (.iaload, 1) := by decide +kernel
theorem dX12_isAhead_103 : decode cX12_isAhead 103 = .ok (.if_icmp .ge 7, 3) := by decide +kernel
theorem dX12_isAhead_106 : decode cX12_isAhead 106 = .ok (.iconst 1, 1) := by decide +kernel
theorem dX12_isAhead_107 : decode cX12_isAhead 107 = .ok (.goto 41, 3) := by decide +kernel
theorem dX12_isAhead_110 : decode cX12_isAhead 110 = .ok (.iconst 0, 1) := by decide +kernel
theorem dX12_isAhead_111 : decode cX12_isAhead 111 = .ok (.goto 37, 3) := by decide +kernel
theorem dX12_isAhead_114 : decode cX12_isAhead 114 = .ok (.aload_n 0, 1) := by decide +kernel
theorem dX12_isAhead_115 : decode cX12_isAhead 115 = .ok (.getfield 44, 3) := by decide +kernel
theorem dX12_isAhead_118 : decode cX12_isAhead 118 = .ok (.iload_n 1, 1) := by decide +kernel
theorem dX12_isAhead_119 : decode cX12_isAhead 119 = .ok (.iaload, 1) := by decide +kernel
theorem dX12_isAhead_120 : decode cX12_isAhead 120 = .ok (.aload_n 0, 1) := by decide +kernel
theorem dX12_isAhead_121 : decode cX12_isAhead 121 = .ok (.getfield 25, 3) := by decide +kernel
theorem dX12_isAhead_124 : decode cX12_isAhead 124 = .ok (.iload_n 2, 1) := by decide +kernel
theorem dX12_isAhead_125 : decode cX12_isAhead 125 = .ok (.iaload, 1) := by decide +kernel
theorem dX12_isAhead_126 : decode cX12_isAhead 126 = .ok (.imul, 1) := by decide +kernel
theorem dX12_isAhead_127 : decode cX12_isAhead 127 = .ok (.aload_n 0, 1) := by decide +kernel
theorem dX12_isAhead_128 : decode cX12_isAhead 128 = .ok (.getfield 44, 3) := by decide +kernel
theorem dX12_isAhead_131 : decode cX12_isAhead 131 = .ok (.iload_n 2, 1) := by decide +kernel
theorem dX12_isAhead_132 : decode cX12_isAhead 132 = .ok (.iaload, 1) := by decide +kernel
theorem dX12_isAhead_133 : decode cX12_isAhead 133 = .ok (.aload_n 0, 1) := by decide +kernel
theorem dX12_isAhead_134 : decode cX12_isAhead 134 = .ok (.getfield 25, 3) := by decide +kernel
theorem dX12_isAhead_137 : decode cX12_isAhead 137 = .ok (.iload_n 1, 1) := by decide +kernel
theorem dX12_isAhead_138 : decode cX12_isAhead 138 = .ok (.iaload, 1) := by decide +kernel
theorem dX12_isAhead_139 : decode cX12_isAhead 139 = .ok (.imul, 1) := by decide +kernel
theorem dX12_isAhead_140 : decode cX12_isAhead 140 = .ok (.if_icmp .ge 7, 3) := by decide +kernel
theorem dX12_isAhead_143 : decode cX12_isAhead 143 = .ok (.iconst 1, 1) := by decide +kernel
theorem dX12_isAhead_144 : decode cX12_isAhead 144 = .ok (.goto 4, 3) := by decide +kernel
theorem dX12_isAhead_147 : decode cX12_isAhead 147 = .ok (.iconst 0, 1) := by decide +kernel
theorem dX12_isAhead_148 : decode cX12_isAhead 148 = .ok (.ireturn, 1) := by decide +kernel
theorem dX12_tick_0 : decode cX12_tick 0 = .ok (.aload_n 0, 1) := by decide +kernel
theorem dX12_tick_1 : decode cX12_tick 1 = .ok (.dup, 1) := by decide +kernel
theorem dX12_tick_2 : decode cX12_tick 2 = .ok (.getfield 123, 3) := by decide +kernel
theorem dX12_tick_5 : decode cX12_tick 5 = .ok (.iconst 1, 1) := by decide +kernel
theorem dX12_tick_6 : decode cX12_tick 6 = .ok (.iadd, 1) := by decide +kernel
theorem dX12_tick_7 : decode cX12_tick 7 = .ok (.putfield 123, 3) := by decide +kernel
theorem dX12_tick_10 : decode cX12_tick 10 = .ok (.aload_n 0, 1) := by decide +kernel
theorem dX12_tick_11 : decode cX12_tick 11 = .ok (.getfield 123, 3) := by decide +kernel
theorem dX12_tick_14 : decode cX12_tick 14 = .ok (.aload_n 0, 1) := by decide +kernel
theorem dX12_tick_15 : decode cX12_tick 15 = .ok (.getfield 82, 3) := by decide +kernel
theorem dX12_tick_18 : decode cX12_tick 18 = .ok (.if_icmp .ne 16, 3) := by decide +kernel
theorem dX12_tick_21 : decode cX12_tick 21 = .ok (.aload_n 0, 1) := by decide +kernel
theorem dX12_tick_22 : decode cX12_tick 22 = .ok (.getfield 13, 3) := by decide +kernel
theorem dX12_tick_25 : decode cX12_tick 25 = .ok (.aload_n 0, 1) := by decide +kernel
theorem dX12_tick_26 : decode cX12_tick 26 = .ok (.getfield 85, 3) := by decide +kernel
theorem dX12_tick_29 : decode cX12_tick 29 = .ok (.aload_n 0, 1) := by decide +kernel
theorem dX12_tick_30 : decode cX12_tick 30 = .ok (.getfield 88, 3) := by decide +kernel
theorem dX12_tick_33 : decode cX12_tick 33 = .ok (.iastore, 1) := by decide +kernel
theorem dX12_tick_34 : decode cX12_tick 34 = .ok (.aload_n 0, 1) := by decide +kernel
theorem dX12_tick_35 : decode cX12_tick 35 = .ok (.invokevirtual 126, 3) := by decide +kernel
theorem dX12_tick_38 : decode cX12_tick 38 = .ok (.iconst 0, 1) := by decide +kernel
