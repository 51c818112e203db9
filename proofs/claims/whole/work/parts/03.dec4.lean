theorem dX12_mayTick_18 : decode cX12_mayTick 18 = .ok (.iload_n 1, 1) := by decide +kernel
theorem dX12_mayTick_19 : decode cX12_mayTick 19 = .ok (.iadd, 1) := by decide +kernel
theorem dX12_mayTick_20 : decode cX12_mayTick 20 = .ok (.sipush 5000, 3) := by decide +kernel
theorem dX12_mayTick_23 : decode cX12_mayTick 23 = .ok (.if_icmp .gt 14, 3) := by decide +kernel
theorem dX12_mayTick_26 : decode cX12_mayTick 26 = .ok (.aload_n 0, 1) := by decide +kernel
theorem dX12_mayTick_27 : decode cX12_mayTick 27 = .ok (.getfield 91, 3) := by decide +kernel
theorem dX12_mayTick_30 : decode cX12_mayTick 30 = .ok (.ifCond .le 7, 3) := by decide +kernel
theorem dX12_mayTick_33 : decode cX12_mayTick 33 = .ok (.iconst 1, 1) := by decide +kernel
theorem dX12_mayTick_34 : decode cX12_mayTick 34 = .ok (.goto 4, 3) := by decide +kernel
theorem dX12_mayTick_37 : decode cX12_mayTick 37 = .ok (.iconst 0, 1) := by decide +kernel
theorem dX12_mayTick_38 : decode cX12_mayTick 38 = .ok (.ireturn, 1) := by decide +kernel
theorem dX12_advance_0 : decode cX12_advance 0 = .ok (.aload_n 0, 1) := by decide +kernel
theorem dX12_advance_1 : decode cX12_advance 1 = .ok (.iconst 0, 1) := by decide +kernel
theorem dX12_advance_2 : decode cX12_advance 2 = .ok (.putfield 88, 3) := by decide +kernel
theorem dX12_advance_5 : decode cX12_advance 5 = .ok (.aload_n 0, 1) := by decide +kernel
theorem dX12_advance_6 : decode cX12_advance 6 = .ok (.iload_n 1, 1) := by decide +kernel
theorem dX12_advance_7 : decode cX12_advance 7 = .ok (.invokevirtual 303, 3) := by decide +kernel
theorem dX12_advance_10 : decode cX12_advance 10 = .ok (.ifCond .ne 5, 3) := by decide +kernel
theorem dX12_advance_13 : decode cX12_advance 13 = .ok (.iconst (-1), 1) := by decide +kernel
theorem dX12_advance_14 : decode cX12_advance 14 = .ok (.ireturn, 1) := by decide +kernel
theorem dX12_advance_15 : decode cX12_advance 15 = .ok (.iconst 0, 1) := by decide +kernel
theorem dX12_advance_16 : decode cX12_advance 16 = .ok (.istore_n 2, 1) := by decide +kernel
theorem dX12_advance_17 : decode cX12_advance 17 = .ok (.iconst 0, 1) := by decide +kernel
theorem dX12_advance_18 : decode cX12_advance 18 = .ok (.istore_n 3, 1) := by decide +kernel
theorem dX12_advance_19 : decode cX12_advance 19 = .ok (.iload_n 3, 1) := by decide +kernel
theorem dX12_advance_20 : decode cX12_advance 20 = .ok (.iload_n 1, 1) := by decide +kernel
theorem dX12_advance_21 : decode cX12_advance 21 = .ok (.if_icmp .ge 16, 3) := by decide +kernel
theorem dX12_advance_24 : decode cX12_advance 24 = .ok (.iload_n 2, 1) := by decide +kernel
theorem dX12_advance_25 : decode cX12_advance 25 = .ok (.aload_n 0, 1) := by decide +kernel
theorem dX12_advance_26 : decode cX12_advance 26 = .ok (.invokevirtual 306, 3) := by decide +kernel
theorem dX12_advance_29 : decode cX12_advance 29 = .ok (.iadd, 1) := by decide +kernel
theorem dX12_advance_30 : decode cX12_advance 30 = .ok (.istore_n 2, 1) := by decide +kernel
theorem dX12_advance_31 : decode cX12_advance 31 = .ok (.iinc 3 1, 3) := by decide +kernel
theorem dX12_advance_34 : decode cX12_advance 34 = .ok (.goto (-15), 3) := by decide +kernel
theorem dX12_advance_37 : decode cX12_advance 37 = .ok (.iload_n 2, 1) := by decide +kernel
theorem dX12_advance_38 : decode cX12_advance 38 = .ok (.ireturn, 1) := by decide +kernel
theorem dX12_forecast_0 : decode cX12_forecast 0 = .ok (.aload_n 0, 1) := by decide +kernel
theorem dX12_forecast_1 : decode cX12_forecast 1 = .ok (.iconst 0, 1) := by decide +kernel
theorem dX12_forecast_2 : decode cX12_forecast 2 = .ok (.putfield 88, 3) := by decide +kernel
theorem dX12_forecast_5 : decode cX12_forecast 5 = .ok (.aload_n 0, 1) := by decide +kernel
theorem dX12_forecast_6 : decode cX12_forecast 6 = .ok (.iload_n 1, 1) := by decide +kernel
theorem dX12_forecast_7 : decode cX12_forecast 7 = .ok (.invokevirtual 247, 3) := by decide +kernel
theorem dX12_forecast_10 : decode cX12_forecast 10 = .ok (.ifCond .eq 11, 3) := by decide +kernel
theorem dX12_forecast_13 : decode cX12_forecast 13 = .ok (.aload_n 0, 1) := by decide +kernel
theorem dX12_forecast_14 : decode cX12_forecast 14 = .ok (.iload_n 2, 1) := by decide +kernel
theorem dX12_forecast_15 : decode cX12_forecast 15 = .ok (.invokevirtual 303, 3) := by decide +kernel
theorem dX12_forecast_18 : decode cX12_forecast 18 = .ok (.ifCond .ne 5, 3) := by decide +kernel
theorem dX12_forecast_21 : decode cX12_forecast 21 = .ok (.iconst (-1), 1) := by decide +kernel
theorem dX12_forecast_22 : decode cX12_forecast 22 = .ok (.ireturn, 1) := by decide +kernel
theorem dX12_forecast_23 : decode cX12_forecast 23 = .ok (.aload_n 0, 1) := by decide +kernel
theorem dX12_forecast_24 : decode cX12_forecast 24 = .ok (.iconst 0, 1) := by decide +kernel
theorem dX12_forecast_25 : decode cX12_forecast 25 = .ok (.iconst 3, 1) := by decide +kernel
theorem dX12_forecast_26 : decode cX12_forecast 26 = .ok (.invokevirtual 275, 3) := by decide +kernel
theorem dX12_forecast_29 : decode cX12_forecast 29 = .ok (.aload_n 0, 1) := by decide +kernel
theorem dX12_forecast_30 : decode cX12_forecast 30 = .ok (.getfield 7, 3) := by decide +kernel
theorem dX12_forecast_33 : decode cX12_forecast 33 = .ok (.bipush 51, 2) := by decide +kernel
theorem dX12_forecast_35 : decode cX12_forecast 35 = .ok (.iload_n 1, 1) := by decide +kernel
theorem dX12_forecast_36 : decode cX12_forecast 36 = .ok (.iadd, 1) := by decide +kernel
theorem dX12_forecast_37 : decode cX12_forecast 37 = .ok (.iaload, 1) := by decide +kernel
theorem dX12_forecast_38 : decode cX12_forecast 38 = .ok (.istore_n 3, 1) := by decide +kernel
theorem dX12_forecast_39 : decode cX12_forecast 39 = .ok (.iconst 0, 1) := by decide +kernel
theorem dX12_forecast_40 : decode cX12_forecast 40 = .ok (.istore 4, 2) := by decide +kernel
theorem dX12_forecast_42 : decode cX12_forecast 42 = .ok (.iload 4, 2) := by decide +kernel
theorem dX12_forecast_44 : decode cX12_forecast 44 = .ok (.iload_n 2, 1) := by decide +kernel
theorem dX12_forecast_45 : decode cX12_forecast 45 = .ok (.if_icmp .ge 14, 3) := by decide +kernel
theorem dX12_forecast_48 : decode cX12_forecast 48 = .ok (.aload_n 0, 1) := by decide +kernel
theorem dX12_forecast_49 : decode cX12_forecast 49 = .ok (.invokevirtual 306, 3) := by decide +kernel
theorem dX12_forecast_52 : decode cX12_forecast 52 = .ok (.pop, 1) := by decide +kernel
theorem dX12_forecast_53 : decode cX12_forecast 53 = .ok (.iinc 4 1, 3) := by decide +kernel
theorem dX12_forecast_56 : decode cX12_forecast 56 = .ok (.goto (-14), 3) := by decide +kernel
theorem dX12_forecast_59 : decode cX12_forecast 59 = .ok (.aload_n 0, 1) := by decide +kernel
theorem dX12_forecast_60 : decode cX12_forecast 60 = .ok (.getfield 7, 3) := by decide +kernel
theorem dX12_forecast_63 : decode cX12_forecast 63 = .ok (.bipush 51, 2) := by decide +kernel
theorem dX12_forecast_65 : decode cX12_forecast 65 = .ok (.iload_n 1, 1) := by decide +kernel
theorem dX12_forecast_66 : decode cX12_forecast 66 = .ok (.iadd, 1) := by decide +kernel
theorem dX12_forecast_67 : decode cX12_forecast 67 = .ok (.iaload, 1) := by decide +kernel
theorem dX12_forecast_68 : decode cX12_forecast 68 = .ok (.iload_n 3, 1) := by decide +kernel
theorem dX12_forecast_69 : decode cX12_forecast 69 = .ok (.isub, 1) := by decide +kernel
theorem dX12_forecast_70 : decode cX12_forecast 70 = .ok (.istore 4, 2) := by decide +kernel
theorem dX12_forecast_72 : decode cX12_forecast 72 = .ok (.aload_n 0, 1) := by decide +kernel
theorem dX12_forecast_73 : decode cX12_forecast 73 = .ok (.iconst 3, 1) := by decide +kernel
theorem dX12_forecast_74 : decode cX12_forecast 74 = .ok (.iconst 0, 1) := by decide +kernel
theorem dX12_forecast_75 : decode cX12_forecast 75 = .ok (.invokevirtual 275, 3) := by decide +kernel
theorem dX12_forecast_78 : decode cX12_forecast 78 = .ok (.iload 4, 2) := by decide +kernel
theorem dX12_forecast_80 : decode cX12_forecast 80 = .ok (.ireturn, 1) := by decide +kernel
theorem dX12_drainTime_0 : decode cX12_drainTime 0 = .ok (.aload_n 0, 1) := by decide +kernel
theorem dX12_drainTime_1 : decode cX12_drainTime 1 = .ok (.iconst 0, 1) := by decide +kernel
theorem dX12_drainTime_2 : decode cX12_drainTime 2 = .ok (.putfield 88, 3) := by decide +kernel
theorem dX12_drainTime_5 : decode cX12_drainTime 5 = .ok (.aload_n 0, 1) := by decide +kernel
theorem dX12_drainTime_6 : decode cX12_drainTime 6 = .ok (.iload_n 1, 1) := by decide +kernel
theorem dX12_drainTime_7 : decode cX12_drainTime 7 = .ok (.invokevirtual 247, 3) := by decide +kernel
theorem dX12_drainTime_10 : decode cX12_drainTime 10 = .ok (.ifCond .ne 5, 3) := by decide +kernel
theorem dX12_drainTime_13 : decode cX12_drainTime 13 = .ok (.iconst (-1), 1) := by decide +kernel
theorem dX12_drainTime_14 : decode cX12_drainTime 14 = .ok (.ireturn, 1) := by decide +kernel
theorem dX12_drainTime_15 : decode cX12_drainTime 15 = .ok (.aload_n 0, 1) := by decide +kernel
theorem dX12_drainTime_16 : decode cX12_drainTime 16 = .ok (.iconst 0, 1) := by decide +kernel
theorem dX12_drainTime_17 : decode cX12_drainTime 17 = .ok (.iconst 3, 1) := by decide +kernel
theorem dX12_drainTime_18 : decode cX12_drainTime 18 = .ok (.invokevirtual 275, 3) := by decide +kernel
theorem dX12_drainTime_21 : decode cX12_drainTime 21 = .ok (.iconst 0, 1) := by decide +kernel
theorem dX12_drainTime_22 : decode cX12_drainTime 22 = .ok (.istore_n 2, 1) := by decide +kernel
theorem dX12_drainTime_23 : decode cX12_drainTime 23 = .ok (.aload_n 0, 1) := by decide +kernel
theorem dX12_drainTime_24 : decode cX12_drainTime 24 = .ok (.getfield 7, 3) := by decide +kernel
theorem dX12_drainTime_27 : decode cX12_drainTime 27 = .ok (.sipush 135, 3) := by decide +kernel
theorem dX12_drainTime_30 : decode cX12_drainTime 30 = .ok (.iload_n 1, 1) := by decide +kernel
theorem dX12_drainTime_31 : decode cX12_drainTime 31 = .ok (.iadd, 1) := by decide +kernel
theorem dX12_drainTime_32 : decode cX12_drainTime 32 = .ok (.iaload, 1) := by decide +kernel
theorem dX12_drainTime_33 : decode cX12_drainTime 33 = .ok (.ifCond .le 33, 3) := by decide +kernel
theorem dX12_drainTime_36 : decode cX12_drainTime 36 = .ok (.iload_n 2, 1) := by decide +kernel
theorem dX12_drainTime_37 : decode cX12_drainTime 37 = .ok (.sipush 500, 3) := by decide +kernel
theorem dX12_drainTime_40 : decode cX12_drainTime 40 = .ok (.if_icmp .ge 26, 3) := by decide +kernel
theorem dX12_drainTime_43 : decode cX12_drainTime 43 = .ok (.aload_n 0, 1) := by decide +kernel
theorem dX12_drainTime_44 : decode cX12_drainTime 44 = .ok (.getfield 7, 3) := by decide +kernel
theorem dX12_drainTime_47 : decode cX12_drainTime 47 = .ok (.iconst 0, 1) := by decide +kernel
theorem dX12_drainTime_48 : decode cX12_drainTime 48 = .ok (.iaload, 1) := by decide +kernel
theorem dX12_drainTime_49 : decode cX12_drainTime 49 = .ok (.sipush 5000, 3) := by decide +kernel
theorem dX12_drainTime_52 : decode cX12_drainTime 52 = .ok (.if_icmp .ge 14, 3) := by decide +kernel
theorem dX12_drainTime_55 : decode cX12_drainTime 55 = .ok (.aload_n 0, 1) := by decide +kernel
theorem dX12_drainTime_56 : decode cX12_drainTime 56 = .ok (.invokevirtual 306, 3) := by decide +kernel
theorem dX12_drainTime_59 : decode cX12_drainTime 59 = .ok (.pop, 1) := by decide +kernel
theorem dX12_drainTime_60 : decode cX12_drainTime 60 = .ok (.iinc 2 1, 3) := by decide +kernel
theorem dX12_drainTime_63 : decode cX12_drainTime 63 = .ok (.goto (-40), 3) := by decide +kernel
theorem dX12_drainTime_66 : decode cX12_drainTime 66 = .ok (.aload_n 0, 1) := by decide +kernel
theorem dX12_drainTime_67 : decode cX12_drainTime 67 = .ok (.getfield 7, 3) := by decide +kernel
theorem dX12_drainTime_70 : decode cX12_drainTime 70 = .ok (.sipush 135, 3) := by decide +kernel
theorem dX12_drainTime_73 : decode cX12_drainTime 73 = .ok (.iload_n 1, 1) := by decide +kernel
theorem dX12_drainTime_74 : decode cX12_drainTime 74 = .ok (.iadd, 1) := by decide +kernel
theorem dX12_drainTime_75 : decode cX12_drainTime 75 = .ok (.iaload, 1) := by decide +kernel
theorem dX12_drainTime_76 : decode cX12_drainTime 76 = .ok (.ifCond .le 8, 3) := by decide +kernel
theorem dX12_drainTime_79 : decode cX12_drainTime 79 = .ok (.bipush (-2), 2) := by decide +kernel
theorem dX12_drainTime_81 : decode cX12_drainTime 81 = .ok (.goto 4, 3) := by decide +kernel
theorem dX12_drainTime_84 : decode cX12_drainTime 84 = .ok (.iload_n 2, 1) := by decide +kernel
theorem dX12_drainTime_85 : decode cX12_drainTime 85 = .ok (.istore_n 3, 1) := by decide +kernel
theorem dX12_drainTime_86 : decode cX12_drainTime 86 = .ok (.aload_n 0, 1) := by decide +kernel
theorem dX12_drainTime_87 : decode cX12_drainTime 87 = .ok (.iconst 3, 1) := by decide +kernel
theorem dX12_drainTime_88 : decode cX12_drainTime 88 = .ok (.iconst 0, 1) := by decide +kernel
theorem dX12_drainTime_89 : decode cX12_drainTime 89 = .ok (.invokevirtual 275, 3) := by decide +kernel
theorem dX12_drainTime_92 : decode cX12_drainTime 92 = .ok (.iload_n 3, 1) := by decide +kernel
theorem dX12_drainTime_93 : decode cX12_drainTime 93 = .ok (.ireturn, 1) := by decide +kernel
theorem dX12_sentCost_0 : decode cX12_sentCost 0 = .ok (.aload_n 0, 1) := by decide +kernel
theorem dX12_sentCost_1 : decode cX12_sentCost 1 = .ok (.iconst 0, 1) := by decide +kernel
theorem dX12_sentCost_2 : decode cX12_sentCost 2 = .ok (.putfield 88, 3) := by decide +kernel
theorem dX12_sentCost_5 : decode cX12_sentCost 5 = .ok (.aload_n 0, 1) := by decide +kernel
theorem dX12_sentCost_6 : decode cX12_sentCost 6 = .ok (.iload_n 1, 1) := by decide +kernel
theorem dX12_sentCost_7 : decode cX12_sentCost 7 = .ok (.invokevirtual 247, 3) := by decide +kernel
theorem dX12_sentCost_10 : decode cX12_sentCost 10 = .ok (.ifCond .eq 15, 3) := by decide +kernel
theorem dX12_sentCost_13 : decode cX12_sentCost 13 = .ok (.aload_n 0, 1) := by decide +kernel
theorem dX12_sentCost_14 : decode cX12_sentCost 14 = .ok (.getfield 7, 3) := by decide +kernel
theorem dX12_sentCost_17 : decode cX12_sentCost 17 = .ok (.bipush 39, 2) := by decide +kernel
theorem dX12_sentCost_19 : decode cX12_sentCost 19 = .ok (.iload_n 1, 1) := by decide +kernel
theorem dX12_sentCost_20 : decode cX12_sentCost 20 = .ok (.iadd, 1) := by decide +kernel
theorem dX12_sentCost_21 : decode cX12_sentCost 21 = .ok (.iaload, 1) := by decide +kernel
theorem dX12_sentCost_22 : decode cX12_sentCost 22 = .ok (.goto 4, 3) := by decide +kernel
theorem dX12_sentCost_25 : decode cX12_sentCost 25 = .ok (.iconst (-1), 1) := by decide +kernel
theorem dX12_sentCost_26 : decode cX12_sentCost 26 = .ok (.ireturn, 1) := by decide +kernel
theorem dX12_sentCount_0 : decode cX12_sentCount 0 = .ok (.aload_n 0, 1) := by decide +kernel
theorem dX12_sentCount_1 : decode cX12_sentCount 1 = .ok (.iconst 0, 1) := by decide +kernel
theorem dX12_sentCount_2 : decode cX12_sentCount 2 = .ok (.putfield 88, 3) := by decide +kernel
theorem dX12_sentCount_5 : decode cX12_sentCount 5 = .ok (.aload_n 0, 1) := by decide +kernel
theorem dX12_sentCount_6 : decode cX12_sentCount 6 = .ok (.iload_n 1, 1) := by decide +kernel
theorem dX12_sentCount_7 : decode cX12_sentCount 7 = .ok (.invokevirtual 247, 3) := by decide +kernel
theorem dX12_sentCount_10 : decode cX12_sentCount 10 = .ok (.ifCond .eq 15, 3) := by decide +kernel
theorem dX12_sentCount_13 : decode cX12_sentCount 13 = .ok (.aload_n 0, 1) := by decide +kernel
theorem dX12_sentCount_14 : decode cX12_sentCount 14 = .ok (.getfield 7, 3) := by decide +kernel
theorem dX12_sentCount_17 : decode cX12_sentCount 17 = .ok (.bipush 51, 2) := by decide +kernel
theorem dX12_sentCount_19 : decode cX12_sentCount 19 = .ok (.iload_n 1, 1) := by decide +kernel
theorem dX12_sentCount_20 : decode cX12_sentCount 20 = .ok (.iadd, 1) := by decide +kernel
theorem dX12_sentCount_21 : decode cX12_sentCount 21 = .ok (.iaload, 1) := by decide +kernel
theorem dX12_sentCount_22 : decode cX12_sentCount 22 = .ok (.goto 4, 3) := by decide +kernel
theorem dX12_sentCount_25 : decode cX12_sentCount 25 = .ok (.iconst (-1), 1) := by decide +kernel
theorem dX12_sentCount_26 : decode cX12_sentCount 26 = .ok (.ireturn, 1) := by decide +kernel
theorem dX12_borrowedCost_0 : decode cX12_borrowedCost 0 = .ok (.aload_n 0, 1) := by decide +kernel
theorem dX12_borrowedCost_1 : decode cX12_borrowedCost 1 = .ok (.iconst 0, 1) := by decide +kernel
theorem dX12_borrowedCost_2 : decode cX12_borrowedCost 2 = .ok (.putfield 88, 3) := by decide +kernel
theorem dX12_borrowedCost_5 : decode cX12_borrowedCost 5 = .ok (.aload_n 0, 1) := by decide +kernel
theorem dX12_borrowedCost_6 : decode cX12_borrowedCost 6 = .ok (.iload_n 1, 1) := by decide +kernel
theorem dX12_borrowedCost_7 : decode cX12_borrowedCost 7 = .ok (.invokevirtual 247, 3) := by decide +kernel
theorem dX12_borrowedCost_10 : decode cX12_borrowedCost 10 = .ok (.ifCond .eq 15, 3) := by decide +kernel
theorem dX12_borrowedCost_13 : decode cX12_borrowedCost 13 = .ok (.aload_n 0, 1) := by decide +kernel
theorem dX12_borrowedCost_14 : decode cX12_borrowedCost 14 = .ok (.getfield 7, 3) := by decide +kernel
theorem dX12_borrowedCost_17 : decode cX12_borrowedCost 17 = .ok (.bipush 63, 2) := by decide +kernel
theorem dX12_borrowedCost_19 : decode cX12_borrowedCost 19 = .ok (.iload_n 1, 1) := by decide +kernel
theorem dX12_borrowedCost_20 : decode cX12_borrowedCost 20 = .ok (.iadd, 1) := by decide +kernel
theorem dX12_borrowedCost_21 : decode cX12_borrowedCost 21 = .ok (.iaload, 1) := by decide +kernel
theorem dX12_borrowedCost_22 : decode cX12_borrowedCost 22 = .ok (.goto 4, 3) := by decide +kernel
theorem dX12_borrowedCost_25 : decode cX12_borrowedCost 25 = .ok (.iconst (-1), 1) := by decide +kernel
theorem dX12_borrowedCost_26 : decode cX12_borrowedCost 26 = .ok (.ireturn, 1) := by decide +kernel
theorem dX12_lentCost_0 : decode cX12_lentCost 0 = .ok (.aload_n 0, 1) := by decide +kernel
theorem dX12_lentCost_1 : decode cX12_lentCost 1 = .ok (.iconst 0, 1) := by decide +kernel
theorem dX12_lentCost_2 : decode cX12_lentCost 2 = .ok (.putfield 88, 3) := by decide +kernel
theorem dX12_lentCost_5 : decode cX12_lentCost 5 = .ok (.aload_n 0, 1) := by decide +kernel
theorem dX12_lentCost_6 : decode cX12_lentCost 6 = .ok (.iload_n 1, 1) := by decide +kernel
theorem dX12_lentCost_7 : decode cX12_lentCost 7 = .ok (.invokevirtual 98, 3) := by decide +kernel
theorem dX12_lentCost_10 : decode cX12_lentCost 10 = .ok (.ifCond .eq 15, 3) := by decide +kernel
theorem dX12_lentCost_13 : decode cX12_lentCost 13 = .ok (.aload_n 0, 1) := by decide +kernel
theorem dX12_lentCost_14 : decode cX12_lentCost 14 = .ok (.getfield 7, 3) := by decide +kernel
theorem dX12_lentCost_17 : decode cX12_lentCost 17 = .ok (.bipush 75, 2) := by decide +kernel
theorem dX12_lentCost_19 : decode cX12_lentCost 19 = .ok (.iload_n 1, 1) := by decide +kernel
theorem dX12_lentCost_20 : decode cX12_lentCost 20 = .ok (.iadd, 1) := by decide +kernel
theorem dX12_lentCost_21 : decode cX12_lentCost 21 = .ok (.iaload, 1) := by decide +kernel
theorem dX12_lentCost_22 : decode cX12_lentCost 22 = .ok (.goto 4, 3) := by decide +kernel
theorem dX12_lentCost_25 : decode cX12_lentCost 25 = .ok (.iconst (-1), 1) := by decide +kernel
theorem dX12_lentCost_26 : decode cX12_lentCost 26 = .ok (.ireturn, 1) := by decide +kernel
theorem dX12_droppedCount_0 : decode cX12_droppedCount 0 = .ok (.aload_n 0, 1) := by decide +kernel
theorem dX12_droppedCount_1 : decode cX12_droppedCount 1 = .ok (.iconst 0, 1) := by decide +kernel
theorem dX12_droppedCount_2 : decode cX12_droppedCount 2 = .ok (.putfield 88, 3) := by decide +kernel
theorem dX12_droppedCount_5 : decode cX12_droppedCount 5 = .ok (.aload_n 0, 1) := by decide +kernel
theorem dX12_droppedCount_6 : decode cX12_droppedCount 6 = .ok (.iload_n 1, 1) := by decide +kernel
theorem dX12_droppedCount_7 : decode cX12_droppedCount 7 = .ok (.invokevirtual 247, 3) := by decide +kernel
theorem dX12_droppedCount_10 : decode cX12_droppedCount 10 = .ok (.ifCond .eq 15, 3) := by decide +kernel
theorem dX12_droppedCount_13 : decode cX12_droppedCount 13 = .ok (.aload_n 0, 1) := by decide +kernel
theorem dX12_droppedCount_14 : decode cX12_droppedCount 14 = .ok (.getfield 7, 3) := by decide +kernel
theorem dX12_droppedCount_17 : decode cX12_droppedCount 17 = .ok (.bipush 87, 2) := by decide +kernel
theorem dX12_droppedCount_19 : decode cX12_droppedCount 19 = .ok (.iload_n 1, 1) := by decide +kernel
theorem dX12_droppedCount_20 : decode cX12_droppedCount 20 = .ok (.iadd, 1) := by decide +kernel
theorem dX12_droppedCount_21 : decode cX12_droppedCount 21 = .ok (.iaload, 1) := by decide +kernel
theorem dX12_droppedCount_22 : decode cX12_droppedCount 22 = .ok (.goto 4, 3) := by decide +kernel
theorem dX12_droppedCount_25 : decode cX12_droppedCount 25 = .ok (.iconst (-1), 1) := by decide +kernel
theorem dX12_droppedCount_26 : decode cX12_droppedCount 26 = .ok (.ireturn, 1) := by decide +kernel
theorem dX12_fairness_0 : decode cX12_fairness 0 = .ok (.aload_n 0, 1) := by decide +kernel
theorem dX12_fairness_1 : decode cX12_fairness 1 = .ok (.iconst 0, 1) := by decide +kernel
theorem dX12_fairness_2 : decode cX12_fairness 2 = .ok (.putfield 88, 3) := by decide +kernel
theorem dX12_fairness_5 : decode cX12_fairness 5 = .ok (.aload_n 0, 1) := by decide +kernel
theorem dX12_fairness_6 : decode cX12_fairness 6 = .ok (.getfield 91, 3) := by decide +kernel
theorem dX12_fairness_9 : decode cX12_fairness 9 = .ok (.ifCond .ne 5, 3) := by decide +kernel
theorem dX12_fairness_12 : decode cX12_fairness 12 = .ok (.iconst (-1), 1) := by decide +kernel
theorem dX12_fairness_13 : decode cX12_fairness 13 = .ok (.ireturn, 1) := by decide +kernel
theorem dX12_fairness_14 : decode cX12_fairness 14 = .ok (.lconst 0, 1) := by decide +kernel
theorem dX12_fairness_15 : decode cX12_fairness 15 = .ok (.lstore_n 1, 1) := by decide +kernel
theorem dX12_fairness_16 : decode cX12_fairness 16 = .ok (.lconst 0, 1) := by decide +kernel
theorem dX12_fairness_17 : decode cX12_fairness 17 = .ok (.lstore_n 3, 1) := by decide +kernel
theorem dX12_fairness_18 : decode cX12_fairness 18 = .ok (.iconst 0, 1) := by decide +kernel
theorem dX12_fairness_19 : decode cX12_fairness 19 = .ok (.istore 5, 2) := by decide +kernel
theorem dX12_fairness_21 : decode cX12_fairness 21 = .ok (.iconst 0, 1) := by decide +kernel
theorem dX12_fairness_22 : decode cX12_fairness 22 = .ok (.istore 6, 2) := by decide +kernel
theorem dX12_fairness_24 : decode cX12_fairness 24 = .ok (.iload 6, 2) := by decide +kernel
theorem dX12_fairness_26 : decode cX12_fairness 26 = .ok (.aload_n 0, 1) := by decide +kernel
theorem dX12_fairness_27 : decode cX12_fairness 27 = .ok (.getfield 91, 3) := by decide +kernel
theorem dX12_fairness_30 : decode cX12_fairness 30 = .ok (.if_icmp .ge 66, 3) := by decide +kernel
theorem dX12_fairness_33 : decode cX12_fairness 33 = .ok (.aload_n 0, 1) := by decide +kernel
theorem dX12_fairness_34 : decode cX12_fairness 34 = .ok (.iload 6, 2) := by decide +kernel
theorem dX12_fairness_36 : decode cX12_fairness 36 = .ok (.invokevirtual 247, 3) := by decide +kernel
theorem dX12_fairness_39 : decode cX12_fairness 39 = .ok (.ifCond .ne 6, 3) := by decide +kernel
theorem dX12_fairness_42 : decode cX12_fairness 42 = .ok (.goto 48, 3) := by decide +kernel
theorem dX12_fairness_45 : decode cX12_fairness 45 = .ok (.ldc2_w 309, 3) := by decide +kernel
theorem dX12_fairness_48 : decode cX12_fairness 48 = .ok (.aload_n 0, 1) := by decide +kernel
theorem dX12_fairness_49 : decode cX12_fairness 49 = .ok (.getfield 7, 3) := by decide +kernel
theorem dX12_fairness_52 : decode cX12_fairness 52 = .ok (.bipush 39, 2) := by decide +kernel
theorem dX12_fairness_54 : decode cX12_fairness 54 = .ok (.iload 6, 2) := by decide +kernel
theorem dX12_fairness_56 : decode cX12_fairness 56 = .ok (.iadd, 1) := by decide +kernel
theorem dX12_fairness_57 : decode cX12_fairness 57 = .ok (.iaload, 1) := by decide +kernel
theorem dX12_fairness_58 : decode cX12_fairness 58 = .ok (.i2l, 1) := by decide +kernel
theorem dX12_fairness_59 : decode cX12_fairness 59 = .ok (.lmul, 1) := by decide +kernel
theorem dX12_fairness_60 : decode cX12_fairness 60 = .ok (.aload_n 0, 1) := by decide +kernel
theorem dX12_fairness_61 : decode cX12_fairness 61 = .ok (.getfield 7, 3) := by decide +kernel
theorem dX12_fairness_64 : decode cX12_fairness 64 = .ok (.bipush 123, 2) := by decide +kernel
theorem dX12_fairness_66 : decode cX12_fairness 66 = .ok (.iload 6, 2) := by decide +kernel
theorem dX12_fairness_68 : decode cX12_fairness 68 = .ok (.iadd, 1) := by decide +kernel
theorem dX12_fairness_69 : decode cX12_fairness 69 = .ok (.iaload, 1) := by decide +kernel
theorem dX12_fairness_70 : decode cX12_fairness 70 = .ok (.i2l, 1) := by decide +kernel
theorem dX12_fairness_71 : decode cX12_fairness 71 = .ok (.ldiv, 1) := by decide +kernel
theorem dX12_fairness_72 : decode cX12_fairness 72 = .ok (.lstore 7, 2) := by decide +kernel
theorem dX12_fairness_74 : decode cX12_fairness 74 = .ok (.lload_n 1, 1) := by decide +kernel
theorem dX12_fairness_75 : decode cX12_fairness 75 = .ok (.lload 7, 2) := by decide +kernel
theorem dX12_fairness_77 : decode cX12_fairness 77 = .ok (.ladd, 1) := by decide +kernel
theorem dX12_fairness_78 : decode cX12_fairness 78 = .ok (.lstore_n 1, 1) := by decide +kernel
theorem dX12_fairness_79 : decode cX12_fairness 79 = .ok (.lload_n 3, 1) := by decide +kernel
theorem dX12_fairness_80 : decode cX12_fairness 80 = .ok (.lload 7, 2) := by decide +kernel
theorem dX12_fairness_82 : decode cX12_fairness 82 = .ok (.lload 7, 2) := by decide +kernel
theorem dX12_fairness_84 : decode cX12_fairness 84 = .ok (.lmul, 1) := by decide +kernel
theorem dX12_fairness_85 : decode cX12_fairness 85 = .ok (.ladd, 1) := by decide +kernel
theorem dX12_fairness_86 : decode cX12_fairness 86 = .ok (.lstore_n 3, 1) := by decide +kernel
theorem dX12_fairness_87 : decode cX12_fairness 87 = .ok (.iinc 5 1, 3) := by decide +kernel
theorem dX12_fairness_90 : decode cX12_fairness 90 = .ok (.iinc 6 1, 3) := by decide +kernel
theorem dX12_fairness_93 : decode cX12_fairness 93 = .ok (.goto (-69), 3) := by decide +kernel
theorem dX12_fairness_96 : decode cX12_fairness 96 = .ok (.lload_n 3, 1) := by decide +kernel
theorem dX12_fairness_97 : decode cX12_fairness 97 = .ok (.lconst 0, 1) := by decide +kernel
theorem dX12_fairness_98 : decode cX12_fairness 98 = .ok (.lcmp, 1) := by decide +kernel
theorem dX12_fairness_99 : decode cX12_fairness 99 = .ok (.ifCond .ne 9, 3) := by decide +kernel
theorem dX12_fairness_102 : decode cX12_fairness 102 = .ok (.sipush 1000, 3) := by decide +kernel
theorem dX12_fairness_105 : decode cX12_fairness 105 = .ok (.goto 17, 3) := by decide +kernel
theorem dX12_fairness_108 : decode cX12_fairness 108 = .ok (.ldc2_w 311, 3) := by decide +kernel
theorem dX12_fairness_111 : decode cX12_fairness 111 = .ok (.lload_n 1, 1) := by decide +kernel
theorem dX12_fairness_112 : decode cX12_fairness 112 = .ok (.lmul, 1) := by decide +kernel
theorem dX12_fairness_113 : decode cX12_fairness 113 = .ok (.lload_n 1, 1) := by decide +kernel
theorem dX12_fairness_114 : decode cX12_fairness 114 = .ok (.lmul, 1) := by decide +kernel
theorem dX12_fairness_115 : decode cX12_fairness 115 = .ok (.iload 5, 2) := by decide +kernel
theorem dX12_fairness_117 : decode cX12_fairness 117 = .ok (.i2l, 1) := by decide +kernel
theorem dX12_fairness_118 : decode cX12_fairness 118 = .ok (.lload_n 3, 1) := by decide +kernel
theorem dX12_fairness_119 : decode cX12_fairness 119 = .ok (.lmul, 1) := by decide +kernel
theorem dX12_fairness_120 : decode cX12_fairness 120 = .ok (.ldiv, 1) := by decide +kernel
theorem dX12_fairness_121 : decode cX12_fairness 121 = .ok (.l2i, 1) := by decide +kernel
theorem dX12_fairness_122 : decode cX12_fairness 122 = .ok (.ireturn, 1) := by decide +kernel
theorem dX12_fairShare_0 : decode cX12_fairShare 0 = .ok (.aload_n 0, 1) := by decide +kernel
theorem dX12_fairShare_1 : decode cX12_fairShare 1 = .ok (.iconst 0, 1) := by decide +kernel
theorem dX12_fairShare_2 : decode cX12_fairShare 2 = .ok (.putfield 88, 3) := by decide +kernel
theorem dX12_fairShare_5 : decode cX12_fairShare 5 = .ok (.aload_n 0, 1) := by decide +kernel
theorem dX12_fairShare_6 : decode cX12_fairShare 6 = .ok (.iload_n 1, 1) := by decide +kernel
theorem dX12_fairShare_7 : decode cX12_fairShare 7 = .ok (.invokevirtual 247, 3) := by decide +kernel
theorem dX12_fairShare_10 : decode cX12_fairShare 10 = .ok (.ifCond .ne 5, 3) := by decide +kernel
theorem dX12_fairShare_13 : decode cX12_fairShare 13 = .ok (.iconst (-1), 1) := by decide +kernel
theorem dX12_fairShare_14 : decode cX12_fairShare 14 = .ok (.ireturn, 1) := by decide +kernel
theorem dX12_fairShare_15 : decode cX12_fairShare 15 = .ok (.lconst 0, 1) := by decide +kernel
theorem dX12_fairShare_16 : decode cX12_fairShare 16 = .ok (.lstore_n 2, 1) := by decide +kernel
theorem dX12_fairShare_17 : decode cX12_fairShare 17 = .ok (.iconst 0, 1) := by decide +kernel
theorem dX12_fairShare_18 : decode cX12_fairShare 18 = .ok (.istore 4, 2) := by decide +kernel
theorem dX12_fairShare_20 : decode cX12_fairShare 20 = .ok (.iconst 0, 1) := by decide +kernel
theorem dX12_fairShare_21 : decode cX12_fairShare 21 = .ok (.istore 5, 2) := by decide +kernel
theorem dX12_fairShare_23 : decode cX12_fairShare 23 = .ok (.iload 5, 2) := by decide +kernel
theorem dX12_fairShare_25 : decode cX12_fairShare 25 = .ok (.aload_n 0, 1) := by decide +kernel
theorem dX12_fairShare_26 : decode cX12_fairShare 26 = .ok (.getfield 91, 3) := by decide +kernel
theorem dX12_fairShare_29 : decode cX12_fairShare 29 = .ok (.if_icmp .ge 64, 3) := by decide +kernel
theorem dX12_fairShare_32 : decode cX12_fairShare 32 = .ok (.lload_n 2, 1) := by decide +kernel
theorem dX12_fairShare_33 : decode cX12_fairShare 33 = .ok (.aload_n 0, 1) := by decide +kernel
theorem dX12_fairShare_34 : decode cX12_fairShare 34 = .ok (.iload 5, 2) := by decide +kernel
theorem dX12_fairShare_36 : decode cX12_fairShare 36 = .ok (.invokevirtual 247, 3) := by decide +kernel
theorem dX12_fairShare_39 : decode cX12_fairShare 39 = .ok (.ifCond .eq 17, 3) := by decide +kernel
theorem dX12_fairShare_42 : decode cX12_fairShare 42 = .ok (.aload_n 0, 1) := by decide +kernel
theorem dX12_fairShare_43 : decode cX12_fairShare 43 = .ok (.getfield 7, 3) := by decide +kernel
theorem dX12_fairShare_46 : decode cX12_fairShare 46 = .ok (.bipush 39, 2) := by decide +kernel
theorem dX12_fairShare_48 : decode cX12_fairShare 48 = .ok (.iload 5, 2) := by decide +kernel
theorem dX12_fairShare_50 : decode cX12_fairShare 50 = .ok (.iadd, 1) := by decide +kernel
theorem dX12_fairShare_51 : decode cX12_fairShare 51 = .ok (.iaload, 1) := by decide +kernel
theorem dX12_fairShare_52 : decode cX12_fairShare 52 = .ok (.i2l, 1) := by decide +kernel
theorem dX12_fairShare_53 : decode cX12_fairShare 53 = .ok (.goto 4, 3) := by decide +kernel
theorem dX12_fairShare_56 : decode cX12_fairShare 56 = .ok (.lconst 0, 1) := by decide +kernel
theorem dX12_fairShare_57 : decode cX12_fairShare 57 = .ok (.ladd, 1) := by decide +kernel
theorem dX12_fairShare_58 : decode cX12_fairShare 58 = .ok (.lstore_n 2, 1) := by decide +kernel
theorem dX12_fairShare_59 : decode cX12_fairShare 59 = .ok (.iload 4, 2) := by decide +kernel
theorem dX12_fairShare_61 : decode cX12_fairShare 61 = .ok (.aload_n 0, 1) := by decide +kernel
theorem dX12_fairShare_62 : decode cX12_fairShare 62 = .ok (.iload 5, 2) := by decide +kernel
theorem dX12_fairShare_64 : decode cX12_fairShare 64 = .ok (.invokevirtual 247, 3) := by decide +kernel
theorem dX12_fairShare_67 : decode cX12_fairShare 67 = .ok (.ifCond .eq 16, 3) := by decide +kernel
theorem dX12_fairShare_70 : decode cX12_fairShare 70 = .ok (.aload_n 0, 1) := by decide +kernel
theorem dX12_fairShare_71 : decode cX12_fairShare 71 = .ok (.getfield 7, 3) := by decide +kernel
theorem dX12_fairShare_74 : decode cX12_fairShare 74 = .ok (.bipush 123, 2) := by decide +kernel
theorem dX12_fairShare_76 : decode cX12_fairShare 76 = .ok (.iload 5, 2) := by decide +kernel
theorem dX12_fairShare_78 : decode cX12_fairShare 78 = .ok (.iadd, 1) := by decide +kernel
theorem dX12_fairShare_79 : decode cX12_fairShare 79 = .ok (.iaload, 1) := by decide +kernel
theorem dX12_fairShare_80 : decode cX12_fairShare 80 = .ok (.goto 4, 3) := by decide +kernel
theorem dX12_fairShare_83 : decode cX12_fairShare 83 = .ok (.iconst 0, 1) := by decide +kernel
theorem dX12_fairShare_84 : decode cX12_fairShare 84 = .ok (.iadd, 1) := by decide +kernel
theorem dX12_fairShare_85 : decode cX12_fairShare 85 = .ok (.istore 4, 2) := by decide +kernel
theorem dX12_fairShare_87 : decode cX12_fairShare 87 = .ok (.iinc 5 1, 3) := by decide +kernel
theorem dX12_fairShare_90 : decode cX12_fairShare 90 = .ok (.goto (-67), 3) := by decide +kernel
theorem dX12_fairShare_93 : decode cX12_fairShare 93 = .ok (.lload_n 2, 1) := by decide +kernel
theorem dX12_fairShare_94 : decode cX12_fairShare 94 = .ok (.aload_n 0, 1) := by decide +kernel
theorem dX12_fairShare_95 : decode cX12_fairShare 95 = .ok (.getfield 7, 3) := by decide +kernel
theorem dX12_fairShare_98 : decode cX12_fairShare 98 = .ok (.bipush 123, 2) := by decide +kernel
theorem dX12_fairShare_100 : decode cX12_fairShare 100 = .ok (.iload_n 1, 1) := by decide +kernel
theorem dX12_fairShare_101 : decode cX12_fairShare 101 = .ok (.iadd, 1) := by decide +kernel
theorem dX12_fairShare_102 : decode cX12_fairShare 102 = .ok (.iaload, 1) := by decide +kernel
theorem dX12_fairShare_103 : decode cX12_fairShare 103 = .ok (.i2l, 1) := by decide +kernel
theorem dX12_fairShare_104 : decode cX12_fairShare 104 = .ok (.lmul, 1) := by decide +kernel
theorem dX12_fairShare_105 : decode cX12_fairShare 105 = .ok (.iload 4, 2) := by decide +kernel
theorem dX12_fairShare_107 : decode cX12_fairShare 107 = .ok (.i2l, 1) := by decide +kernel
theorem dX12_fairShare_108 : decode cX12_fairShare 108 = .ok (.ldiv, 1) := by decide +kernel
theorem dX12_fairShare_109 : decode cX12_fairShare 109 = .ok (.l2i, 1) := by decide +kernel
theorem dX12_fairShare_110 : decode cX12_fairShare 110 = .ok (.ireturn, 1) := by decide +kernel
theorem dX12_mostServed_0 : decode cX12_mostServed 0 = .ok (.aload_n 0, 1) := by decide +kernel
theorem dX12_mostServed_1 : decode cX12_mostServed 1 = .ok (.iconst 0, 1) := by decide +kernel
theorem dX12_mostServed_2 : decode cX12_mostServed 2 = .ok (.putfield 88, 3) := by decide +kernel
theorem dX12_mostServed_5 : decode cX12_mostServed 5 = .ok (.bipush (-2), 2) := by decide +kernel
theorem dX12_mostServed_7 : decode cX12_mostServed 7 = .ok (.istore_n 1, 1) := by decide +kernel
theorem dX12_mostServed_8 : decode cX12_mostServed 8 = .ok (.iconst 0, 1) := by decide +kernel
theorem dX12_mostServed_9 : decode cX12_mostServed 9 = .ok (.istore_n 2, 1) := by decide +kernel
theorem dX12_mostServed_10 : decode cX12_mostServed 10 = .ok (.iload_n 2, 1) := by decide +kernel
theorem dX12_mostServed_11 : decode cX12_mostServed 11 = .ok (.aload_n 0, 1) := by decide +kernel
theorem dX12_mostServed_12 : decode cX12_mostServed 12 = .ok (.getfield 91, 3) := by decide +kernel
theorem dX12_mostServed_15 : decode cX12_mostServed 15 = .ok (.if_icmp .ge 71, 3) := by decide +kernel
theorem dX12_mostServed_18 : decode cX12_mostServed 18 = .ok (.aload_n 0, 1) := by decide +kernel
theorem dX12_mostServed_19 : decode cX12_mostServed 19 = .ok (.iload_n 2, 1) := by decide +kernel
theorem dX12_mostServed_20 : decode cX12_mostServed 20 = .ok (.invokevirtual 247, 3) := by decide +kernel
theorem dX12_mostServed_23 : decode cX12_mostServed 23 = .ok (.ifCond .eq 57, 3) := by decide +kernel
theorem dX12_mostServed_26 : decode cX12_mostServed 26 = .ok (.iload_n 1, 1) := by decide +kernel
theorem dX12_mostServed_27 : decode cX12_mostServed 27 = .ok (.bipush (-2), 2) := by decide +kernel
theorem dX12_mostServed_29 : decode cX12_mostServed 29 = .ok (.if_icmp .eq 49, 3) := by decide +kernel
theorem dX12_mostServed_32 : decode cX12_mostServed 32 = .ok (.aload_n 0, 1) := by decide +kernel
theorem dX12_mostServed_33 : decode cX12_mostServed 33 = .ok (.getfield 7, 3) := by decide +kernel
theorem dX12_mostServed_36 : decode cX12_mostServed 36 = .ok (.bipush 39, 2) := by decide +kernel
theorem dX12_mostServed_38 : decode cX12_mostServed 38 = .ok (.iload_n 2, 1) := by decide +kernel
theorem dX12_mostServed_39 : decode cX12_mostServed 39 = .ok (.iadd, 1) := by decide +kernel
theorem dX12_mostServed_40 : decode cX12_mostServed 40 = .ok (.iaload, 1) := by decide +kernel
theorem dX12_mostServed_41 : decode cX12_mostServed 41 = .ok (.i2l, 1) := by decide +kernel
theorem dX12_mostServed_42 : decode cX12_mostServed 42 = .ok (.aload_n 0, 1) := by decide +kernel
theorem dX12_mostServed_43 : decode cX12_mostServed 43 = .ok (.getfield 7, 3) := by decide +kernel
theorem dX12_mostServed_46 : decode cX12_mostServed 46 = .ok (.bipush 123, 2) := by decide +kernel
theorem dX12_mostServed_48 : decode cX12_mostServed 48 = .ok (.iload_n 1, 1) := by decide +kernel
theorem dX12_mostServed_49 : decode cX12_mostServed 49 = .ok (.iadd, 1) := by decide +kernel
theorem dX12_mostServed_50 : decode cX12_mostServed 50 = .ok (.iaload, 1) := by decide +kernel
theorem dX12_mostServed_51 : decode cX12_mostServed 51 = .ok (.i2l, 1) := by decide +kernel
theorem dX12_mostServed_52 : decode cX12_mostServed 52 = .ok (.lmul, 1) := by decide +kernel
theorem dX12_mostServed_53 : decode cX12_mostServed 53 = .ok (.aload_n 0, 1) := by decide +kernel
theorem dX12_mostServed_54 : decode cX12_mostServed 54 = .ok (.getfield 7, 3) := by decide +kernel
theorem dX12_mostServed_57 : decode cX12_mostServed 57 = .ok (.bipush 39, 2) := by decide +kernel
theorem dX12_mostServed_59 : decode cX12_mostServed 59 = .ok (.iload_n 1, 1) := by decide +kernel
theorem dX12_mostServed_60 : decode cX12_mostServed 60 = .ok (.iadd, 1) := by decide +kernel
theorem dX12_mostServed_61 : decode cX12_mostServed 61 = .ok (.iaload, 1) := by decide +kernel
theorem dX12_mostServed_62 : decode cX12_mostServed 62 = .ok (.i2l, 1) := by decide +kernel
theorem dX12_mostServed_63 : decode cX12_mostServed 63 = .ok (.aload_n 0, 1) := by decide +kernel
theorem dX12_mostServed_64 : decode cX12_mostServed 64 = .ok (.getfield 7, 3) := by decide +kernel
theorem dX12_mostServed_67 : decode cX12_mostServed 67 = .ok (.bipush 123, 2) := by decide +kernel
theorem dX12_mostServed_69 : decode cX12_mostServed 69 = .ok (.iload_n 2, 1) := by decide +kernel
theorem dX12_mostServed_70 : decode cX12_mostServed 70 = .ok (.iadd, 1) := by decide +kernel
theorem dX12_mostServed_71 : decode cX12_mostServed 71 = .ok (.iaload, 1) := by decide +kernel
theorem dX12_mostServed_72 : decode cX12_mostServed 72 = .ok (.i2l, 1) := by decide +kernel
theorem dX12_mostServed_73 : decode cX12_mostServed 73 = .ok (.lmul, 1) := by decide +kernel
theorem dX12_mostServed_74 : decode cX12_mostServed 74 = .ok (.lcmp, 1) := by decide +kernel
theorem dX12_mostServed_75 : decode cX12_mostServed 75 = .ok (.ifCond .le 5, 3) := by decide +kernel
theorem dX12_mostServed_78 : decode cX12_mostServed 78 = .ok (.iload_n 2, 1) := by decide +kernel
theorem dX12_mostServed_79 : decode cX12_mostServed 79 = .ok (.istore_n 1, 1) := by decide +kernel
theorem dX12_mostServed_80 : decode cX12_mostServed 80 = .ok (.iinc 2 1, 3) := by decide +kernel
theorem dX12_mostServed_83 : decode cX12_mostServed 83 = .ok (.goto (-73), 3) := by decide +kernel
theorem dX12_mostServed_86 : decode cX12_mostServed 86 = .ok (.iload_n 1, 1) := by decide +kernel
theorem dX12_mostServed_87 : decode cX12_mostServed 87 = .ok (.ireturn, 1) := by decide +kernel
theorem dX12_between_0 : decode cX12_between 0 = .ok (.iconst 0, 1) := by decide +kernel
theorem dX12_between_1 : decode cX12_between 1 = .ok (.istore 5, 2) := by decide +kernel
theorem dX12_between_3 : decode cX12_between 3 = .ok (.iconst 0, 1) := by decide +kernel
theorem dX12_between_4 : decode cX12_between 4 = .ok (.istore 6, 2) := by decide +kernel
theorem dX12_between_6 : decode cX12_between 6 = .ok (.iload 6, 2) := by decide +kernel
theorem dX12_between_8 : decode cX12_between 8 = .ok (.aload_n 0, 1) := by decide +kernel
theorem dX12_between_9 : decode cX12_between 9 = .ok (.getfield 7, 3) := by decide +kernel
theorem dX12_between_12 : decode cX12_between 12 = .ok (.iconst 2, 1) := by decide +kernel
theorem dX12_between_13 : decode cX12_between 13 = .ok (.iaload, 1) := by decide +kernel
theorem dX12_between_14 : decode cX12_between 14 = .ok (.if_icmp .ge 57, 3) := by decide +kernel
theorem dX12_between_17 : decode cX12_between 17 = .ok (.iload 5, 2) := by decide +kernel
theorem dX12_between_19 : decode cX12_between 19 = .ok (.aload_n 0, 1) := by decide +kernel
theorem dX12_between_20 : decode cX12_between 20 = .ok (.getfield 7, 3) := by decide +kernel
theorem dX12_between_23 : decode cX12_between 23 = .ok (.sipush 723, 3) := by decide +kernel
theorem dX12_between_26 : decode cX12_between 26 = .ok (.iconst 4, 1) := by decide +kernel
theorem dX12_between_27 : decode cX12_between 27 = .ok (.iload 6, 2) := by decide +kernel
theorem dX12_between_29 : decode cX12_between 29 = .ok (.imul, 1) := by decide +kernel
theorem dX12_between_30 : decode cX12_between 30 = .ok (.iadd, 1) := by decide +kernel
theorem dX12_between_31 : decode cX12_between 31 = .ok (.iconst 3, 1) := by decide +kernel
theorem dX12_between_32 : decode cX12_between 32 = .ok (.iadd, 1) := by decide +kernel
theorem dX12_between_33 : decode cX12_between 33 = .ok (.iaload, 1) := by decide +kernel
theorem dX12_between_34 : decode cX12_between 34 = .ok (.i2l, 1) := by decide +kernel
theorem dX12_between_35 : decode cX12_between 35 = .ok (.lload_n 1, 1) := by decide +kernel
theorem dX12_between_36 : decode cX12_between 36 = .ok (.lload_n 3, 1) := by decide +kernel
theorem dX12_between_37 : decode cX12_between 37 = .ok (.invokestatic 94, 3) := by decide +kernel
theorem dX12_between_40 : decode cX12_between 40 = .ok (.ifCond .eq 21, 3) := by decide +kernel
theorem dX12_between_43 : decode cX12_between 43 = .ok (.aload_n 0, 1) := by decide +kernel
theorem dX12_between_44 : decode cX12_between 44 = .ok (.getfield 7, 3) := by decide +kernel
theorem dX12_between_47 : decode cX12_between 47 = .ok (.sipush 723, 3) := by decide +kernel
theorem dX12_between_50 : decode cX12_between 50 = .ok (.iconst 4, 1) := by decide +kernel
theorem dX12_between_51 : decode cX12_between 51 = .ok (.iload 6, 2) := by decide +kernel
theorem dX12_between_53 : decode cX12_between 53 = .ok (.imul, 1) := by decide +kernel
theorem dX12_between_54 : decode cX12_between 54 = .ok (.iadd, 1) := by decide +kernel
theorem dX12_between_55 : decode cX12_between 55 = .ok (.iconst 1, 1) := by decide +kernel
theorem dX12_between_56 : decode cX12_between 56 = .ok (.iadd, 1) := by decide +kernel
theorem dX12_between_57 : decode cX12_between 57 = .ok (.iaload, 1) := by decide +kernel
theorem dX12_between_58 : decode cX12_between 58 = .ok (.goto 4, 3) := by decide +kernel
theorem dX12_between_61 : decode cX12_between 61 = .ok (.iconst 0, 1) := by decide +kernel
theorem dX12_between_62 : decode cX12_between 62 = .ok (.iadd, 1) := by decide +kernel
theorem dX12_between_63 : decode cX12_between 63 = .ok (.istore 5, 2) := by decide +kernel
theorem dX12_between_65 : decode cX12_between 65 = .ok (.iinc 6 1, 3) := by decide +kernel
theorem dX12_between_68 : decode cX12_between 68 = .ok (.goto (-62), 3) := by decide +kernel
theorem dX12_between_71 : decode cX12_between 71 = .ok (.iload 5, 2) := by decide +kernel
theorem dX12_between_73 : decode cX12_between 73 = .ok (.ireturn, 1) := by decide +kernel
theorem dX12_busiestCost_0 : decode cX12_busiestCost 0 = .ok (.aload_n 0, 1) := by decide +kernel
theorem dX12_busiestCost_1 : decode cX12_busiestCost 1 = .ok (.iconst 0, 1) := by decide +kernel
theorem dX12_busiestCost_2 : decode cX12_busiestCost 2 = .ok (.putfield 88, 3) := by decide +kernel
theorem dX12_busiestCost_5 : decode cX12_busiestCost 5 = .ok (.iload_n 1, 1) := by decide +kernel
theorem dX12_busiestCost_6 : decode cX12_busiestCost 6 = .ok (.iconst 1, 1) := by decide +kernel
theorem dX12_busiestCost_7 : decode cX12_busiestCost 7 = .ok (.if_icmp .ge 5, 3) := by decide +kernel
theorem dX12_busiestCost_10 : decode cX12_busiestCost 10 = .ok (.iconst (-1), 1) := by decide +kernel
theorem dX12_busiestCost_11 : decode cX12_busiestCost 11 = .ok (.ireturn, 1) := by decide +kernel
theorem dX12_busiestCost_12 : decode cX12_busiestCost 12 = .ok (.iconst 0, 1) := by decide +kernel
theorem dX12_busiestCost_13 : decode cX12_busiestCost 13 = .ok (.istore_n 2, 1) := by decide +kernel
theorem dX12_busiestCost_14 : decode cX12_busiestCost 14 = .ok (.iconst 0, 1) := by decide +kernel
theorem dX12_busiestCost_15 : decode cX12_busiestCost 15 = .ok (.istore_n 3, 1) := by decide +kernel
theorem dX12_busiestCost_16 : decode cX12_busiestCost 16 = .ok (.iload_n 3, 1) := by decide +kernel
theorem dX12_busiestCost_17 : decode cX12_busiestCost 17 = .ok (.aload_n 0, 1) := by decide +kernel
theorem dX12_busiestCost_18 : decode cX12_busiestCost 18 = .ok (.getfield 7, 3) := by decide +kernel
theorem dX12_busiestCost_21 : decode cX12_busiestCost 21 = .ok (.iconst 2, 1) := by decide +kernel
theorem dX12_busiestCost_22 : decode cX12_busiestCost 22 = .ok (.iaload, 1) := by decide +kernel
theorem dX12_busiestCost_23 : decode cX12_busiestCost 23 = .ok (.if_icmp .ge 54, 3) := by decide +kernel
theorem dX12_busiestCost_26 : decode cX12_busiestCost 26 = .ok (.aload_n 0, 1) := by decide +kernel
theorem dX12_busiestCost_27 : decode cX12_busiestCost 27 = .ok (.getfield 7, 3) := by decide +kernel
theorem dX12_busiestCost_30 : decode cX12_busiestCost 30 = .ok (.sipush 723, 3) := by decide +kernel
theorem dX12_busiestCost_33 : decode cX12_busiestCost 33 = .ok (.iconst 4, 1) := by decide +kernel
theorem dX12_busiestCost_34 : decode cX12_busiestCost 34 = .ok (.iload_n 3, 1) := by decide +kernel
theorem dX12_busiestCost_35 : decode cX12_busiestCost 35 = .ok (.imul, 1) := by decide +kernel
theorem dX12_busiestCost_36 : decode cX12_busiestCost 36 = .ok (.iadd, 1) := by decide +kernel
theorem dX12_busiestCost_37 : decode cX12_busiestCost 37 = .ok (.iconst 3, 1) := by decide +kernel
theorem dX12_busiestCost_38 : decode cX12_busiestCost 38 = .ok (.iadd, 1) := by decide +kernel
theorem dX12_busiestCost_39 : decode cX12_busiestCost 39 = .ok (.iaload, 1) := by decide +kernel
theorem dX12_busiestCost_40 : decode cX12_busiestCost 40 = .ok (.i2l, 1) := by decide +kernel
theorem dX12_busiestCost_41 : decode cX12_busiestCost 41 = .ok (.lstore 4, 2) := by decide +kernel
theorem dX12_busiestCost_43 : decode cX12_busiestCost 43 = .ok (.aload_n 0, 1) := by decide +kernel
theorem dX12_busiestCost_44 : decode cX12_busiestCost 44 = .ok (.lload 4, 2) := by decide +kernel
theorem dX12_busiestCost_46 : decode cX12_busiestCost 46 = .ok (.lload 4, 2) := by decide +kernel
theorem dX12_busiestCost_48 : decode cX12_busiestCost 48 = .ok (.iload_n 1, 1) := by decide +kernel
theorem dX12_busiestCost_49 : decode cX12_busiestCost 49 = .ok (.i2l, 1) := by decide +kernel
theorem dX12_busiestCost_50 : decode cX12_busiestCost 50 = .ok (.ladd, 1) := by decide +kernel
theorem dX12_busiestCost_51 : decode cX12_busiestCost 51 = .ok (.lconst 1, 1) := by decide +kernel
theorem dX12_busiestCost_52 : decode cX12_busiestCost 52 = .ok (.lsub, 1) := by decide +kernel
theorem dX12_busiestCost_53 : decode cX12_busiestCost 53 = .ok (.invokevirtual 313, 3) := by decide +kernel
theorem dX12_busiestCost_56 : decode cX12_busiestCost 56 = .ok (.istore 6, 2) := by decide +kernel
theorem dX12_busiestCost_58 : decode cX12_busiestCost 58 = .ok (.iload 6, 2) := by decide +kernel
theorem dX12_busiestCost_60 : decode cX12_busiestCost 60 = .ok (.iload_n 2, 1) := by decide +kernel
theorem dX12_busiestCost_61 : decode cX12_busiestCost 61 = .ok (.if_icmp .le 8, 3) := by decide +kernel
theorem dX12_busiestCost_64 : decode cX12_busiestCost 64 = .ok (.iload 6, 2) := by decide +kernel
theorem dX12_busiestCost_66 : decode cX12_busiestCost 66 = .ok (.goto 4, 3) := by decide +kernel
theorem dX12_busiestCost_69 : decode cX12_busiestCost 69 = .ok (.iload_n 2, 1) := by decide +kernel
theorem dX12_busiestCost_70 : decode cX12_busiestCost 70 = .ok (.istore_n 2, 1) := by decide +kernel
theorem dX12_busiestCost_71 : decode cX12_busiestCost 71 = .ok (.iinc 3 1, 3) := by decide +kernel
theorem dX12_busiestCost_74 : decode cX12_busiestCost 74 = .ok (.goto (-58), 3) := by decide +kernel
theorem dX12_busiestCost_77 : decode cX12_busiestCost 77 = .ok (.iload_n 2, 1) := by decide +kernel
theorem dX12_busiestCost_78 : decode cX12_busiestCost 78 = .ok (.ireturn, 1) := by decide +kernel
theorem dX12_logCount_0 : decode cX12_logCount 0 = .ok (.aload_n 0, 1) := by decide +kernel
theorem dX12_logCount_1 : decode cX12_logCount 1 = .ok (.iconst 0, 1) := by decide +kernel
theorem dX12_logCount_2 : decode cX12_logCount 2 = .ok (.putfield 88, 3) := by decide +kernel
theorem dX12_logCount_5 : decode cX12_logCount 5 = .ok (.aload_n 0, 1) := by decide +kernel
theorem dX12_logCount_6 : decode cX12_logCount 6 = .ok (.getfield 7, 3) := by decide +kernel
theorem dX12_logCount_9 : decode cX12_logCount 9 = .ok (.iconst 2, 1) := by decide +kernel
theorem dX12_logCount_10 : decode cX12_logCount 10 = .ok (.iaload, 1) := by decide +kernel
theorem dX12_logCount_11 : decode cX12_logCount 11 = .ok (.ireturn, 1) := by decide +kernel
theorem dX12_logged_0 : decode cX12_logged 0 = .ok (.iload_n 1, 1) := by decide +kernel
theorem dX12_logged_1 : decode cX12_logged 1 = .ok (.ifCond .ge 7, 3) := by decide +kernel
theorem dX12_logged_4 : decode cX12_logged 4 = .ok (.iconst (-1), 1) := by decide +kernel
theorem dX12_logged_5 : decode cX12_logged 5 = .ok (.goto 32, 3) := by decide +kernel
theorem dX12_logged_8 : decode cX12_logged 8 = .ok (.iload_n 1, 1) := by decide +kernel
theorem dX12_logged_9 : decode cX12_logged 9 = .ok (.aload_n 0, 1) := by decide +kernel
theorem dX12_logged_10 : decode cX12_logged 10 = .ok (.getfield 7, 3) := by decide +kernel
theorem dX12_logged_13 : decode cX12_logged 13 = .ok (.iconst 2, 1) := by decide +kernel
theorem dX12_logged_14 : decode cX12_logged 14 = .ok (.iaload, 1) := by decide +kernel
theorem dX12_logged_15 : decode cX12_logged 15 = .ok (.if_icmp .ge 20, 3) := by decide +kernel
theorem dX12_logged_18 : decode cX12_logged 18 = .ok (.aload_n 0, 1) := by decide +kernel
theorem dX12_logged_19 : decode cX12_logged 19 = .ok (.getfield 7, 3) := by decide +kernel
theorem dX12_logged_22 : decode cX12_logged 22 = .ok (.sipush 723, 3) := by decide +kernel
theorem dX12_logged_25 : decode cX12_logged 25 = .ok (.iconst 4, 1) := by decide +kernel
theorem dX12_logged_26 : decode cX12_logged 26 = .ok (.iload_n 1, 1) := by decide +kernel
theorem dX12_logged_27 : decode cX12_logged 27 = .ok (.imul, 1) := by decide +kernel
theorem dX12_logged_28 : decode cX12_logged 28 = .ok (.iadd, 1) := by decide +kernel
theorem dX12_logged_29 : decode cX12_logged 29 = .ok (.iload_n 2, 1) := by decide +kernel
theorem dX12_logged_30 : decode cX12_logged 30 = .ok (.iadd, 1) := by decide +kernel
theorem dX12_logged_31 : decode cX12_logged 31 = .ok (.iaload, 1) := by decide +kernel
theorem dX12_logged_32 : decode cX12_logged 32 = .ok (.goto 5, 3) := by decide +kernel
theorem dX12_logged_35 : decode cX12_logged 35 = .ok (.bipush (-2), 2) := by decide +kernel
theorem dX12_logged_37 : decode cX12_logged 37 = .ok (.ireturn, 1) := by decide +kernel
theorem dX12_loggedLeaf_0 : decode cX12_loggedLeaf 0 = .ok (.aload_n 0, 1) := by decide +kernel
theorem dX12_loggedLeaf_1 : decode cX12_loggedLeaf 1 = .ok (.iconst 0, 1) := by decide +kernel
theorem dX12_loggedLeaf_2 : decode cX12_loggedLeaf 2 = .ok (.putfield 88, 3) := by decide +kernel
theorem dX12_loggedLeaf_5 : decode cX12_loggedLeaf 5 = .ok (.aload_n 0, 1) := by decide +kernel
theorem dX12_loggedLeaf_6 : decode cX12_loggedLeaf 6 = .ok (.iload_n 1, 1) := by decide +kernel
theorem dX12_loggedLeaf_7 : decode cX12_loggedLeaf 7 = .ok (.iconst 0, 1) := by decide +kernel
theorem dX12_loggedLeaf_8 : decode cX12_loggedLeaf 8 = .ok (.invokevirtual 317, 3) := by decide +kernel
theorem dX12_loggedLeaf_11 : decode cX12_loggedLeaf 11 = .ok (.ireturn, 1) := by decide +kernel
theorem dX12_loggedCost_0 : decode cX12_loggedCost 0 = .ok (.aload_n 0, 1) := by decide +kernel
theorem dX12_loggedCost_1 : decode cX12_loggedCost 1 = .ok (.iconst 0, 1) := by decide +kernel
theorem dX12_loggedCost_2 : decode cX12_loggedCost 2 = .ok (.putfield 88, 3) := by decide +kernel
theorem dX12_loggedCost_5 : decode cX12_loggedCost 5 = .ok (.aload_n 0, 1) := by decide +kernel
theorem dX12_loggedCost_6 : decode cX12_loggedCost 6 = .ok (.iload_n 1, 1) := by decide +kernel
theorem dX12_loggedCost_7 : decode cX12_loggedCost 7 = .ok (.iconst 1, 1) := by decide +kernel
theorem dX12_loggedCost_8 : decode cX12_loggedCost 8 = .ok (.invokevirtual 317, 3) := by decide +kernel
theorem dX12_loggedCost_11 : decode cX12_loggedCost 11 = .ok (.ireturn, 1) := by decide +kernel
theorem dX12_loggedLender_0 : decode cX12_loggedLender 0 = .ok (.aload_n 0, 1) := by decide +kernel
theorem dX12_loggedLender_1 : decode cX12_loggedLender 1 = .ok (.iconst 0, 1) := by decide +kernel
theorem dX12_loggedLender_2 : decode cX12_loggedLender 2 = .ok (.putfield 88, 3) := by decide +kernel
theorem dX12_loggedLender_5 : decode cX12_loggedLender 5 = .ok (.aload_n 0, 1) := by decide +kernel
theorem dX12_loggedLender_6 : decode cX12_loggedLender 6 = .ok (.iload_n 1, 1) := by decide +kernel
theorem dX12_loggedLender_7 : decode cX12_loggedLender 7 = .ok (.iconst 2, 1) := by decide +kernel
theorem dX12_loggedLender_8 : decode cX12_loggedLender 8 = .ok (.invokevirtual 317, 3) := by decide +kernel
theorem dX12_loggedLender_11 : decode cX12_loggedLender 11 = .ok (.ireturn, 1) := by decide +kernel
theorem dX12_loggedTime_0 : decode cX12_loggedTime 0 = .ok (.aload_n 0, 1) := by decide +kernel
theorem dX12_loggedTime_1 : decode cX12_loggedTime 1 = .ok (.iconst 0, 1) := by decide +kernel
theorem dX12_loggedTime_2 : decode cX12_loggedTime 2 = .ok (.putfield 88, 3) := by decide +kernel
theorem dX12_loggedTime_5 : decode cX12_loggedTime 5 = .ok (.aload_n 0, 1) := by decide +kernel
theorem dX12_loggedTime_6 : decode cX12_loggedTime 6 = .ok (.iload_n 1, 1) := by decide +kernel
theorem dX12_loggedTime_7 : decode cX12_loggedTime 7 = .ok (.iconst 3, 1) := by decide +kernel
theorem dX12_loggedTime_8 : decode cX12_loggedTime 8 = .ok (.invokevirtual 317, 3) := by decide +kernel
theorem dX12_loggedTime_11 : decode cX12_loggedTime 11 = .ok (.ireturn, 1) := by decide +kernel
theorem dX12_recentCost_0 : decode cX12_recentCost 0 = .ok (.aload_n 0, 1) := by decide +kernel
theorem dX12_recentCost_1 : decode cX12_recentCost 1 = .ok (.iconst 0, 1) := by decide +kernel
theorem dX12_recentCost_2 : decode cX12_recentCost 2 = .ok (.putfield 88, 3) := by decide +kernel
theorem dX12_recentCost_5 : decode cX12_recentCost 5 = .ok (.iload_n 1, 1) := by decide +kernel
theorem dX12_recentCost_6 : decode cX12_recentCost 6 = .ok (.iconst 1, 1) := by decide +kernel
theorem dX12_recentCost_7 : decode cX12_recentCost 7 = .ok (.if_icmp .ge 7, 3) := by decide +kernel
theorem dX12_recentCost_10 : decode cX12_recentCost 10 = .ok (.iconst (-1), 1) := by decide +kernel
theorem dX12_recentCost_11 : decode cX12_recentCost 11 = .ok (.goto 22, 3) := by decide +kernel
theorem dX12_recentCost_14 : decode cX12_recentCost 14 = .ok (.aload_n 0, 1) := by decide +kernel
theorem dX12_recentCost_15 : decode cX12_recentCost 15 = .ok (.aload_n 0, 1) := by decide +kernel
theorem dX12_recentCost_16 : decode cX12_recentCost 16 = .ok (.getfield 7, 3) := by decide +kernel
theorem dX12_recentCost_19 : decode cX12_recentCost 19 = .ok (.iconst 0, 1) := by decide +kernel
theorem dX12_recentCost_20 : decode cX12_recentCost 20 = .ok (.iaload, 1) := by decide +kernel
theorem dX12_recentCost_21 : decode cX12_recentCost 21 = .ok (.i2l, 1) := by decide +kernel
theorem dX12_recentCost_22 : decode cX12_recentCost 22 = .ok (.iload_n 1, 1) := by decide +kernel
theorem dX12_recentCost_23 : decode cX12_recentCost 23 = .ok (.i2l, 1) := by decide +kernel
theorem dX12_recentCost_24 : decode cX12_recentCost 24 = .ok (.lsub, 1) := by decide +kernel
theorem dX12_recentCost_25 : decode cX12_recentCost 25 = .ok (.lconst 1, 1) := by decide +kernel
theorem dX12_recentCost_26 : decode cX12_recentCost 26 = .ok (.ladd, 1) := by decide +kernel
theorem dX12_recentCost_27 : decode cX12_recentCost 27 = .ok (.ldc2_w 320, 3) := by decide +kernel
theorem dX12_recentCost_30 : decode cX12_recentCost 30 = .ok (.invokevirtual 313, 3) := by decide +kernel
theorem dX12_recentCost_33 : decode cX12_recentCost 33 = .ok (.ireturn, 1) := by decide +kernel
theorem dX12_puts_0 : decode cX12_puts 0 = .ok (.aload_n 0, 1) := by decide +kernel
theorem dX12_puts_1 : decode cX12_puts 1 = .ok (.getfield 85, 3) := by decide +kernel
theorem dX12_puts_4 : decode cX12_puts 4 = .ok (.aload_n 0, 1) := by decide +kernel
theorem dX12_puts_5 : decode cX12_puts 5 = .ok (.getfield 322, 3) := by decide +kernel
theorem dX12_puts_8 : decode cX12_puts 8 = .ok (.iload_n 1, 1) := by decide +kernel
theorem dX12_puts_9 : decode cX12_puts 9 = .ok (.iastore, 1) := by decide +kernel
theorem dX12_puts_10 : decode cX12_puts 10 = .ok (.aload_n 0, 1) := by decide +kernel
theorem dX12_puts_11 : decode cX12_puts 11 = .ok (.dup, 1) := by decide +kernel
theorem dX12_puts_12 : decode cX12_puts 12 = .ok (.getfield 322, 3) := by decide +kernel
theorem dX12_puts_15 : decode cX12_puts 15 = .ok (.iconst 1, 1) := by decide +kernel
theorem dX12_puts_16 : decode cX12_puts 16 = .ok (.iadd, 1) := by decide +kernel
theorem dX12_puts_17 : decode cX12_puts 17 = .ok (.putfield 322, 3) := by decide +kernel
theorem dX12_puts_20 : decode cX12_puts 20 = .ok (.return_, 1) := by decide +kernel
theorem dX12_putsWord_0 : decode cX12_putsWord 0 = .ok (.iconst 0, 1) := by decide +kernel
theorem dX12_putsWord_1 : decode cX12_putsWord 1 = .ok (.istore_n 3, 1) := by decide +kernel
theorem dX12_putsWord_2 : decode cX12_putsWord 2 = .ok (.iload_n 3, 1) := by decide +kernel
theorem dX12_putsWord_3 : decode cX12_putsWord 3 = .ok (.lload_n 1, 1) := by decide +kernel
theorem dX12_putsWord_4 : decode cX12_putsWord 4 = .ok (.invokestatic 239, 3) := by decide +kernel
theorem dX12_putsWord_7 : decode cX12_putsWord 7 = .ok (.if_icmp .ge 21, 3) := by decide +kernel
theorem dX12_putsWord_10 : decode cX12_putsWord 10 = .ok (.aload_n 0, 1) := by decide +kernel
theorem dX12_putsWord_11 : decode cX12_putsWord 11 = .ok (.bipush 96, 2) := by decide +kernel
theorem dX12_putsWord_13 : decode cX12_putsWord 13 = .ok (.lload_n 1, 1) := by decide +kernel
theorem dX12_putsWord_14 : decode cX12_putsWord 14 = .ok (.iload_n 3, 1) := by decide +kernel
theorem dX12_putsWord_15 : decode cX12_putsWord 15 = .ok (.invokestatic 243, 3) := by decide +kernel
theorem dX12_putsWord_18 : decode cX12_putsWord 18 = .ok (.iadd, 1) := by decide +kernel
theorem dX12_putsWord_19 : decode cX12_putsWord 19 = .ok (.invokevirtual 325, 3) := by decide +kernel
theorem dX12_putsWord_22 : decode cX12_putsWord 22 = .ok (.iinc 3 1, 3) := by decide +kernel
theorem dX12_putsWord_25 : decode cX12_putsWord 25 = .ok (.goto (-23), 3) := by decide +kernel
theorem dX12_putsWord_28 : decode cX12_putsWord 28 = .ok (.return_, 1) := by decide +kernel
theorem dX12_putsSpaced_0 : decode cX12_putsSpaced 0 = .ok (.aload_n 0, 1) := by decide +kernel
theorem dX12_putsSpaced_1 : decode cX12_putsSpaced 1 = .ok (.bipush 32, 2) := by decide +kernel
theorem dX12_putsSpaced_3 : decode cX12_putsSpaced 3 = .ok (.invokevirtual 325, 3) := by decide +kernel
theorem dX12_putsSpaced_6 : decode cX12_putsSpaced 6 = .ok (.aload_n 0, 1) := by decide +kernel
theorem dX12_putsSpaced_7 : decode cX12_putsSpaced 7 = .ok (.lload_n 1, 1) := by decide +kernel
theorem dX12_putsSpaced_8 : decode cX12_putsSpaced 8 = .ok (.invokevirtual 328, 3) := by decide +kernel
theorem dX12_putsSpaced_11 : decode cX12_putsSpaced 11 = .ok (.return_, 1) := by decide +kernel
theorem dX12_putsNumber_0 : decode cX12_putsNumber 0 = .ok (.aload_n 0, 1) := by decide +kernel
theorem dX12_putsNumber_1 : decode cX12_putsNumber 1 = .ok (.bipush 32, 2) := by decide +kernel
theorem dX12_putsNumber_3 : decode cX12_putsNumber 3 = .ok (.invokevirtual 325, 3) := by decide +kernel
theorem dX12_putsNumber_6 : decode cX12_putsNumber 6 = .ok (.iconst 1, 1) := by decide +kernel
theorem dX12_putsNumber_7 : decode cX12_putsNumber 7 = .ok (.istore_n 2, 1) := by decide +kernel
theorem dX12_putsNumber_8 : decode cX12_putsNumber 8 = .ok (.iload_n 1, 1) := by decide +kernel
theorem dX12_putsNumber_9 : decode cX12_putsNumber 9 = .ok (.iload_n 2, 1) := by decide +kernel
theorem dX12_putsNumber_10 : decode cX12_putsNumber 10 = .ok (.idiv, 1) := by decide +kernel
theorem dX12_putsNumber_11 : decode cX12_putsNumber 11 = .ok (.bipush 9, 2) := by decide +kernel
theorem dX12_putsNumber_13 : decode cX12_putsNumber 13 = .ok (.if_icmp .le 11, 3) := by decide +kernel
theorem dX12_putsNumber_16 : decode cX12_putsNumber 16 = .ok (.iload_n 2, 1) := by decide +kernel
theorem dX12_putsNumber_17 : decode cX12_putsNumber 17 = .ok (.bipush 10, 2) := by decide +kernel
theorem dX12_putsNumber_19 : decode cX12_putsNumber 19 = .ok (.imul, 1) := by decide +kernel
theorem dX12_putsNumber_20 : decode cX12_putsNumber 20 = .ok (.istore_n 2, 1) := by decide +kernel
theorem dX12_putsNumber_21 : decode cX12_putsNumber 21 = .ok (.goto (-13), 3) := by decide +kernel
theorem dX12_putsNumber_24 : decode cX12_putsNumber 24 = .ok (.iload_n 2, 1) := by decide +kernel
theorem dX12_putsNumber_25 : decode cX12_putsNumber 25 = .ok (.ifCond .le 24, 3) := by decide +kernel
theorem dX12_putsNumber_28 : decode cX12_putsNumber 28 = .ok (.aload_n 0, 1) := by decide +kernel
theorem dX12_putsNumber_29 : decode cX12_putsNumber 29 = .ok (.bipush 48, 2) := by decide +kernel
theorem dX12_putsNumber_31 : decode cX12_putsNumber 31 = .ok (.iload_n 1, 1) := by decide +kernel
theorem dX12_putsNumber_32 : decode cX12_putsNumber 32 = .ok (.iload_n 2, 1) := by decide +kernel
theorem dX12_putsNumber_33 : decode cX12_putsNumber 33 = .ok (.idiv, 1) := by decide +kernel
theorem dX12_putsNumber_34 : decode cX12_putsNumber 34 = .ok (.bipush 10, 2) := by decide +kernel
theorem dX12_putsNumber_36 : decode cX12_putsNumber 36 = .ok (.irem, 1) := by decide +kernel
theorem dX12_putsNumber_37 : decode cX12_putsNumber 37 = .ok (.iadd, 1) := by decide +kernel
theorem dX12_putsNumber_38 : decode cX12_putsNumber 38 = .ok (.invokevirtual 325, 3) := by decide +kernel
theorem dX12_putsNumber_41 : decode cX12_putsNumber 41 = .ok (.iload_n 2, 1) := by decide +kernel
theorem dX12_putsNumber_42 : decode cX12_putsNumber 42 = .ok (.bipush 10, 2) := by decide +kernel
theorem dX12_putsNumber_44 : decode cX12_putsNumber 44 = .ok (.idiv, 1) := by decide +kernel
theorem dX12_putsNumber_45 : decode cX12_putsNumber 45 = .ok (.istore_n 2, 1) := by decide +kernel
theorem dX12_putsNumber_46 : decode cX12_putsNumber 46 = .ok (.goto (-22), 3) := by decide +kernel
theorem dX12_putsNumber_49 : decode cX12_putsNumber 49 = .ok (.return_, 1) := by decide +kernel
theorem dX12_putsNode_0 : decode cX12_putsNode 0 = .ok (.aload_n 0, 1) := by decide +kernel
theorem dX12_putsNode_1 : decode cX12_putsNode 1 = .ok (.ldc2_w 165, 3) := by decide +kernel
theorem dX12_putsNode_4 : decode cX12_putsNode 4 = .ok (.invokevirtual 328, 3) := by decide +kernel
theorem dX12_putsNode_7 : decode cX12_putsNode 7 = .ok (.aload_n 0, 1) := by decide +kernel
theorem dX12_putsNode_8 : decode cX12_putsNode 8 = .ok (.aload_n 0, 1) := by decide +kernel
theorem dX12_putsNode_9 : decode cX12_putsNode 9 = .ok (.getfield 24, 3) := by decide +kernel
theorem dX12_putsNode_12 : decode cX12_putsNode 12 = .ok (.iload_n 1, 1) := by decide +kernel
theorem dX12_putsNode_13 : decode cX12_putsNode 13 = .ok (.laload, 1) := by decide +kernel
theorem dX12_putsNode_14 : decode cX12_putsNode 14 = .ok (.invokevirtual 332, 3) := by decide +kernel
theorem dX12_putsNode_17 : decode cX12_putsNode 17 = .ok (.iload_n 1, 1) := by decide +kernel
theorem dX12_putsNode_18 : decode cX12_putsNode 18 = .ok (.ifCond .le 25, 3) := by decide +kernel
theorem dX12_putsNode_21 : decode cX12_putsNode 21 = .ok (.aload_n 0, 1) := by decide +kernel
theorem dX12_putsNode_22 : decode cX12_putsNode 22 = .ok (.ldc2_w 167, 3) := by decide +kernel
theorem dX12_putsNode_25 : decode cX12_putsNode 25 = .ok (.invokevirtual 332, 3) := by decide +kernel
theorem dX12_putsNode_28 : decode cX12_putsNode 28 = .ok (.aload_n 0, 1) := by decide +kernel
theorem dX12_putsNode_29 : decode cX12_putsNode 29 = .ok (.aload_n 0, 1) := by decide +kernel
theorem dX12_putsNode_30 : decode cX12_putsNode 30 = .ok (.getfield 24, 3) := by decide +kernel
theorem dX12_putsNode_33 : decode cX12_putsNode 33 = .ok (.aload_n 0, 1) := by decide +kernel
theorem dX12_putsNode_34 : decode cX12_putsNode 34 = .ok (.getfield 31, 3) := by decide +kernel
theorem dX12_putsNode_37 : decode cX12_putsNode 37 = .ok (.iload_n 1, 1) := by decide +kernel
theorem dX12_putsNode_38 : decode cX12_putsNode 38 = .ok (.iaload, 1) := by decide +kernel
theorem dX12_putsNode_39 : decode cX12_putsNode 39 = .ok (.laload, 1) := by decide +kernel
theorem dX12_putsNode_40 : decode cX12_putsNode 40 = .ok (.invokevirtual 332, 3) := by decide +kernel
theorem dX12_putsNode_43 : decode cX12_putsNode 43 = .ok (.aload_n 0, 1) := by decide +kernel
theorem dX12_putsNode_44 : decode cX12_putsNode 44 = .ok (.ldc2_w 147, 3) := by decide +kernel
theorem dX12_putsNode_47 : decode cX12_putsNode 47 = .ok (.invokevirtual 332, 3) := by decide +kernel
theorem dX12_putsNode_50 : decode cX12_putsNode 50 = .ok (.aload_n 0, 1) := by decide +kernel
theorem dX12_putsNode_51 : decode cX12_putsNode 51 = .ok (.aload_n 0, 1) := by decide +kernel
theorem dX12_putsNode_52 : decode cX12_putsNode 52 = .ok (.getfield 7, 3) := by decide +kernel
theorem dX12_putsNode_55 : decode cX12_putsNode 55 = .ok (.bipush 99, 2) := by decide +kernel
theorem dX12_putsNode_57 : decode cX12_putsNode 57 = .ok (.iload_n 1, 1) := by decide +kernel
theorem dX12_putsNode_58 : decode cX12_putsNode 58 = .ok (.iadd, 1) := by decide +kernel
theorem dX12_putsNode_59 : decode cX12_putsNode 59 = .ok (.iaload, 1) := by decide +kernel
theorem dX12_putsNode_60 : decode cX12_putsNode 60 = .ok (.invokevirtual 335, 3) := by decide +kernel
theorem dX12_putsNode_63 : decode cX12_putsNode 63 = .ok (.aload_n 0, 1) := by decide +kernel
theorem dX12_putsNode_64 : decode cX12_putsNode 64 = .ok (.ldc2_w 149, 3) := by decide +kernel
theorem dX12_putsNode_67 : decode cX12_putsNode 67 = .ok (.invokevirtual 332, 3) := by decide +kernel
theorem dX12_putsNode_70 : decode cX12_putsNode 70 = .ok (.aload_n 0, 1) := by decide +kernel
theorem dX12_putsNode_71 : decode cX12_putsNode 71 = .ok (.aload_n 0, 1) := by decide +kernel
theorem dX12_putsNode_72 : decode cX12_putsNode 72 = .ok (.getfield 7, 3) := by decide +kernel
theorem dX12_putsNode_75 : decode cX12_putsNode 75 = .ok (.bipush 111, 2) := by decide +kernel
theorem dX12_putsNode_77 : decode cX12_putsNode 77 = .ok (.iload_n 1, 1) := by decide +kernel
theorem dX12_putsNode_78 : decode cX12_putsNode 78 = .ok (.iadd, 1) := by decide +kernel
theorem dX12_putsNode_79 : decode cX12_putsNode 79 = .ok (.iaload, 1) := by decide +kernel
theorem dX12_putsNode_80 : decode cX12_putsNode 80 = .ok (.invokevirtual 335, 3) := by decide +kernel
theorem dX12_putsNode_83 : decode cX12_putsNode 83 = .ok (.aload_n 0, 1) := by decide +kernel
theorem dX12_putsNode_84 : decode cX12_putsNode 84 = .ok (.ldc2_w 151, 3) := by decide +kernel
theorem dX12_putsNode_87 : decode cX12_putsNode 87 = .ok (.invokevirtual 332, 3) := by decide +kernel
theorem dX12_putsNode_90 : decode cX12_putsNode 90 = .ok (.aload_n 0, 1) := by decide +kernel
theorem dX12_putsNode_91 : decode cX12_putsNode 91 = .ok (.aload_n 0, 1) := by decide +kernel
theorem dX12_putsNode_92 : decode cX12_putsNode 92 = .ok (.getfield 34, 3) := by decide +kernel
theorem dX12_putsNode_95 : decode cX12_putsNode 95 = .ok (.iload_n 1, 1) := by decide +kernel
theorem dX12_putsNode_96 : decode cX12_putsNode 96 = .ok (.iaload, 1) := by decide +kernel
theorem dX12_putsNode_97 : decode cX12_putsNode 97 = .ok (.invokevirtual 335, 3) := by decide +kernel
theorem dX12_putsNode_100 : decode cX12_putsNode 100 = .ok (.aload_n 0, 1) := by decide +kernel
theorem dX12_putsNode_101 : decode cX12_putsNode 101 = .ok (.ldc2_w 153, 3) := by decide +kernel
theorem dX12_putsNode_104 : decode cX12_putsNode 104 = .ok (.invokevirtual 332, 3) := by decide +kernel
theorem dX12_putsNode_107 : decode cX12_putsNode 107 = .ok (.aload_n 0, 1) := by decide +kernel
theorem dX12_putsNode_108 : decode cX12_putsNode 108 = .ok (.aload_n 0, 1) := by decide +kernel
theorem dX12_putsNode_109 : decode cX12_putsNode 109 = .ok (.getfield 37, 3) := by decide +kernel
theorem dX12_putsNode_112 : decode cX12_putsNode 112 = .ok (.iload_n 1, 1) := by decide +kernel
theorem dX12_putsNode_113 : decode cX12_putsNode 113 = .ok (.iaload, 1) := by decide +kernel
theorem dX12_putsNode_114 : decode cX12_putsNode 114 = .ok (.invokevirtual 335, 3) := by decide +kernel
theorem dX12_putsNode_117 : decode cX12_putsNode 117 = .ok (.aload_n 0, 1) := by decide +kernel
theorem dX12_putsNode_118 : decode cX12_putsNode 118 = .ok (.ldc2_w 155, 3) := by decide +kernel
theorem dX12_putsNode_121 : decode cX12_putsNode 121 = .ok (.invokevirtual 332, 3) := by decide +kernel
theorem dX12_putsNode_124 : decode cX12_putsNode 124 = .ok (.aload_n 0, 1) := by decide +kernel
theorem dX12_putsNode_125 : decode cX12_putsNode 125 = .ok (.aload_n 0, 1) := by decide +kernel
theorem dX12_putsNode_126 : decode cX12_putsNode 126 = .ok (.getfield 7, 3) := by decide +kernel
theorem dX12_putsNode_129 : decode cX12_putsNode 129 = .ok (.bipush 123, 2) := by decide +kernel
theorem dX12_putsNode_131 : decode cX12_putsNode 131 = .ok (.iload_n 1, 1) := by decide +kernel
theorem dX12_putsNode_132 : decode cX12_putsNode 132 = .ok (.iadd, 1) := by decide +kernel
theorem dX12_putsNode_133 : decode cX12_putsNode 133 = .ok (.iaload, 1) := by decide +kernel
theorem dX12_putsNode_134 : decode cX12_putsNode 134 = .ok (.invokevirtual 335, 3) := by decide +kernel
theorem dX12_putsNode_137 : decode cX12_putsNode 137 = .ok (.aload_n 0, 1) := by decide +kernel
theorem dX12_putsNode_138 : decode cX12_putsNode 138 = .ok (.ldc2_w 157, 3) := by decide +kernel
theorem dX12_putsNode_141 : decode cX12_putsNode 141 = .ok (.invokevirtual 332, 3) := by decide +kernel
theorem dX12_putsNode_144 : decode cX12_putsNode 144 = .ok (.aload_n 0, 1) := by decide +kernel
theorem dX12_putsNode_145 : decode cX12_putsNode 145 = .ok (.aload_n 0, 1) := by decide +kernel
theorem dX12_putsNode_146 : decode cX12_putsNode 146 = .ok (.getfield 40, 3) := by decide +kernel
theorem dX12_putsNode_149 : decode cX12_putsNode 149 = .ok (.iload_n 1, 1) := by decide +kernel
theorem dX12_putsNode_150 : decode cX12_putsNode 150 = .ok (.iaload, 1) := by decide +kernel
theorem dX12_putsNode_151 : decode cX12_putsNode 151 = .ok (.invokevirtual 335, 3) := by decide +kernel
theorem dX12_putsNode_154 : decode cX12_putsNode 154 = .ok (.aload_n 0, 1) := by decide +kernel
theorem dX12_putsNode_155 : decode cX12_putsNode 155 = .ok (.getfield 43, 3) := by decide +kernel
theorem dX12_putsNode_158 : decode cX12_putsNode 158 = .ok (.iload_n 1, 1) := by decide +kernel
theorem dX12_putsNode_159 : decode cX12_putsNode 159 = .ok (.baload, 1) := by decide +kernel
theorem dX12_putsNode_160 : decode cX12_putsNode 160 = .ok (.ifCond .eq 10, 3) := by decide +kernel
theorem dX12_putsNode_163 : decode cX12_putsNode 163 = .ok (.aload_n 0, 1) := by decide +kernel
theorem dX12_putsNode_164 : decode cX12_putsNode 164 = .ok (.ldc2_w 159, 3) := by decide +kernel
theorem dX12_putsNode_167 : decode cX12_putsNode 167 = .ok (.invokevirtual 332, 3) := by decide +kernel
theorem dX12_putsNode_170 : decode cX12_putsNode 170 = .ok (.aload_n 0, 1) := by decide +kernel
theorem dX12_putsNode_171 : decode cX12_putsNode 171 = .ok (.bipush 59, 2) := by decide +kernel
theorem dX12_putsNode_173 : decode cX12_putsNode 173 = .ok (.invokevirtual 325, 3) := by decide +kernel
theorem dX12_putsNode_176 : decode cX12_putsNode 176 = .ok (.return_, 1) := by decide +kernel
theorem dX12_putsTimed_0 : decode cX12_putsTimed 0 = .ok (.aload_n 0, 1) := by decide +kernel
theorem dX12_putsTimed_1 : decode cX12_putsTimed 1 = .ok (.ldc2_w 173, 3) := by decide +kernel
theorem dX12_putsTimed_4 : decode cX12_putsTimed 4 = .ok (.invokevirtual 328, 3) := by decide +kernel
theorem dX12_putsTimed_7 : decode cX12_putsTimed 7 = .ok (.aload_n 0, 1) := by decide +kernel
theorem dX12_putsTimed_8 : decode cX12_putsTimed 8 = .ok (.aload_n 0, 1) := by decide +kernel
theorem dX12_putsTimed_9 : decode cX12_putsTimed 9 = .ok (.getfield 61, 3) := by decide +kernel
theorem dX12_putsTimed_12 : decode cX12_putsTimed 12 = .ok (.iload_n 1, 1) := by decide +kernel
theorem dX12_putsTimed_13 : decode cX12_putsTimed 13 = .ok (.iaload, 1) := by decide +kernel
theorem dX12_putsTimed_14 : decode cX12_putsTimed 14 = .ok (.invokevirtual 335, 3) := by decide +kernel
theorem dX12_putsTimed_17 : decode cX12_putsTimed 17 = .ok (.aload_n 0, 1) := by decide +kernel
theorem dX12_putsTimed_18 : decode cX12_putsTimed 18 = .ok (.aload_n 0, 1) := by decide +kernel
theorem dX12_putsTimed_19 : decode cX12_putsTimed 19 = .ok (.getfield 24, 3) := by decide +kernel
theorem dX12_putsTimed_22 : decode cX12_putsTimed 22 = .ok (.aload_n 0, 1) := by decide +kernel
theorem dX12_putsTimed_23 : decode cX12_putsTimed 23 = .ok (.getfield 64, 3) := by decide +kernel
theorem dX12_putsTimed_26 : decode cX12_putsTimed 26 = .ok (.iload_n 1, 1) := by decide +kernel
theorem dX12_putsTimed_27 : decode cX12_putsTimed 27 = .ok (.iaload, 1) := by decide +kernel
theorem dX12_putsTimed_28 : decode cX12_putsTimed 28 = .ok (.laload, 1) := by decide +kernel
theorem dX12_putsTimed_29 : decode cX12_putsTimed 29 = .ok (.invokevirtual 332, 3) := by decide +kernel
theorem dX12_putsTimed_32 : decode cX12_putsTimed 32 = .ok (.aload_n 0, 1) := by decide +kernel
theorem dX12_putsTimed_33 : decode cX12_putsTimed 33 = .ok (.aload_n 0, 1) := by decide +kernel
theorem dX12_putsTimed_34 : decode cX12_putsTimed 34 = .ok (.getfield 67, 3) := by decide +kernel
theorem dX12_putsTimed_37 : decode cX12_putsTimed 37 = .ok (.iload_n 1, 1) := by decide +kernel
theorem dX12_putsTimed_38 : decode cX12_putsTimed 38 = .ok (.iaload, 1) := by decide +kernel
theorem dX12_putsTimed_39 : decode cX12_putsTimed 39 = .ok (.ifCond .ne 9, 3) := by decide +kernel
theorem dX12_putsTimed_42 : decode cX12_putsTimed 42 = .ok (.ldc2_w 147, 3) := by decide +kernel
theorem dX12_putsTimed_45 : decode cX12_putsTimed 45 = .ok (.goto 22, 3) := by decide +kernel
theorem dX12_putsTimed_48 : decode cX12_putsTimed 48 = .ok (.aload_n 0, 1) := by decide +kernel
theorem dX12_putsTimed_49 : decode cX12_putsTimed 49 = .ok (.getfield 67, 3) := by decide +kernel
theorem dX12_putsTimed_52 : decode cX12_putsTimed 52 = .ok (.iload_n 1, 1) := by decide +kernel
theorem dX12_putsTimed_53 : decode cX12_putsTimed 53 = .ok (.iaload, 1) := by decide +kernel
theorem dX12_putsTimed_54 : decode cX12_putsTimed 54 = .ok (.iconst 1, 1) := by decide +kernel
theorem dX12_putsTimed_55 : decode cX12_putsTimed 55 = .ok (.if_icmp .ne 9, 3) := by decide +kernel
theorem dX12_putsTimed_58 : decode cX12_putsTimed 58 = .ok (.ldc2_w 149, 3) := by decide +kernel
theorem dX12_putsTimed_61 : decode cX12_putsTimed 61 = .ok (.goto 6, 3) := by decide +kernel
theorem dX12_putsTimed_64 : decode cX12_putsTimed 64 = .ok (.ldc2_w 155, 3) := by decide +kernel
theorem dX12_putsTimed_67 : decode cX12_putsTimed 67 = .ok (.invokevirtual 332, 3) := by decide +kernel
theorem dX12_putsTimed_70 : decode cX12_putsTimed 70 = .ok (.aload_n 0, 1) := by decide +kernel
theorem dX12_putsTimed_71 : decode cX12_putsTimed 71 = .ok (.aload_n 0, 1) := by decide +kernel
theorem dX12_putsTimed_72 : decode cX12_putsTimed 72 = .ok (.getfield 70, 3) := by decide +kernel
theorem dX12_putsTimed_75 : decode cX12_putsTimed 75 = .ok (.iload_n 1, 1) := by decide +kernel
theorem dX12_putsTimed_76 : decode cX12_putsTimed 76 = .ok (.iaload, 1) := by decide +kernel
theorem dX12_putsTimed_77 : decode cX12_putsTimed 77 = .ok (.invokevirtual 335, 3) := by decide +kernel
theorem dX12_putsTimed_80 : decode cX12_putsTimed 80 = .ok (.aload_n 0, 1) := by decide +kernel
theorem dX12_putsTimed_81 : decode cX12_putsTimed 81 = .ok (.bipush 59, 2) := by decide +kernel
theorem dX12_putsTimed_83 : decode cX12_putsTimed 83 = .ok (.invokevirtual 325, 3) := by decide +kernel
theorem dX12_putsTimed_86 : decode cX12_putsTimed 86 = .ok (.return_, 1) := by decide +kernel
theorem dX12_writes_0 : decode cX12_writes 0 = .ok (.aload_n 0, 1) := by decide +kernel
theorem dX12_writes_1 : decode cX12_writes 1 = .ok (.iconst 0, 1) := by decide +kernel
theorem dX12_writes_2 : decode cX12_writes 2 = .ok (.putfield 322, 3) := by decide +kernel
theorem dX12_writes_5 : decode cX12_writes 5 = .ok (.iconst 0, 1) := by decide +kernel
theorem dX12_writes_6 : decode cX12_writes 6 = .ok (.istore_n 1, 1) := by decide +kernel
theorem dX12_writes_7 : decode cX12_writes 7 = .ok (.iload_n 1, 1) := by decide +kernel
theorem dX12_writes_8 : decode cX12_writes 8 = .ok (.aload_n 0, 1) := by decide +kernel
theorem dX12_writes_9 : decode cX12_writes 9 = .ok (.getfield 91, 3) := by decide +kernel
theorem dX12_writes_12 : decode cX12_writes 12 = .ok (.if_icmp .ge 14, 3) := by decide +kernel
theorem dX12_writes_15 : decode cX12_writes 15 = .ok (.aload_n 0, 1) := by decide +kernel
theorem dX12_writes_16 : decode cX12_writes 16 = .ok (.iload_n 1, 1) := by decide +kernel
theorem dX12_writes_17 : decode cX12_writes 17 = .ok (.invokevirtual 338, 3) := by decide +kernel
theorem dX12_writes_20 : decode cX12_writes 20 = .ok (.iinc 1 1, 3) := by decide +kernel
theorem dX12_writes_23 : decode cX12_writes 23 = .ok (.goto (-16), 3) := by decide +kernel
theorem dX12_writes_26 : decode cX12_writes 26 = .ok (.aload_n 0, 1) := by decide +kernel
theorem dX12_writes_27 : decode cX12_writes 27 = .ok (.ldc2_w 169, 3) := by decide +kernel
theorem dX12_writes_30 : decode cX12_writes 30 = .ok (.invokevirtual 328, 3) := by decide +kernel
theorem dX12_writes_33 : decode cX12_writes 33 = .ok (.aload_n 0, 1) := by decide +kernel
theorem dX12_writes_34 : decode cX12_writes 34 = .ok (.aload_n 0, 1) := by decide +kernel
theorem dX12_writes_35 : decode cX12_writes 35 = .ok (.getfield 17, 3) := by decide +kernel
theorem dX12_writes_38 : decode cX12_writes 38 = .ok (.invokevirtual 335, 3) := by decide +kernel
theorem dX12_writes_41 : decode cX12_writes 41 = .ok (.aload_n 0, 1) := by decide +kernel
theorem dX12_writes_42 : decode cX12_writes 42 = .ok (.bipush 59, 2) := by decide +kernel
theorem dX12_writes_44 : decode cX12_writes 44 = .ok (.invokevirtual 325, 3) := by decide +kernel
theorem dX12_writes_47 : decode cX12_writes 47 = .ok (.aload_n 0, 1) := by decide +kernel
theorem dX12_writes_48 : decode cX12_writes 48 = .ok (.getfield 21, 3) := by decide +kernel
theorem dX12_writes_51 : decode cX12_writes 51 = .ok (.ifCond .lt 24, 3) := by decide +kernel
theorem dX12_writes_54 : decode cX12_writes 54 = .ok (.aload_n 0, 1) := by decide +kernel
theorem dX12_writes_55 : decode cX12_writes 55 = .ok (.ldc2_w 171, 3) := by decide +kernel
theorem dX12_writes_58 : decode cX12_writes 58 = .ok (.invokevirtual 328, 3) := by decide +kernel
theorem dX12_writes_61 : decode cX12_writes 61 = .ok (.aload_n 0, 1) := by decide +kernel
theorem dX12_writes_62 : decode cX12_writes 62 = .ok (.aload_n 0, 1) := by decide +kernel
theorem dX12_writes_63 : decode cX12_writes 63 = .ok (.getfield 21, 3) := by decide +kernel
theorem dX12_writes_66 : decode cX12_writes 66 = .ok (.invokevirtual 335, 3) := by decide +kernel
theorem dX12_writes_69 : decode cX12_writes 69 = .ok (.aload_n 0, 1) := by decide +kernel
theorem dX12_writes_70 : decode cX12_writes 70 = .ok (.bipush 59, 2) := by decide +kernel
theorem dX12_writes_72 : decode cX12_writes 72 = .ok (.invokevirtual 325, 3) := by decide +kernel
theorem dX12_writes_75 : decode cX12_writes 75 = .ok (.iconst 0, 1) := by decide +kernel
theorem dX12_writes_76 : decode cX12_writes 76 = .ok (.istore_n 1, 1) := by decide +kernel
theorem dX12_writes_77 : decode cX12_writes 77 = .ok (.iload_n 1, 1) := by decide +kernel
theorem dX12_writes_78 : decode cX12_writes 78 = .ok (.aload_n 0, 1) := by decide +kernel
theorem dX12_writes_79 : decode cX12_writes 79 = .ok (.getfield 208, 3) := by decide +kernel
theorem dX12_writes_82 : decode cX12_writes 82 = .ok (.if_icmp .ge 29, 3) := by decide +kernel
theorem dX12_writes_85 : decode cX12_writes 85 = .ok (.aload_n 0, 1) := by decide +kernel
theorem dX12_writes_86 : decode cX12_writes 86 = .ok (.getfield 61, 3) := by decide +kernel
theorem dX12_writes_89 : decode cX12_writes 89 = .ok (.iload_n 1, 1) := by decide +kernel
theorem dX12_writes_90 : decode cX12_writes 90 = .ok (.iaload, 1) := by decide +kernel
theorem dX12_writes_91 : decode cX12_writes 91 = .ok (.aload_n 0, 1) := by decide +kernel
theorem dX12_writes_92 : decode cX12_writes 92 = .ok (.getfield 7, 3) := by decide +kernel
theorem dX12_writes_95 : decode cX12_writes 95 = .ok (.iconst 0, 1) := by decide +kernel
theorem dX12_writes_96 : decode cX12_writes 96 = .ok (.iaload, 1) := by decide +kernel
theorem dX12_writes_97 : decode cX12_writes 97 = .ok (.if_icmp .le 8, 3) := by decide +kernel
theorem dX12_writes_100 : decode cX12_writes 100 = .ok (.aload_n 0, 1) := by decide +kernel
theorem dX12_writes_101 : decode cX12_writes 101 = .ok (.iload_n 1, 1) := by decide +kernel
theorem dX12_writes_102 : decode cX12_writes 102 = .ok (.invokevirtual 341, 3) := by decide +kernel
theorem dX12_writes_105 : decode cX12_writes 105 = .ok (.iinc 1 1, 3) := by decide +kernel
theorem dX12_writes_108 : decode cX12_writes 108 = .ok (.goto (-31), 3) := by decide +kernel
theorem dX12_writes_111 : decode cX12_writes 111 = .ok (.return_, 1) := by decide +kernel
theorem dX12_setupLength_0 : decode cX12_setupLength 0 = .ok (.aload_n 0, 1) := by decide +kernel
theorem dX12_setupLength_1 : decode cX12_setupLength 1 = .ok (.iconst 0, 1) := by decide +kernel
theorem dX12_setupLength_2 : decode cX12_setupLength 2 = .ok (.putfield 88, 3) := by decide +kernel
theorem dX12_setupLength_5 : decode cX12_setupLength 5 = .ok (.aload_n 0, 1) := by decide +kernel
theorem dX12_setupLength_6 : decode cX12_setupLength 6 = .ok (.invokevirtual 344, 3) := by decide +kernel
theorem dX12_setupLength_9 : decode cX12_setupLength 9 = .ok (.aload_n 0, 1) := by decide +kernel
theorem dX12_setupLength_10 : decode cX12_setupLength 10 = .ok (.getfield 322, 3) := by decide +kernel
theorem dX12_setupLength_13 : decode cX12_setupLength 13 = .ok (.ireturn, 1) := by decide +kernel
theorem dX12_setupByte_0 : decode cX12_setupByte 0 = .ok (.aload_n 0, 1) := by decide +kernel
theorem dX12_setupByte_1 : decode cX12_setupByte 1 = .ok (.iconst 0, 1) := by decide +kernel
theorem dX12_setupByte_2 : decode cX12_setupByte 2 = .ok (.putfield 88, 3) := by decide +kernel
theorem dX12_setupByte_5 : decode cX12_setupByte 5 = .ok (.aload_n 0, 1) := by decide +kernel
theorem dX12_setupByte_6 : decode cX12_setupByte 6 = .ok (.invokevirtual 344, 3) := by decide +kernel
theorem dX12_setupByte_9 : decode cX12_setupByte 9 = .ok (.iload_n 1, 1) := by decide +kernel
theorem dX12_setupByte_10 : decode cX12_setupByte 10 = .ok (.ifCond .ge 7, 3) := by decide +kernel
theorem dX12_setupByte_13 : decode cX12_setupByte 13 = .ok (.iconst (-1), 1) := by decide +kernel
theorem dX12_setupByte_14 : decode cX12_setupByte 14 = .ok (.goto 22, 3) := by decide +kernel
theorem dX12_setupByte_17 : decode cX12_setupByte 17 = .ok (.iload_n 1, 1) := by decide +kernel
theorem dX12_setupByte_18 : decode cX12_setupByte 18 = .ok (.aload_n 0, 1) := by decide +kernel
theorem dX12_setupByte_19 : decode cX12_setupByte 19 = .ok (.getfield 322, 3) := by decide +kernel
theorem dX12_setupByte_22 : decode cX12_setupByte 22 = .ok (.if_icmp .ge 12, 3) := by decide +kernel
theorem dX12_setupByte_25 : decode cX12_setupByte 25 = .ok (.aload_n 0, 1) := by decide +kernel
theorem dX12_setupByte_26 : decode cX12_setupByte 26 = .ok (.getfield 85, 3) := by decide +kernel
theorem dX12_setupByte_29 : decode cX12_setupByte 29 = .ok (.iload_n 1, 1) := by decide +kernel
theorem dX12_setupByte_30 : decode cX12_setupByte 30 = .ok (.iaload, 1) := by decide +kernel
theorem dX12_setupByte_31 : decode cX12_setupByte 31 = .ok (.goto 5, 3) := by decide +kernel
theorem dX12_setupByte_34 : decode cX12_setupByte 34 = .ok (.bipush (-2), 2) := by decide +kernel
theorem dX12_setupByte_36 : decode cX12_setupByte 36 = .ok (.ireturn, 1) := by decide +kernel
theorem dX12_sets_0 : decode cX12_sets 0 = .ok (.aload_n 0, 1) := by decide +kernel
theorem dX12_sets_1 : decode cX12_sets 1 = .ok (.iload_n 1, 1) := by decide +kernel
theorem dX12_sets_2 : decode cX12_sets 2 = .ok (.invokevirtual 98, 3) := by decide +kernel
theorem dX12_sets_5 : decode cX12_sets 5 = .ok (.ifCond .eq 17, 3) := by decide +kernel
theorem dX12_sets_8 : decode cX12_sets 8 = .ok (.iload_n 3, 1) := by decide +kernel
theorem dX12_sets_9 : decode cX12_sets 9 = .ok (.i2l, 1) := by decide +kernel
theorem dX12_sets_10 : decode cX12_sets 10 = .ok (.iload 4, 2) := by decide +kernel
theorem dX12_sets_12 : decode cX12_sets 12 = .ok (.i2l, 1) := by decide +kernel
theorem dX12_sets_13 : decode cX12_sets 13 = .ok (.iload 5, 2) := by decide +kernel
theorem dX12_sets_15 : decode cX12_sets 15 = .ok (.i2l, 1) := by decide +kernel
theorem dX12_sets_16 : decode cX12_sets 16 = .ok (.invokestatic 94, 3) := by decide +kernel
theorem dX12_sets_19 : decode cX12_sets 19 = .ok (.ifCond .ne 5, 3) := by decide +kernel
theorem dX12_sets_22 : decode cX12_sets 22 = .ok (.iconst (-1), 1) := by decide +kernel
theorem dX12_sets_23 : decode cX12_sets 23 = .ok (.ireturn, 1) := by decide +kernel
theorem dX12_sets_24 : decode cX12_sets 24 = .ok (.aload_n 0, 1) := by decide +kernel
theorem dX12_sets_25 : decode cX12_sets 25 = .ok (.getfield 7, 3) := by decide +kernel
theorem dX12_sets_28 : decode cX12_sets 28 = .ok (.iload_n 2, 1) := by decide +kernel
theorem dX12_sets_29 : decode cX12_sets 29 = .ok (.iload_n 1, 1) := by decide +kernel
theorem dX12_sets_30 : decode cX12_sets 30 = .ok (.iadd, 1) := by decide +kernel
theorem dX12_sets_31 : decode cX12_sets 31 = .ok (.iaload, 1) := by decide +kernel
theorem dX12_sets_32 : decode cX12_sets 32 = .ok (.istore 6, 2) := by decide +kernel
theorem dX12_sets_34 : decode cX12_sets 34 = .ok (.aload_n 0, 1) := by decide +kernel
theorem dX12_sets_35 : decode cX12_sets 35 = .ok (.getfield 7, 3) := by decide +kernel
theorem dX12_sets_38 : decode cX12_sets 38 = .ok (.iload_n 2, 1) := by decide +kernel
theorem dX12_sets_39 : decode cX12_sets 39 = .ok (.iload_n 1, 1) := by decide +kernel
theorem dX12_sets_40 : decode cX12_sets 40 = .ok (.iadd, 1) := by decide +kernel
theorem dX12_sets_41 : decode cX12_sets 41 = .ok (.iload_n 3, 1) := by decide +kernel
theorem dX12_sets_42 : decode cX12_sets 42 = .ok (.iastore, 1) := by decide +kernel
theorem dX12_sets_43 : decode cX12_sets 43 = .ok (.iload 6, 2) := by decide +kernel
theorem dX12_sets_45 : decode cX12_sets 45 = .ok (.ireturn, 1) := by decide +kernel
theorem dX12_setRate_0 : decode cX12_setRate 0 = .ok (.aload_n 0, 1) := by decide +kernel
theorem dX12_setRate_1 : decode cX12_setRate 1 = .ok (.iconst 0, 1) := by decide +kernel
theorem dX12_setRate_2 : decode cX12_setRate 2 = .ok (.putfield 88, 3) := by decide +kernel
theorem dX12_setRate_5 : decode cX12_setRate 5 = .ok (.aload_n 0, 1) := by decide +kernel
theorem dX12_setRate_6 : decode cX12_setRate 6 = .ok (.iload_n 1, 1) := by decide +kernel
theorem dX12_setRate_7 : decode cX12_setRate 7 = .ok (.bipush 99, 2) := by decide +kernel
theorem dX12_setRate_9 : decode cX12_setRate 9 = .ok (.iload_n 2, 1) := by decide +kernel
theorem dX12_setRate_10 : decode cX12_setRate 10 = .ok (.iconst 0, 1) := by decide +kernel
theorem dX12_setRate_11 : decode cX12_setRate 11 = .ok (.bipush 99, 2) := by decide +kernel
theorem dX12_setRate_13 : decode cX12_setRate 13 = .ok (.invokevirtual 347, 3) := by decide +kernel
theorem dX12_setRate_16 : decode cX12_setRate 16 = .ok (.ireturn, 1) := by decide +kernel
theorem dX12_setCeiling_0 : decode cX12_setCeiling 0 = .ok (.aload_n 0, 1) := by decide +kernel
theorem dX12_setCeiling_1 : decode cX12_setCeiling 1 = .ok (.iconst 0, 1) := by decide +kernel
theorem dX12_setCeiling_2 : decode cX12_setCeiling 2 = .ok (.putfield 88, 3) := by decide +kernel
theorem dX12_setCeiling_5 : decode cX12_setCeiling 5 = .ok (.aload_n 0, 1) := by decide +kernel
theorem dX12_setCeiling_6 : decode cX12_setCeiling 6 = .ok (.iload_n 1, 1) := by decide +kernel
theorem dX12_setCeiling_7 : decode cX12_setCeiling 7 = .ok (.bipush 111, 2) := by decide +kernel
theorem dX12_setCeiling_9 : decode cX12_setCeiling 9 = .ok (.iload_n 2, 1) := by decide +kernel
theorem dX12_setCeiling_10 : decode cX12_setCeiling 10 = .ok (.iconst 0, 1) := by decide +kernel
theorem dX12_setCeiling_11 : decode cX12_setCeiling 11 = .ok (.sipush 999, 3) := by decide +kernel
theorem dX12_setCeiling_14 : decode cX12_setCeiling 14 = .ok (.invokevirtual 347, 3) := by decide +kernel
theorem dX12_setCeiling_17 : decode cX12_setCeiling 17 = .ok (.ireturn, 1) := by decide +kernel
theorem dX12_setWeight_0 : decode cX12_setWeight 0 = .ok (.aload_n 0, 1) := by decide +kernel
theorem dX12_setWeight_1 : decode cX12_setWeight 1 = .ok (.iconst 0, 1) := by decide +kernel
theorem dX12_setWeight_2 : decode cX12_setWeight 2 = .ok (.putfield 88, 3) := by decide +kernel
theorem dX12_setWeight_5 : decode cX12_setWeight 5 = .ok (.aload_n 0, 1) := by decide +kernel
theorem dX12_setWeight_6 : decode cX12_setWeight 6 = .ok (.iload_n 1, 1) := by decide +kernel
theorem dX12_setWeight_7 : decode cX12_setWeight 7 = .ok (.bipush 123, 2) := by decide +kernel
theorem dX12_setWeight_9 : decode cX12_setWeight 9 = .ok (.iload_n 2, 1) := by decide +kernel
theorem dX12_setWeight_10 : decode cX12_setWeight 10 = .ok (.iconst 1, 1) := by decide +kernel
theorem dX12_setWeight_11 : decode cX12_setWeight 11 = .ok (.bipush 9, 2) := by decide +kernel
theorem dX12_setWeight_13 : decode cX12_setWeight 13 = .ok (.invokevirtual 347, 3) := by decide +kernel
theorem dX12_setWeight_16 : decode cX12_setWeight 16 = .ok (.ireturn, 1) := by decide +kernel
theorem dX12_clearQueue_0 : decode cX12_clearQueue 0 = .ok (.aload_n 0, 1) := by decide +kernel
theorem dX12_clearQueue_1 : decode cX12_clearQueue 1 = .ok (.iconst 0, 1) := by decide +kernel
theorem dX12_clearQueue_2 : decode cX12_clearQueue 2 = .ok (.putfield 88, 3) := by decide +kernel
theorem dX12_clearQueue_5 : decode cX12_clearQueue 5 = .ok (.aload_n 0, 1) := by decide +kernel
theorem dX12_clearQueue_6 : decode cX12_clearQueue 6 = .ok (.iload_n 1, 1) := by decide +kernel
theorem dX12_clearQueue_7 : decode cX12_clearQueue 7 = .ok (.invokevirtual 247, 3) := by decide +kernel
theorem dX12_clearQueue_10 : decode cX12_clearQueue 10 = .ok (.ifCond .ne 5, 3) := by decide +kernel
theorem dX12_clearQueue_13 : decode cX12_clearQueue 13 = .ok (.iconst (-1), 1) := by decide +kernel
theorem dX12_clearQueue_14 : decode cX12_clearQueue 14 = .ok (.ireturn, 1) := by decide +kernel
theorem dX12_clearQueue_15 : decode cX12_clearQueue 15 = .ok (.aload_n 0, 1) := by decide +kernel
theorem dX12_clearQueue_16 : decode cX12_clearQueue 16 = .ok (.getfield 7, 3) := by decide +kernel
theorem dX12_clearQueue_19 : decode cX12_clearQueue 19 = .ok (.sipush 135, 3) := by decide +kernel
theorem dX12_clearQueue_22 : decode cX12_clearQueue 22 = .ok (.iload_n 1, 1) := by decide +kernel
theorem dX12_clearQueue_23 : decode cX12_clearQueue 23 = .ok (.iadd, 1) := by decide +kernel
theorem dX12_clearQueue_24 : decode cX12_clearQueue 24 = .ok (.iaload, 1) := by decide +kernel
theorem dX12_clearQueue_25 : decode cX12_clearQueue 25 = .ok (.istore_n 2, 1) := by decide +kernel
theorem dX12_clearQueue_26 : decode cX12_clearQueue 26 = .ok (.aload_n 0, 1) := by decide +kernel
theorem dX12_clearQueue_27 : decode cX12_clearQueue 27 = .ok (.getfield 7, 3) := by decide +kernel
theorem dX12_clearQueue_30 : decode cX12_clearQueue 30 = .ok (.sipush 135, 3) := by decide +kernel
theorem dX12_clearQueue_33 : decode cX12_clearQueue 33 = .ok (.iload_n 1, 1) := by decide +kernel
theorem dX12_clearQueue_34 : decode cX12_clearQueue 34 = .ok (.iadd, 1) := by decide +kernel
theorem dX12_clearQueue_35 : decode cX12_clearQueue 35 = .ok (.iconst 0, 1) := by decide +kernel
theorem dX12_clearQueue_36 : decode cX12_clearQueue 36 = .ok (.iastore, 1) := by decide +kernel
theorem dX12_clearQueue_37 : decode cX12_clearQueue 37 = .ok (.iload_n 2, 1) := by decide +kernel
theorem dX12_clearQueue_38 : decode cX12_clearQueue 38 = .ok (.ireturn, 1) := by decide +kernel
theorem dX12_save_0 : decode cX12_save 0 = .ok (.aload_n 0, 1) := by decide +kernel
theorem dX12_save_1 : decode cX12_save 1 = .ok (.iconst 0, 1) := by decide +kernel
theorem dX12_save_2 : decode cX12_save 2 = .ok (.putfield 88, 3) := by decide +kernel
theorem dX12_save_5 : decode cX12_save 5 = .ok (.iload_n 1, 1) := by decide +kernel
theorem dX12_save_6 : decode cX12_save 6 = .ok (.i2l, 1) := by decide +kernel
theorem dX12_save_7 : decode cX12_save 7 = .ok (.lconst 0, 1) := by decide +kernel
theorem dX12_save_8 : decode cX12_save 8 = .ok (.lconst 1, 1) := by decide +kernel
theorem dX12_save_9 : decode cX12_save 9 = .ok (.invokestatic 94, 3) := by decide +kernel
theorem dX12_save_12 : decode cX12_save 12 = .ok (.ifCond .ne 5, 3) := by decide +kernel
theorem dX12_save_15 : decode cX12_save 15 = .ok (.iconst 0, 1) := by decide +kernel
theorem dX12_save_16 : decode cX12_save 16 = .ok (.ireturn, 1) := by decide +kernel
theorem dX12_save_17 : decode cX12_save 17 = .ok (.aload_n 0, 1) := by decide +kernel
theorem dX12_save_18 : decode cX12_save 18 = .ok (.iconst 0, 1) := by decide +kernel
theorem dX12_save_19 : decode cX12_save 19 = .ok (.iload_n 1, 1) := by decide +kernel
theorem dX12_save_20 : decode cX12_save 20 = .ok (.iconst 1, 1) := by decide +kernel
theorem dX12_save_21 : decode cX12_save 21 = .ok (.iadd, 1) := by decide +kernel
theorem dX12_save_22 : decode cX12_save 22 = .ok (.invokevirtual 275, 3) := by decide +kernel
theorem dX12_save_25 : decode cX12_save 25 = .ok (.aload_n 0, 1) := by decide +kernel
theorem dX12_save_26 : decode cX12_save 26 = .ok (.getfield 13, 3) := by decide +kernel
theorem dX12_save_29 : decode cX12_save 29 = .ok (.iload_n 1, 1) := by decide +kernel
theorem dX12_save_30 : decode cX12_save 30 = .ok (.iconst 1, 1) := by decide +kernel
theorem dX12_save_31 : decode cX12_save 31 = .ok (.bastore, 1) := by decide +kernel
theorem dX12_save_32 : decode cX12_save 32 = .ok (.iconst 1, 1) := by decide +kernel
theorem dX12_save_33 : decode cX12_save 33 = .ok (.ireturn, 1) := by decide +kernel
theorem dX12_restore_0 : decode cX12_restore 0 = .ok (.aload_n 0, 1) := by decide +kernel
theorem dX12_restore_1 : decode cX12_restore 1 = .ok (.iconst 0, 1) := by decide +kernel
theorem dX12_restore_2 : decode cX12_restore 2 = .ok (.putfield 88, 3) := by decide +kernel
theorem dX12_restore_5 : decode cX12_restore 5 = .ok (.iload_n 1, 1) := by decide +kernel
theorem dX12_restore_6 : decode cX12_restore 6 = .ok (.i2l, 1) := by decide +kernel
theorem dX12_restore_7 : decode cX12_restore 7 = .ok (.lconst 0, 1) := by decide +kernel
theorem dX12_restore_8 : decode cX12_restore 8 = .ok (.lconst 1, 1) := by decide +kernel
theorem dX12_restore_9 : decode cX12_restore 9 = .ok (.invokestatic 94, 3) := by decide +kernel
theorem dX12_restore_12 : decode cX12_restore 12 = .ok (.ifCond .eq 12, 3) := by decide +kernel
theorem dX12_restore_15 : decode cX12_restore 15 = .ok (.aload_n 0, 1) := by decide +kernel
theorem dX12_restore_16 : decode cX12_restore 16 = .ok (.getfield 13, 3) := by decide +kernel
theorem dX12_restore_19 : decode cX12_restore 19 = .ok (.iload_n 1, 1) := by decide +kernel
theorem dX12_restore_20 : decode cX12_restore 20 = .ok (.baload, 1) := by decide +kernel
theorem dX12_restore_21 : decode cX12_restore 21 = .ok (.ifCond .ne 5, 3) := by decide +kernel
theorem dX12_restore_24 : decode cX12_restore 24 = .ok (.iconst 0, 1) := by decide +kernel
theorem dX12_restore_25 : decode cX12_restore 25 = .ok (.ireturn, 1) := by decide +kernel
theorem dX12_restore_26 : decode cX12_restore 26 = .ok (.aload_n 0, 1) := by decide +kernel
theorem dX12_restore_27 : decode cX12_restore 27 = .ok (.iload_n 1, 1) := by decide +kernel
theorem dX12_restore_28 : decode cX12_restore 28 = .ok (.iconst 1, 1) := by decide +kernel
theorem dX12_restore_29 : decode cX12_restore 29 = .ok (.iadd, 1) := by decide +kernel
theorem dX12_restore_30 : decode cX12_restore 30 = .ok (.iconst 0, 1) := by decide +kernel
theorem dX12_restore_31 : decode cX12_restore 31 = .ok (.invokevirtual 275, 3) := by decide +kernel
theorem dX12_restore_34 : decode cX12_restore 34 = .ok (.iconst 1, 1) := by decide +kernel
theorem dX12_restore_35 : decode cX12_restore 35 = .ok (.ireturn, 1) := by decide +kernel
theorem dJ13_compare_74951_0 : decode cJ13_compare_74951 0 = .ok (.lload_n 0, 1) := by decide +kernel
theorem dJ13_compare_74951_1 : decode cJ13_compare_74951 1 = .ok (.lload_n 2, 1) := by decide +kernel
theorem dJ13_compare_74951_2 : decode cJ13_compare_74951 2 = .ok (.lcmp, 1) := by decide +kernel
theorem dJ13_compare_74951_3 : decode cJ13_compare_74951 3 = .ok (.ifCond .ge 7, 3) := by decide +kernel
theorem dJ13_compare_74951_6 : decode cJ13_compare_74951 6 = .ok (.iconst (-1), 1) := by decide +kernel
theorem dJ13_compare_74951_7 : decode cJ13_compare_74951 7 = .ok (.goto 14, 3) := by decide +kernel
theorem dJ13_compare_74951_10 : decode cJ13_compare_74951 10 = .ok (.lload_n 0, 1) := by decide +kernel
theorem dJ13_compare_74951_11 : decode cJ13_compare_74951 11 = .ok (.lload_n 2, 1) := by decide +kernel
theorem dJ13_compare_74951_12 : decode cJ13_compare_74951 12 = .ok (.lcmp, 1) := by decide +kernel
theorem dJ13_compare_74951_13 : decode cJ13_compare_74951 13 = .ok (.ifCond .ne 7, 3) := by decide +kernel
theorem dJ13_compare_74951_16 : decode cJ13_compare_74951 16 = .ok (.iconst 0, 1) := by decide +kernel
theorem dJ13_compare_74951_17 : decode cJ13_compare_74951 17 = .ok (.goto 4, 3) := by decide +kernel
theorem dJ13_compare_74951_20 : decode cJ13_compare_74951 20 = .ok (.iconst 1, 1) := by decide +kernel
theorem dJ13_compare_74951_21 : decode cJ13_compare_74951 21 = .ok (.ireturn, 1) := by decide +kernel
theorem dJ9_max_7cf53_0 : decode cJ9_max_7cf53 0 = .ok (.iload_n 0, 1) := by decide +kernel
theorem dJ9_max_7cf53_1 : decode cJ9_max_7cf53 1 = .ok (.iload_n 1, 1) := by decide +kernel
theorem dJ9_max_7cf53_2 : decode cJ9_max_7cf53 2 = .ok (.if_icmp .lt 7, 3) := by decide +kernel
theorem dJ9_max_7cf53_5 : decode cJ9_max_7cf53 5 = .ok (.iload_n 0, 1) := by decide +kernel
theorem dJ9_max_7cf53_6 : decode cJ9_max_7cf53 6 = .ok (.goto 4, 3) := by decide +kernel
theorem dJ9_max_7cf53_9 : decode cJ9_max_7cf53 9 = .ok (.iload_n 1, 1) := by decide +kernel
theorem dJ9_max_7cf53_10 : decode cJ9_max_7cf53 10 = .ok (.ireturn, 1) := by decide +kernel
theorem dJ9_min_7cf53_0 : decode cJ9_min_7cf53 0 = .ok (.iload_n 0, 1) := by decide +kernel
theorem dJ9_min_7cf53_1 : decode cJ9_min_7cf53 1 = .ok (.iload_n 1, 1) := by decide +kernel
theorem dJ9_min_7cf53_2 : decode cJ9_min_7cf53 2 = .ok (.if_icmp .gt 7, 3) := by decide +kernel
theorem dJ9_min_7cf53_5 : decode cJ9_min_7cf53 5 = .ok (.iload_n 0, 1) := by decide +kernel
theorem dJ9_min_7cf53_6 : decode cJ9_min_7cf53 6 = .ok (.goto 4, 3) := by decide +kernel
theorem dJ9_min_7cf53_9 : decode cJ9_min_7cf53 9 = .ok (.iload_n 1, 1) := by decide +kernel
theorem dJ9_min_7cf53_10 : decode cJ9_min_7cf53 10 = .ok (.ireturn, 1) := by decide +kernel
theorem dJ0_length_8abf5_0 : decode cJ0_length_8abf5 0 = .ok (.aload_n 0, 1) := by decide +kernel
theorem dJ0_length_8abf5_1 : decode cJ0_length_8abf5 1 = .ok (.getfield 9, 3) := by decide +kernel
theorem dJ0_length_8abf5_4 : decode cJ0_length_8abf5 4 = .ok (.arraylength, 1) := by decide +kernel
theorem dJ0_length_8abf5_5 : decode cJ0_length_8abf5 5 = .ok (.aload_n 0, 1) := by decide +kernel
theorem dJ0_length_8abf5_6 : decode cJ0_length_8abf5 6 = .ok (.invokevirtual 335, 3) := by decide +kernel
theorem dJ0_length_8abf5_9 : decode cJ0_length_8abf5 9 = .ok (.ishr, 1) := by decide +kernel
theorem dJ0_length_8abf5_10 : decode cJ0_length_8abf5 10 = .ok (.ireturn, 1) := by decide +kernel
theorem dJ0_charAt_5068e_0 : decode cJ0_charAt_5068e 0 = .ok (.aload_n 0, 1) := by decide +kernel
theorem dJ0_charAt_5068e_1 : decode cJ0_charAt_5068e 1 = .ok (.invokevirtual 492, 3) := by decide +kernel
theorem dJ0_charAt_5068e_4 : decode cJ0_charAt_5068e 4 = .ok (.ifCond .eq 12, 3) := by decide +kernel
theorem dJ0_charAt_5068e_7 : decode cJ0_charAt_5068e 7 = .ok (.aload_n 0, 1) := by decide +kernel
theorem dJ0_charAt_5068e_8 : decode cJ0_charAt_5068e 8 = .ok (.getfield 9, 3) := by decide +kernel
theorem dJ0_charAt_5068e_11 : decode cJ0_charAt_5068e 11 = .ok (.iload_n 1, 1) := by decide +kernel
theorem dJ0_charAt_5068e_12 : decode cJ0_charAt_5068e 12 = .ok (.invokestatic 495, 3) := by decide +kernel
theorem dJ0_charAt_5068e_15 : decode cJ0_charAt_5068e 15 = .ok (.ireturn, 1) := by decide +kernel
theorem dJ0_charAt_5068e_16 : decode cJ0_charAt_5068e 16 = .ok (.aload_n 0, 1) := by decide +kernel
theorem dJ0_charAt_5068e_17 : decode cJ0_charAt_5068e 17 = .ok (.getfield 9, 3) := by decide +kernel
theorem dJ0_charAt_5068e_20 : decode cJ0_charAt_5068e 20 = .ok (.iload_n 1, 1) := by decide +kernel
theorem dJ0_charAt_5068e_21 : decode cJ0_charAt_5068e 21 = .ok (.invokestatic 498, 3) := by decide +kernel
theorem dJ0_charAt_5068e_24 : decode cJ0_charAt_5068e 24 = .ok (.ireturn, 1) := by decide +kernel
theorem dJ0_coder_7d493_0 : decode cJ0_coder_7d493 0 = .ok (.getstatic 38, 3) := by decide +kernel
theorem dJ0_coder_7d493_3 : decode cJ0_coder_7d493 3 = .ok (.ifCond .eq 10, 3) := by decide +kernel
theorem dJ0_coder_7d493_6 : decode cJ0_coder_7d493 6 = .ok (.aload_n 0, 1) := by decide +kernel
theorem dJ0_coder_7d493_7 : decode cJ0_coder_7d493 7 = .ok (.getfield 15, 3) := by decide +kernel
theorem dJ0_coder_7d493_10 : decode cJ0_coder_7d493 10 = .ok (.goto 4, 3) := by decide +kernel
theorem dJ0_coder_7d493_13 : decode cJ0_coder_7d493 13 = .ok (.iconst 1, 1) := by decide +kernel
theorem dJ0_coder_7d493_14 : decode cJ0_coder_7d493 14 = .ok (.ireturn, 1) := by decide +kernel
theorem dJ0_isLatin1_aae02_0 : decode cJ0_isLatin1_aae02 0 = .ok (.getstatic 38, 3) := by decide +kernel
theorem dJ0_isLatin1_aae02_3 : decode cJ0_isLatin1_aae02 3 = .ok (.ifCond .eq 14, 3) := by decide +kernel
theorem dJ0_isLatin1_aae02_6 : decode cJ0_isLatin1_aae02 6 = .ok (.aload_n 0, 1) := by decide +kernel
theorem dJ0_isLatin1_aae02_7 : decode cJ0_isLatin1_aae02 7 = .ok (.getfield 15, 3) := by decide +kernel
theorem dJ0_isLatin1_aae02_10 : decode cJ0_isLatin1_aae02 10 = .ok (.ifCond .ne 7, 3) := by decide +kernel
theorem dJ0_isLatin1_aae02_13 : decode cJ0_isLatin1_aae02 13 = .ok (.iconst 1, 1) := by decide +kernel
theorem dJ0_isLatin1_aae02_14 : decode cJ0_isLatin1_aae02 14 = .ok (.goto 4, 3) := by decide +kernel
theorem dJ0_isLatin1_aae02_17 : decode cJ0_isLatin1_aae02 17 = .ok (.iconst 0, 1) := by decide +kernel
theorem dJ0_isLatin1_aae02_18 : decode cJ0_isLatin1_aae02 18 = .ok (.ireturn, 1) := by decide +kernel
theorem dJ0_checkIndex_df160_0 : decode cJ0_checkIndex_df160 0 = .ok (.iload_n 0, 1) := by decide +kernel
theorem dJ0_checkIndex_df160_1 : decode cJ0_checkIndex_df160 1 = .ok (.iload_n 1, 1) := by decide +kernel
theorem dJ0_checkIndex_df160_2 : decode cJ0_checkIndex_df160 2 = .ok (.getstatic 1053, 3) := by decide +kernel
theorem dJ0_checkIndex_df160_5 : decode cJ0_checkIndex_df160 5 = .ok (.invokestatic 1059, 3) := by decide +kernel
theorem dJ0_checkIndex_df160_8 : decode cJ0_checkIndex_df160 8 = .ok (.pop, 1) := by decide +kernel
theorem dJ0_checkIndex_df160_9 : decode cJ0_checkIndex_df160 9 = .ok (.return_, 1) := by decide +kernel
theorem dJ1_charAt_3b067_0 : decode cJ1_charAt_3b067 0 = .ok (.iload_n 1, 1) := by decide +kernel
theorem dJ1_charAt_3b067_1 : decode cJ1_charAt_3b067 1 = .ok (.aload_n 0, 1) := by decide +kernel
theorem dJ1_charAt_3b067_2 : decode cJ1_charAt_3b067 2 = .ok (.arraylength, 1) := by decide +kernel
theorem dJ1_charAt_3b067_3 : decode cJ1_charAt_3b067 3 = .ok (.invokestatic 9, 3) := by decide +kernel
theorem dJ1_charAt_3b067_6 : decode cJ1_charAt_3b067 6 = .ok (.aload_n 0, 1) := by decide +kernel
theorem dJ1_charAt_3b067_7 : decode cJ1_charAt_3b067 7 = .ok (.iload_n 1, 1) := by decide +kernel
theorem dJ1_charAt_3b067_8 : decode cJ1_charAt_3b067 8 = .ok (.baload, 1) := by decide +kernel
theorem dJ1_charAt_3b067_9 : decode cJ1_charAt_3b067 9 = .ok (.sipush 255, 3) := by decide +kernel
theorem dJ1_charAt_3b067_12 : decode cJ1_charAt_3b067 12 = .ok (.iand, 1) := by decide +kernel
theorem dJ1_charAt_3b067_13 : decode cJ1_charAt_3b067 13 = .ok (.i2c, 1) := by decide +kernel
theorem dJ1_charAt_3b067_14 : decode cJ1_charAt_3b067 14 = .ok (.ireturn, 1) := by decide +kernel
theorem dJ2_getChar_3b067_0 : decode cJ2_getChar_3b067 0 = .ok (.getstatic 44, 3) := by decide +kernel
theorem dJ2_getChar_3b067_3 : decode cJ2_getChar_3b067 3 = .ok (.ifCond .ne 25, 3) := by decide +kernel
theorem dJ2_getChar_3b067_6 : decode cJ2_getChar_3b067 6 = .ok (.iload_n 1, 1) := by decide +kernel
theorem dJ2_getChar_3b067_7 : decode cJ2_getChar_3b067 7 = .ok (.ifCond .lt 11, 3) := by decide +kernel
theorem dJ2_getChar_3b067_10 : decode cJ2_getChar_3b067 10 = .ok (.iload_n 1, 1) := by decide +kernel
theorem dJ2_getChar_3b067_11 : decode cJ2_getChar_3b067 11 = .ok (.aload_n 0, 1) := by decide +kernel
theorem dJ2_getChar_3b067_12 : decode cJ2_getChar_3b067 12 = .ok (.invokestatic 48, 3) := by decide +kernel
theorem dJ2_getChar_3b067_15 : decode cJ2_getChar_3b067 15 = .ok (.if_icmp .lt 13, 3) := by decide +kernel
theorem dJ2_getChar_3b067_18 : decode cJ2_getChar_3b067 18 = .ok (.new 52, 3) := by decide +kernel
theorem dJ2_getChar_3b067_21 : decode cJ2_getChar_3b067 21 = .ok (.dup, 1) := by decide +kernel
theorem dJ2_getChar_3b067_22 : decode cJ2_getChar_3b067 22 = .ok (.ldc 54, 2) := by decide +kernel
theorem dJ2_getChar_3b067_24 : decode cJ2_getChar_3b067 24 = .ok (.invokespecial 56, 3) := by decide +kernel
theorem dJ2_getChar_3b067_27 : decode cJ2_getChar_3b067 27 = .ok (.athrow, 1) := by decide +kernel
theorem dJ2_getChar_3b067_28 : decode cJ2_getChar_3b067 28 = .ok (.iload_n 1, 1) := by decide +kernel
theorem dJ2_getChar_3b067_29 : decode cJ2_getChar_3b067 29 = .ok (.iconst 1, 1) := by decide +kernel
theorem dJ2_getChar_3b067_30 : decode cJ2_getChar_3b067 30 = .ok (.ishl, 1) := by decide +kernel
theorem dJ2_getChar_3b067_31 : decode cJ2_getChar_3b067 31 = .ok (.istore_n 1, 1) := by decide +kernel
theorem dJ2_getChar_3b067_32 : decode cJ2_getChar_3b067 32 = .ok (.aload_n 0, 1) := by decide +kernel
theorem dJ2_getChar_3b067_33 : decode cJ2_getChar_3b067 33 = .ok (.iload_n 1, 1) := by decide +kernel
theorem dJ2_getChar_3b067_34 : decode cJ2_getChar_3b067 34 = .ok (.iinc 1 1, 3) := by decide +kernel
theorem dJ2_getChar_3b067_37 : decode cJ2_getChar_3b067 37 = .ok (.baload, 1) := by decide +kernel
theorem dJ2_getChar_3b067_38 : decode cJ2_getChar_3b067 38 = .ok (.sipush 255, 3) := by decide +kernel
theorem dJ2_getChar_3b067_41 : decode cJ2_getChar_3b067 41 = .ok (.iand, 1) := by decide +kernel
theorem dJ2_getChar_3b067_42 : decode cJ2_getChar_3b067 42 = .ok (.getstatic 59, 3) := by decide +kernel
theorem dJ2_getChar_3b067_45 : decode cJ2_getChar_3b067 45 = .ok (.ishl, 1) := by decide +kernel
theorem dJ2_getChar_3b067_46 : decode cJ2_getChar_3b067 46 = .ok (.aload_n 0, 1) := by decide +kernel
theorem dJ2_getChar_3b067_47 : decode cJ2_getChar_3b067 47 = .ok (.iload_n 1, 1) := by decide +kernel
theorem dJ2_getChar_3b067_48 : decode cJ2_getChar_3b067 48 = .ok (.baload, 1) := by decide +kernel
theorem dJ2_getChar_3b067_49 : decode cJ2_getChar_3b067 49 = .ok (.sipush 255, 3) := by decide +kernel
theorem dJ2_getChar_3b067_52 : decode cJ2_getChar_3b067 52 = .ok (.iand, 1) := by decide +kernel
theorem dJ2_getChar_3b067_53 : decode cJ2_getChar_3b067 53 = .ok (.getstatic 63, 3) := by decide +kernel
theorem dJ2_getChar_3b067_56 : decode cJ2_getChar_3b067 56 = .ok (.ishl, 1) := by decide +kernel
theorem dJ2_getChar_3b067_57 : decode cJ2_getChar_3b067 57 = .ok (.ior, 1) := by decide +kernel
theorem dJ2_getChar_3b067_58 : decode cJ2_getChar_3b067 58 = .ok (.i2c, 1) := by decide +kernel
theorem dJ2_getChar_3b067_59 : decode cJ2_getChar_3b067 59 = .ok (.ireturn, 1) := by decide +kernel
theorem dJ2_length_9d52b_0 : decode cJ2_length_9d52b 0 = .ok (.aload_n 0, 1) := by decide +kernel
theorem dJ2_length_9d52b_1 : decode cJ2_length_9d52b 1 = .ok (.arraylength, 1) := by decide +kernel
theorem dJ2_length_9d52b_2 : decode cJ2_length_9d52b 2 = .ok (.iconst 1, 1) := by decide +kernel
theorem dJ2_length_9d52b_3 : decode cJ2_length_9d52b 3 = .ok (.ishr, 1) := by decide +kernel
theorem dJ2_length_9d52b_4 : decode cJ2_length_9d52b 4 = .ok (.ireturn, 1) := by decide +kernel
theorem dJ2_charAt_3b067_0 : decode cJ2_charAt_3b067 0 = .ok (.iload_n 1, 1) := by decide +kernel
theorem dJ2_charAt_3b067_1 : decode cJ2_charAt_3b067 1 = .ok (.aload_n 0, 1) := by decide +kernel
theorem dJ2_charAt_3b067_2 : decode cJ2_charAt_3b067 2 = .ok (.invokestatic 67, 3) := by decide +kernel
theorem dJ2_charAt_3b067_5 : decode cJ2_charAt_3b067 5 = .ok (.aload_n 0, 1) := by decide +kernel
theorem dJ2_charAt_3b067_6 : decode cJ2_charAt_3b067 6 = .ok (.iload_n 1, 1) := by decide +kernel
theorem dJ2_charAt_3b067_7 : decode cJ2_charAt_3b067 7 = .ok (.invokestatic 71, 3) := by decide +kernel
theorem dJ2_charAt_3b067_10 : decode cJ2_charAt_3b067 10 = .ok (.ireturn, 1) := by decide +kernel
theorem dJ2_checkIndex_2214a_0 : decode cJ2_checkIndex_2214a 0 = .ok (.iload_n 0, 1) := by decide +kernel
theorem dJ2_checkIndex_2214a_1 : decode cJ2_checkIndex_2214a 1 = .ok (.aload_n 1, 1) := by decide +kernel
theorem dJ2_checkIndex_2214a_2 : decode cJ2_checkIndex_2214a 2 = .ok (.invokestatic 48, 3) := by decide +kernel
theorem dJ2_checkIndex_2214a_5 : decode cJ2_checkIndex_2214a 5 = .ok (.invokestatic 414, 3) := by decide +kernel
theorem dJ2_checkIndex_2214a_8 : decode cJ2_checkIndex_2214a 8 = .ok (.return_, 1) := by decide +kernel
theorem dJ3_checkIndex_8e157_0 : decode cJ3_checkIndex_8e157 0 = .ok (.iload_n 0, 1) := by decide +kernel
theorem dJ3_checkIndex_8e157_1 : decode cJ3_checkIndex_8e157 1 = .ok (.ifCond .lt 8, 3) := by decide +kernel
theorem dJ3_checkIndex_8e157_4 : decode cJ3_checkIndex_8e157 4 = .ok (.iload_n 0, 1) := by decide +kernel
theorem dJ3_checkIndex_8e157_5 : decode cJ3_checkIndex_8e157 5 = .ok (.iload_n 1, 1) := by decide +kernel
theorem dJ3_checkIndex_8e157_6 : decode cJ3_checkIndex_8e157 6 = .ok (.if_icmp .lt 10, 3) := by decide +kernel
theorem dJ3_checkIndex_8e157_9 : decode cJ3_checkIndex_8e157 9 = .ok (.aload_n 2, 1) := by decide +kernel
theorem dJ3_checkIndex_8e157_10 : decode cJ3_checkIndex_8e157 10 = .ok (.iload_n 0, 1) := by decide +kernel
theorem dJ3_checkIndex_8e157_11 : decode cJ3_checkIndex_8e157 11 = .ok (.iload_n 1, 1) := by decide +kernel
theorem dJ3_checkIndex_8e157_12 : decode cJ3_checkIndex_8e157 12 = .ok (.invokestatic 95, 3) := by decide +kernel
theorem dJ3_checkIndex_8e157_15 : decode cJ3_checkIndex_8e157 15 = .ok (.athrow, 1) := by decide +kernel
theorem dJ3_checkIndex_8e157_16 : decode cJ3_checkIndex_8e157 16 = .ok (.iload_n 0, 1) := by decide +kernel
theorem dJ3_checkIndex_8e157_17 : decode cJ3_checkIndex_8e157 17 = .ok (.ireturn, 1) := by decide +kernel
theorem dL_law_0 : decode cL_law 0 = .ok (.new 7, 3) := by decide +kernel
theorem dL_law_3 : decode cL_law 3 = .ok (.dup, 1) := by decide +kernel
theorem dL_law_4 : decode cL_law 4 = .ok (.invokespecial 9, 3) := by decide +kernel
theorem dL_law_7 : decode cL_law 7 = .ok (.astore_n 1, 1) := by decide +kernel
theorem dL_law_8 : decode cL_law 8 = .ok (.new 10, 3) := by decide +kernel
theorem dL_law_11 : decode cL_law 11 = .ok (.dup, 1) := by decide +kernel
theorem dL_law_12 : decode cL_law 12 = .ok (.invokespecial 12, 3) := by decide +kernel
theorem dL_law_15 : decode cL_law 15 = .ok (.astore_n 2, 1) := by decide +kernel
theorem dL_law_16 : decode cL_law 16 = .ok (.iconst 0, 1) := by decide +kernel
theorem dL_law_17 : decode cL_law 17 = .ok (.istore_n 3, 1) := by decide +kernel
theorem dL_law_18 : decode cL_law 18 = .ok (.iload_n 3, 1) := by decide +kernel
theorem dL_law_19 : decode cL_law 19 = .ok (.aload_n 0, 1) := by decide +kernel
theorem dL_law_20 : decode cL_law 20 = .ok (.arraylength, 1) := by decide +kernel
theorem dL_law_21 : decode cL_law 21 = .ok (.bipush 6, 2) := by decide +kernel
theorem dL_law_23 : decode cL_law 23 = .ok (.isub, 1) := by decide +kernel
theorem dL_law_24 : decode cL_law 24 = .ok (.if_icmp .gt 1858, 3) := by decide +kernel
theorem dL_law_27 : decode cL_law 27 = .ok (.aload_n 0, 1) := by decide +kernel
theorem dL_law_28 : decode cL_law 28 = .ok (.iload_n 3, 1) := by decide +kernel
theorem dL_law_29 : decode cL_law 29 = .ok (.iaload, 1) := by decide +kernel
theorem dL_law_30 : decode cL_law 30 = .ok (.bipush 63, 2) := by decide +kernel
theorem dL_law_32 : decode cL_law 32 = .ok (.iand, 1) := by decide +kernel
theorem dL_law_33 : decode cL_law 33 = .ok (.tableswitch 1843 0 63 #[271, 334, 357, 370, 383, 396, 409, 442, 465, 498, 521, 544, 567, 590, 613, 636, 659, 682, 705, 728, 751, 764, 787, 810, 833, 866, 889, 922, 955, 988, 1021, 1054, 1087, 1110, 1123, 1146, 1179, 1212, 1245, 1268, 1301, 1324, 1347, 1370, 1393, 1416, 1439, 1452, 1475, 1488, 1511, 1524, 1547, 1570, 1593, 1616, 1639, 1652, 1675, 1708, 1741, 1774, 1797, 1820], 271) := by decide +kernel
theorem dL_law_304 : decode cL_law 304 = .ok (.aload_n 1, 1) := by decide +kernel
theorem dL_law_305 : decode cL_law 305 = .ok (.aload_n 0, 1) := by decide +kernel
theorem dL_law_306 : decode cL_law 306 = .ok (.iload_n 3, 1) := by decide +kernel
theorem dL_law_307 : decode cL_law 307 = .ok (.iconst 1, 1) := by decide +kernel
theorem dL_law_308 : decode cL_law 308 = .ok (.iadd, 1) := by decide +kernel
theorem dL_law_309 : decode cL_law 309 = .ok (.iaload, 1) := by decide +kernel
theorem dL_law_310 : decode cL_law 310 = .ok (.aload_n 0, 1) := by decide +kernel
theorem dL_law_311 : decode cL_law 311 = .ok (.iload_n 3, 1) := by decide +kernel
theorem dL_law_312 : decode cL_law 312 = .ok (.iconst 2, 1) := by decide +kernel
theorem dL_law_313 : decode cL_law 313 = .ok (.iadd, 1) := by decide +kernel
theorem dL_law_314 : decode cL_law 314 = .ok (.iaload, 1) := by decide +kernel
theorem dL_law_315 : decode cL_law 315 = .ok (.aload_n 0, 1) := by decide +kernel
theorem dL_law_316 : decode cL_law 316 = .ok (.iload_n 3, 1) := by decide +kernel
theorem dL_law_317 : decode cL_law 317 = .ok (.iconst 3, 1) := by decide +kernel
theorem dL_law_318 : decode cL_law 318 = .ok (.iadd, 1) := by decide +kernel
theorem dL_law_319 : decode cL_law 319 = .ok (.iaload, 1) := by decide +kernel
theorem dL_law_320 : decode cL_law 320 = .ok (.aload_n 0, 1) := by decide +kernel
theorem dL_law_321 : decode cL_law 321 = .ok (.iload_n 3, 1) := by decide +kernel
theorem dL_law_322 : decode cL_law 322 = .ok (.iconst 4, 1) := by decide +kernel
theorem dL_law_323 : decode cL_law 323 = .ok (.iadd, 1) := by decide +kernel
theorem dL_law_324 : decode cL_law 324 = .ok (.iaload, 1) := by decide +kernel
theorem dL_law_325 : decode cL_law 325 = .ok (.aload_n 0, 1) := by decide +kernel
theorem dL_law_326 : decode cL_law 326 = .ok (.iload_n 3, 1) := by decide +kernel
theorem dL_law_327 : decode cL_law 327 = .ok (.iconst 5, 1) := by decide +kernel
theorem dL_law_328 : decode cL_law 328 = .ok (.iadd, 1) := by decide +kernel
theorem dL_law_329 : decode cL_law 329 = .ok (.iaload, 1) := by decide +kernel
theorem dL_law_330 : decode cL_law 330 = .ok (.invokevirtual 13, 3) := by decide +kernel
theorem dL_law_333 : decode cL_law 333 = .ok (.aload_n 2, 1) := by decide +kernel
theorem dL_law_334 : decode cL_law 334 = .ok (.aload_n 0, 1) := by decide +kernel
theorem dL_law_335 : decode cL_law 335 = .ok (.iload_n 3, 1) := by decide +kernel
theorem dL_law_336 : decode cL_law 336 = .ok (.iconst 1, 1) := by decide +kernel
theorem dL_law_337 : decode cL_law 337 = .ok (.iadd, 1) := by decide +kernel
theorem dL_law_338 : decode cL_law 338 = .ok (.iaload, 1) := by decide +kernel
theorem dL_law_339 : decode cL_law 339 = .ok (.aload_n 0, 1) := by decide +kernel
theorem dL_law_340 : decode cL_law 340 = .ok (.iload_n 3, 1) := by decide +kernel
theorem dL_law_341 : decode cL_law 341 = .ok (.iconst 2, 1) := by decide +kernel
theorem dL_law_342 : decode cL_law 342 = .ok (.iadd, 1) := by decide +kernel
theorem dL_law_343 : decode cL_law 343 = .ok (.iaload, 1) := by decide +kernel
theorem dL_law_344 : decode cL_law 344 = .ok (.aload_n 0, 1) := by decide +kernel
theorem dL_law_345 : decode cL_law 345 = .ok (.iload_n 3, 1) := by decide +kernel
theorem dL_law_346 : decode cL_law 346 = .ok (.iconst 3, 1) := by decide +kernel
theorem dL_law_347 : decode cL_law 347 = .ok (.iadd, 1) := by decide +kernel
theorem dL_law_348 : decode cL_law 348 = .ok (.iaload, 1) := by decide +kernel
theorem dL_law_349 : decode cL_law 349 = .ok (.aload_n 0, 1) := by decide +kernel
theorem dL_law_350 : decode cL_law 350 = .ok (.iload_n 3, 1) := by decide +kernel
theorem dL_law_351 : decode cL_law 351 = .ok (.iconst 4, 1) := by decide +kernel
theorem dL_law_352 : decode cL_law 352 = .ok (.iadd, 1) := by decide +kernel
theorem dL_law_353 : decode cL_law 353 = .ok (.iaload, 1) := by decide +kernel
theorem dL_law_354 : decode cL_law 354 = .ok (.aload_n 0, 1) := by decide +kernel
theorem dL_law_355 : decode cL_law 355 = .ok (.iload_n 3, 1) := by decide +kernel
theorem dL_law_356 : decode cL_law 356 = .ok (.iconst 5, 1) := by decide +kernel
theorem dL_law_357 : decode cL_law 357 = .ok (.iadd, 1) := by decide +kernel
theorem dL_law_358 : decode cL_law 358 = .ok (.iaload, 1) := by decide +kernel
theorem dL_law_359 : decode cL_law 359 = .ok (.invokevirtual 17, 3) := by decide +kernel
theorem dL_law_362 : decode cL_law 362 = .ok (.if_icmp .eq 1514, 3) := by decide +kernel
theorem dL_law_365 : decode cL_law 365 = .ok (.iconst 0, 1) := by decide +kernel
theorem dL_law_366 : decode cL_law 366 = .ok (.ireturn, 1) := by decide +kernel
theorem dL_law_367 : decode cL_law 367 = .ok (.aload_n 1, 1) := by decide +kernel
theorem dL_law_368 : decode cL_law 368 = .ok (.aload_n 0, 1) := by decide +kernel
theorem dL_law_369 : decode cL_law 369 = .ok (.iload_n 3, 1) := by decide +kernel
theorem dL_law_370 : decode cL_law 370 = .ok (.iconst 1, 1) := by decide +kernel
theorem dL_law_371 : decode cL_law 371 = .ok (.iadd, 1) := by decide +kernel
theorem dL_law_372 : decode cL_law 372 = .ok (.iaload, 1) := by decide +kernel
theorem dL_law_373 : decode cL_law 373 = .ok (.invokevirtual 18, 3) := by decide +kernel
theorem dL_law_376 : decode cL_law 376 = .ok (.aload_n 2, 1) := by decide +kernel
theorem dL_law_377 : decode cL_law 377 = .ok (.aload_n 0, 1) := by decide +kernel
theorem dL_law_378 : decode cL_law 378 = .ok (.iload_n 3, 1) := by decide +kernel
theorem dL_law_379 : decode cL_law 379 = .ok (.iconst 1, 1) := by decide +kernel
theorem dL_law_380 : decode cL_law 380 = .ok (.iadd, 1) := by decide +kernel
theorem dL_law_381 : decode cL_law 381 = .ok (.iaload, 1) := by decide +kernel
theorem dL_law_382 : decode cL_law 382 = .ok (.invokevirtual 22, 3) := by decide +kernel
theorem dL_law_385 : decode cL_law 385 = .ok (.if_icmp .eq 1491, 3) := by decide +kernel
theorem dL_law_388 : decode cL_law 388 = .ok (.iconst 0, 1) := by decide +kernel
theorem dL_law_389 : decode cL_law 389 = .ok (.ireturn, 1) := by decide +kernel
theorem dL_law_390 : decode cL_law 390 = .ok (.aload_n 1, 1) := by decide +kernel
theorem dL_law_391 : decode cL_law 391 = .ok (.invokevirtual 23, 3) := by decide +kernel
theorem dL_law_394 : decode cL_law 394 = .ok (.aload_n 2, 1) := by decide +kernel
theorem dL_law_395 : decode cL_law 395 = .ok (.invokevirtual 27, 3) := by decide +kernel
theorem dL_law_398 : decode cL_law 398 = .ok (.if_icmp .eq 1478, 3) := by decide +kernel
theorem dL_law_401 : decode cL_law 401 = .ok (.iconst 0, 1) := by decide +kernel
theorem dL_law_402 : decode cL_law 402 = .ok (.ireturn, 1) := by decide +kernel
theorem dL_law_403 : decode cL_law 403 = .ok (.aload_n 1, 1) := by decide +kernel
theorem dL_law_404 : decode cL_law 404 = .ok (.invokevirtual 28, 3) := by decide +kernel
theorem dL_law_407 : decode cL_law 407 = .ok (.aload_n 2, 1) := by decide +kernel
theorem dL_law_408 : decode cL_law 408 = .ok (.invokevirtual 31, 3) := by decide +kernel
theorem dL_law_411 : decode cL_law 411 = .ok (.if_icmp .eq 1465, 3) := by decide +kernel
theorem dL_law_414 : decode cL_law 414 = .ok (.iconst 0, 1) := by decide +kernel
theorem dL_law_415 : decode cL_law 415 = .ok (.ireturn, 1) := by decide +kernel
theorem dL_law_416 : decode cL_law 416 = .ok (.aload_n 1, 1) := by decide +kernel
theorem dL_law_417 : decode cL_law 417 = .ok (.invokevirtual 32, 3) := by decide +kernel
theorem dL_law_420 : decode cL_law 420 = .ok (.aload_n 2, 1) := by decide +kernel
theorem dL_law_421 : decode cL_law 421 = .ok (.invokevirtual 35, 3) := by decide +kernel
theorem dL_law_424 : decode cL_law 424 = .ok (.if_icmp .eq 1452, 3) := by decide +kernel
theorem dL_law_427 : decode cL_law 427 = .ok (.iconst 0, 1) := by decide +kernel
theorem dL_law_428 : decode cL_law 428 = .ok (.ireturn, 1) := by decide +kernel
theorem dL_law_429 : decode cL_law 429 = .ok (.aload_n 1, 1) := by decide +kernel
theorem dL_law_430 : decode cL_law 430 = .ok (.invokevirtual 36, 3) := by decide +kernel
theorem dL_law_433 : decode cL_law 433 = .ok (.aload_n 2, 1) := by decide +kernel
theorem dL_law_434 : decode cL_law 434 = .ok (.invokevirtual 39, 3) := by decide +kernel
theorem dL_law_437 : decode cL_law 437 = .ok (.if_icmp .eq 1439, 3) := by decide +kernel
theorem dL_law_440 : decode cL_law 440 = .ok (.iconst 0, 1) := by decide +kernel
theorem dL_law_441 : decode cL_law 441 = .ok (.ireturn, 1) := by decide +kernel
theorem dL_law_442 : decode cL_law 442 = .ok (.aload_n 1, 1) := by decide +kernel
theorem dL_law_443 : decode cL_law 443 = .ok (.aload_n 0, 1) := by decide +kernel
theorem dL_law_444 : decode cL_law 444 = .ok (.iload_n 3, 1) := by decide +kernel
theorem dL_law_445 : decode cL_law 445 = .ok (.iconst 1, 1) := by decide +kernel
theorem dL_law_446 : decode cL_law 446 = .ok (.iadd, 1) := by decide +kernel
theorem dL_law_447 : decode cL_law 447 = .ok (.iaload, 1) := by decide +kernel
theorem dL_law_448 : decode cL_law 448 = .ok (.aload_n 0, 1) := by decide +kernel
theorem dL_law_449 : decode cL_law 449 = .ok (.iload_n 3, 1) := by decide +kernel
theorem dL_law_450 : decode cL_law 450 = .ok (.iconst 2, 1) := by decide +kernel
theorem dL_law_451 : decode cL_law 451 = .ok (.iadd, 1) := by decide +kernel
theorem dL_law_452 : decode cL_law 452 = .ok (.iaload, 1) := by decide +kernel
theorem dL_law_453 : decode cL_law 453 = .ok (.invokevirtual 40, 3) := by decide +kernel
theorem dL_law_456 : decode cL_law 456 = .ok (.aload_n 2, 1) := by decide +kernel
theorem dL_law_457 : decode cL_law 457 = .ok (.aload_n 0, 1) := by decide +kernel
theorem dL_law_458 : decode cL_law 458 = .ok (.iload_n 3, 1) := by decide +kernel
theorem dL_law_459 : decode cL_law 459 = .ok (.iconst 1, 1) := by decide +kernel
theorem dL_law_460 : decode cL_law 460 = .ok (.iadd, 1) := by decide +kernel
theorem dL_law_461 : decode cL_law 461 = .ok (.iaload, 1) := by decide +kernel
theorem dL_law_462 : decode cL_law 462 = .ok (.aload_n 0, 1) := by decide +kernel
theorem dL_law_463 : decode cL_law 463 = .ok (.iload_n 3, 1) := by decide +kernel
theorem dL_law_464 : decode cL_law 464 = .ok (.iconst 2, 1) := by decide +kernel
theorem dL_law_465 : decode cL_law 465 = .ok (.iadd, 1) := by decide +kernel
theorem dL_law_466 : decode cL_law 466 = .ok (.iaload, 1) := by decide +kernel
theorem dL_law_467 : decode cL_law 467 = .ok (.invokevirtual 44, 3) := by decide +kernel
theorem dL_law_470 : decode cL_law 470 = .ok (.if_icmp .eq 1406, 3) := by decide +kernel
theorem dL_law_473 : decode cL_law 473 = .ok (.iconst 0, 1) := by decide +kernel
theorem dL_law_474 : decode cL_law 474 = .ok (.ireturn, 1) := by decide +kernel
theorem dL_law_475 : decode cL_law 475 = .ok (.aload_n 1, 1) := by decide +kernel
theorem dL_law_476 : decode cL_law 476 = .ok (.aload_n 0, 1) := by decide +kernel
theorem dL_law_477 : decode cL_law 477 = .ok (.iload_n 3, 1) := by decide +kernel
theorem dL_law_478 : decode cL_law 478 = .ok (.iconst 1, 1) := by decide +kernel
theorem dL_law_479 : decode cL_law 479 = .ok (.iadd, 1) := by decide +kernel
theorem dL_law_480 : decode cL_law 480 = .ok (.iaload, 1) := by decide +kernel
theorem dL_law_481 : decode cL_law 481 = .ok (.invokevirtual 45, 3) := by decide +kernel
theorem dL_law_484 : decode cL_law 484 = .ok (.aload_n 2, 1) := by decide +kernel
theorem dL_law_485 : decode cL_law 485 = .ok (.aload_n 0, 1) := by decide +kernel
theorem dL_law_486 : decode cL_law 486 = .ok (.iload_n 3, 1) := by decide +kernel
theorem dL_law_487 : decode cL_law 487 = .ok (.iconst 1, 1) := by decide +kernel
theorem dL_law_488 : decode cL_law 488 = .ok (.iadd, 1) := by decide +kernel
theorem dL_law_489 : decode cL_law 489 = .ok (.iaload, 1) := by decide +kernel
theorem dL_law_490 : decode cL_law 490 = .ok (.invokevirtual 48, 3) := by decide +kernel
theorem dL_law_493 : decode cL_law 493 = .ok (.if_icmp .eq 1383, 3) := by decide +kernel
theorem dL_law_496 : decode cL_law 496 = .ok (.iconst 0, 1) := by decide +kernel
theorem dL_law_497 : decode cL_law 497 = .ok (.ireturn, 1) := by decide +kernel
theorem dL_law_498 : decode cL_law 498 = .ok (.aload_n 1, 1) := by decide +kernel
theorem dL_law_499 : decode cL_law 499 = .ok (.aload_n 0, 1) := by decide +kernel
theorem dL_law_500 : decode cL_law 500 = .ok (.iload_n 3, 1) := by decide +kernel
theorem dL_law_501 : decode cL_law 501 = .ok (.iconst 1, 1) := by decide +kernel
theorem dL_law_502 : decode cL_law 502 = .ok (.iadd, 1) := by decide +kernel
theorem dL_law_503 : decode cL_law 503 = .ok (.iaload, 1) := by decide +kernel
theorem dL_law_504 : decode cL_law 504 = .ok (.aload_n 0, 1) := by decide +kernel
theorem dL_law_505 : decode cL_law 505 = .ok (.iload_n 3, 1) := by decide +kernel
theorem dL_law_506 : decode cL_law 506 = .ok (.iconst 2, 1) := by decide +kernel
theorem dL_law_507 : decode cL_law 507 = .ok (.iadd, 1) := by decide +kernel
theorem dL_law_508 : decode cL_law 508 = .ok (.iaload, 1) := by decide +kernel
theorem dL_law_509 : decode cL_law 509 = .ok (.invokevirtual 49, 3) := by decide +kernel
theorem dL_law_512 : decode cL_law 512 = .ok (.aload_n 2, 1) := by decide +kernel
theorem dL_law_513 : decode cL_law 513 = .ok (.aload_n 0, 1) := by decide +kernel
theorem dL_law_514 : decode cL_law 514 = .ok (.iload_n 3, 1) := by decide +kernel
theorem dL_law_515 : decode cL_law 515 = .ok (.iconst 1, 1) := by decide +kernel
theorem dL_law_516 : decode cL_law 516 = .ok (.iadd, 1) := by decide +kernel
theorem dL_law_517 : decode cL_law 517 = .ok (.iaload, 1) := by decide +kernel
theorem dL_law_518 : decode cL_law 518 = .ok (.aload_n 0, 1) := by decide +kernel
theorem dL_law_519 : decode cL_law 519 = .ok (.iload_n 3, 1) := by decide +kernel
theorem dL_law_520 : decode cL_law 520 = .ok (.iconst 2, 1) := by decide +kernel
theorem dL_law_521 : decode cL_law 521 = .ok (.iadd, 1) := by decide +kernel
theorem dL_law_522 : decode cL_law 522 = .ok (.iaload, 1) := by decide +kernel
theorem dL_law_523 : decode cL_law 523 = .ok (.invokevirtual 52, 3) := by decide +kernel
theorem dL_law_526 : decode cL_law 526 = .ok (.if_icmp .eq 1350, 3) := by decide +kernel
theorem dL_law_529 : decode cL_law 529 = .ok (.iconst 0, 1) := by decide +kernel
theorem dL_law_530 : decode cL_law 530 = .ok (.ireturn, 1) := by decide +kernel
theorem dL_law_531 : decode cL_law 531 = .ok (.aload_n 1, 1) := by decide +kernel
theorem dL_law_532 : decode cL_law 532 = .ok (.aload_n 0, 1) := by decide +kernel
theorem dL_law_533 : decode cL_law 533 = .ok (.iload_n 3, 1) := by decide +kernel
theorem dL_law_534 : decode cL_law 534 = .ok (.iconst 1, 1) := by decide +kernel
theorem dL_law_535 : decode cL_law 535 = .ok (.iadd, 1) := by decide +kernel
theorem dL_law_536 : decode cL_law 536 = .ok (.iaload, 1) := by decide +kernel
theorem dL_law_537 : decode cL_law 537 = .ok (.invokevirtual 53, 3) := by decide +kernel
theorem dL_law_540 : decode cL_law 540 = .ok (.aload_n 2, 1) := by decide +kernel
theorem dL_law_541 : decode cL_law 541 = .ok (.aload_n 0, 1) := by decide +kernel
theorem dL_law_542 : decode cL_law 542 = .ok (.iload_n 3, 1) := by decide +kernel
theorem dL_law_543 : decode cL_law 543 = .ok (.iconst 1, 1) := by decide +kernel
theorem dL_law_544 : decode cL_law 544 = .ok (.iadd, 1) := by decide +kernel
theorem dL_law_545 : decode cL_law 545 = .ok (.iaload, 1) := by decide +kernel
theorem dL_law_546 : decode cL_law 546 = .ok (.invokevirtual 57, 3) := by decide +kernel
theorem dL_law_549 : decode cL_law 549 = .ok (.if_icmp .eq 1327, 3) := by decide +kernel
theorem dL_law_552 : decode cL_law 552 = .ok (.iconst 0, 1) := by decide +kernel
theorem dL_law_553 : decode cL_law 553 = .ok (.ireturn, 1) := by decide +kernel
theorem dL_law_554 : decode cL_law 554 = .ok (.aload_n 1, 1) := by decide +kernel
theorem dL_law_555 : decode cL_law 555 = .ok (.aload_n 0, 1) := by decide +kernel
theorem dL_law_556 : decode cL_law 556 = .ok (.iload_n 3, 1) := by decide +kernel
theorem dL_law_557 : decode cL_law 557 = .ok (.iconst 1, 1) := by decide +kernel
theorem dL_law_558 : decode cL_law 558 = .ok (.iadd, 1) := by decide +kernel
theorem dL_law_559 : decode cL_law 559 = .ok (.iaload, 1) := by decide +kernel
theorem dL_law_560 : decode cL_law 560 = .ok (.invokevirtual 58, 3) := by decide +kernel
theorem dL_law_563 : decode cL_law 563 = .ok (.aload_n 2, 1) := by decide +kernel
theorem dL_law_564 : decode cL_law 564 = .ok (.aload_n 0, 1) := by decide +kernel
theorem dL_law_565 : decode cL_law 565 = .ok (.iload_n 3, 1) := by decide +kernel
theorem dL_law_566 : decode cL_law 566 = .ok (.iconst 1, 1) := by decide +kernel
theorem dL_law_567 : decode cL_law 567 = .ok (.iadd, 1) := by decide +kernel
theorem dL_law_568 : decode cL_law 568 = .ok (.iaload, 1) := by decide +kernel
theorem dL_law_569 : decode cL_law 569 = .ok (.invokevirtual 61, 3) := by decide +kernel
theorem dL_law_572 : decode cL_law 572 = .ok (.if_icmp .eq 1304, 3) := by decide +kernel
theorem dL_law_575 : decode cL_law 575 = .ok (.iconst 0, 1) := by decide +kernel
theorem dL_law_576 : decode cL_law 576 = .ok (.ireturn, 1) := by decide +kernel
theorem dL_law_577 : decode cL_law 577 = .ok (.aload_n 1, 1) := by decide +kernel
theorem dL_law_578 : decode cL_law 578 = .ok (.aload_n 0, 1) := by decide +kernel
theorem dL_law_579 : decode cL_law 579 = .ok (.iload_n 3, 1) := by decide +kernel
theorem dL_law_580 : decode cL_law 580 = .ok (.iconst 1, 1) := by decide +kernel
theorem dL_law_581 : decode cL_law 581 = .ok (.iadd, 1) := by decide +kernel
theorem dL_law_582 : decode cL_law 582 = .ok (.iaload, 1) := by decide +kernel
theorem dL_law_583 : decode cL_law 583 = .ok (.invokevirtual 62, 3) := by decide +kernel
theorem dL_law_586 : decode cL_law 586 = .ok (.aload_n 2, 1) := by decide +kernel
theorem dL_law_587 : decode cL_law 587 = .ok (.aload_n 0, 1) := by decide +kernel
theorem dL_law_588 : decode cL_law 588 = .ok (.iload_n 3, 1) := by decide +kernel
theorem dL_law_589 : decode cL_law 589 = .ok (.iconst 1, 1) := by decide +kernel
theorem dL_law_590 : decode cL_law 590 = .ok (.iadd, 1) := by decide +kernel
theorem dL_law_591 : decode cL_law 591 = .ok (.iaload, 1) := by decide +kernel
theorem dL_law_592 : decode cL_law 592 = .ok (.invokevirtual 65, 3) := by decide +kernel
theorem dL_law_595 : decode cL_law 595 = .ok (.if_icmp .eq 1281, 3) := by decide +kernel
theorem dL_law_598 : decode cL_law 598 = .ok (.iconst 0, 1) := by decide +kernel
theorem dL_law_599 : decode cL_law 599 = .ok (.ireturn, 1) := by decide +kernel
theorem dL_law_600 : decode cL_law 600 = .ok (.aload_n 1, 1) := by decide +kernel
theorem dL_law_601 : decode cL_law 601 = .ok (.aload_n 0, 1) := by decide +kernel
theorem dL_law_602 : decode cL_law 602 = .ok (.iload_n 3, 1) := by decide +kernel
theorem dL_law_603 : decode cL_law 603 = .ok (.iconst 1, 1) := by decide +kernel
theorem dL_law_604 : decode cL_law 604 = .ok (.iadd, 1) := by decide +kernel
theorem dL_law_605 : decode cL_law 605 = .ok (.iaload, 1) := by decide +kernel
theorem dL_law_606 : decode cL_law 606 = .ok (.invokevirtual 66, 3) := by decide +kernel
theorem dL_law_609 : decode cL_law 609 = .ok (.aload_n 2, 1) := by decide +kernel
theorem dL_law_610 : decode cL_law 610 = .ok (.aload_n 0, 1) := by decide +kernel
theorem dL_law_611 : decode cL_law 611 = .ok (.iload_n 3, 1) := by decide +kernel
theorem dL_law_612 : decode cL_law 612 = .ok (.iconst 1, 1) := by decide +kernel
theorem dL_law_613 : decode cL_law 613 = .ok (.iadd, 1) := by decide +kernel
theorem dL_law_614 : decode cL_law 614 = .ok (.iaload, 1) := by decide +kernel
theorem dL_law_615 : decode cL_law 615 = .ok (.invokevirtual 69, 3) := by decide +kernel
theorem dL_law_618 : decode cL_law 618 = .ok (.if_icmp .eq 1258, 3) := by decide +kernel
theorem dL_law_621 : decode cL_law 621 = .ok (.iconst 0, 1) := by decide +kernel
theorem dL_law_622 : decode cL_law 622 = .ok (.ireturn, 1) := by decide +kernel
theorem dL_law_623 : decode cL_law 623 = .ok (.aload_n 1, 1) := by decide +kernel
theorem dL_law_624 : decode cL_law 624 = .ok (.aload_n 0, 1) := by decide +kernel
theorem dL_law_625 : decode cL_law 625 = .ok (.iload_n 3, 1) := by decide +kernel
theorem dL_law_626 : decode cL_law 626 = .ok (.iconst 1, 1) := by decide +kernel
theorem dL_law_627 : decode cL_law 627 = .ok (.iadd, 1) := by decide +kernel
theorem dL_law_628 : decode cL_law 628 = .ok (.iaload, 1) := by decide +kernel
theorem dL_law_629 : decode cL_law 629 = .ok (.invokevirtual 70, 3) := by decide +kernel
theorem dL_law_632 : decode cL_law 632 = .ok (.aload_n 2, 1) := by decide +kernel
theorem dL_law_633 : decode cL_law 633 = .ok (.aload_n 0, 1) := by decide +kernel
theorem dL_law_634 : decode cL_law 634 = .ok (.iload_n 3, 1) := by decide +kernel
theorem dL_law_635 : decode cL_law 635 = .ok (.iconst 1, 1) := by decide +kernel
theorem dL_law_636 : decode cL_law 636 = .ok (.iadd, 1) := by decide +kernel
theorem dL_law_637 : decode cL_law 637 = .ok (.iaload, 1) := by decide +kernel
theorem dL_law_638 : decode cL_law 638 = .ok (.invokevirtual 73, 3) := by decide +kernel
theorem dL_law_641 : decode cL_law 641 = .ok (.if_icmp .eq 1235, 3) := by decide +kernel
theorem dL_law_644 : decode cL_law 644 = .ok (.iconst 0, 1) := by decide +kernel
theorem dL_law_645 : decode cL_law 645 = .ok (.ireturn, 1) := by decide +kernel
theorem dL_law_646 : decode cL_law 646 = .ok (.aload_n 1, 1) := by decide +kernel
theorem dL_law_647 : decode cL_law 647 = .ok (.aload_n 0, 1) := by decide +kernel
theorem dL_law_648 : decode cL_law 648 = .ok (.iload_n 3, 1) := by decide +kernel
theorem dL_law_649 : decode cL_law 649 = .ok (.iconst 1, 1) := by decide +kernel
theorem dL_law_650 : decode cL_law 650 = .ok (.iadd, 1) := by decide +kernel
theorem dL_law_651 : decode cL_law 651 = .ok (.iaload, 1) := by decide +kernel
theorem dL_law_652 : decode cL_law 652 = .ok (.invokevirtual 74, 3) := by decide +kernel
theorem dL_law_655 : decode cL_law 655 = .ok (.aload_n 2, 1) := by decide +kernel
theorem dL_law_656 : decode cL_law 656 = .ok (.aload_n 0, 1) := by decide +kernel
theorem dL_law_657 : decode cL_law 657 = .ok (.iload_n 3, 1) := by decide +kernel
theorem dL_law_658 : decode cL_law 658 = .ok (.iconst 1, 1) := by decide +kernel
theorem dL_law_659 : decode cL_law 659 = .ok (.iadd, 1) := by decide +kernel
theorem dL_law_660 : decode cL_law 660 = .ok (.iaload, 1) := by decide +kernel
theorem dL_law_661 : decode cL_law 661 = .ok (.invokevirtual 77, 3) := by decide +kernel
theorem dL_law_664 : decode cL_law 664 = .ok (.if_icmp .eq 1212, 3) := by decide +kernel
theorem dL_law_667 : decode cL_law 667 = .ok (.iconst 0, 1) := by decide +kernel
theorem dL_law_668 : decode cL_law 668 = .ok (.ireturn, 1) := by decide +kernel
theorem dL_law_669 : decode cL_law 669 = .ok (.aload_n 1, 1) := by decide +kernel
theorem dL_law_670 : decode cL_law 670 = .ok (.aload_n 0, 1) := by decide +kernel
theorem dL_law_671 : decode cL_law 671 = .ok (.iload_n 3, 1) := by decide +kernel
theorem dL_law_672 : decode cL_law 672 = .ok (.iconst 1, 1) := by decide +kernel
theorem dL_law_673 : decode cL_law 673 = .ok (.iadd, 1) := by decide +kernel
theorem dL_law_674 : decode cL_law 674 = .ok (.iaload, 1) := by decide +kernel
theorem dL_law_675 : decode cL_law 675 = .ok (.invokevirtual 78, 3) := by decide +kernel
theorem dL_law_678 : decode cL_law 678 = .ok (.aload_n 2, 1) := by decide +kernel
theorem dL_law_679 : decode cL_law 679 = .ok (.aload_n 0, 1) := by decide +kernel
theorem dL_law_680 : decode cL_law 680 = .ok (.iload_n 3, 1) := by decide +kernel
theorem dL_law_681 : decode cL_law 681 = .ok (.iconst 1, 1) := by decide +kernel
theorem dL_law_682 : decode cL_law 682 = .ok (.iadd, 1) := by decide +kernel
theorem dL_law_683 : decode cL_law 683 = .ok (.iaload, 1) := by decide +kernel
theorem dL_law_684 : decode cL_law 684 = .ok (.invokevirtual 81, 3) := by decide +kernel
theorem dL_law_687 : decode cL_law 687 = .ok (.if_icmp .eq 1189, 3) := by decide +kernel
theorem dL_law_690 : decode cL_law 690 = .ok (.iconst 0, 1) := by decide +kernel
theorem dL_law_691 : decode cL_law 691 = .ok (.ireturn, 1) := by decide +kernel
theorem dL_law_692 : decode cL_law 692 = .ok (.aload_n 1, 1) := by decide +kernel
theorem dL_law_693 : decode cL_law 693 = .ok (.aload_n 0, 1) := by decide +kernel
theorem dL_law_694 : decode cL_law 694 = .ok (.iload_n 3, 1) := by decide +kernel
theorem dL_law_695 : decode cL_law 695 = .ok (.iconst 1, 1) := by decide +kernel
theorem dL_law_696 : decode cL_law 696 = .ok (.iadd, 1) := by decide +kernel
theorem dL_law_697 : decode cL_law 697 = .ok (.iaload, 1) := by decide +kernel
theorem dL_law_698 : decode cL_law 698 = .ok (.invokevirtual 82, 3) := by decide +kernel
theorem dL_law_701 : decode cL_law 701 = .ok (.aload_n 2, 1) := by decide +kernel
theorem dL_law_702 : decode cL_law 702 = .ok (.aload_n 0, 1) := by decide +kernel
theorem dL_law_703 : decode cL_law 703 = .ok (.iload_n 3, 1) := by decide +kernel
theorem dL_law_704 : decode cL_law 704 = .ok (.iconst 1, 1) := by decide +kernel
theorem dL_law_705 : decode cL_law 705 = .ok (.iadd, 1) := by decide +kernel
theorem dL_law_706 : decode cL_law 706 = .ok (.iaload, 1) := by decide +kernel
theorem dL_law_707 : decode cL_law 707 = .ok (.invokevirtual 85, 3) := by decide +kernel
theorem dL_law_710 : decode cL_law 710 = .ok (.if_icmp .eq 1166, 3) := by decide +kernel
theorem dL_law_713 : decode cL_law 713 = .ok (.iconst 0, 1) := by decide +kernel
theorem dL_law_714 : decode cL_law 714 = .ok (.ireturn, 1) := by decide +kernel
theorem dL_law_715 : decode cL_law 715 = .ok (.aload_n 1, 1) := by decide +kernel
theorem dL_law_716 : decode cL_law 716 = .ok (.aload_n 0, 1) := by decide +kernel
theorem dL_law_717 : decode cL_law 717 = .ok (.iload_n 3, 1) := by decide +kernel
theorem dL_law_718 : decode cL_law 718 = .ok (.iconst 1, 1) := by decide +kernel
theorem dL_law_719 : decode cL_law 719 = .ok (.iadd, 1) := by decide +kernel
theorem dL_law_720 : decode cL_law 720 = .ok (.iaload, 1) := by decide +kernel
theorem dL_law_721 : decode cL_law 721 = .ok (.invokevirtual 86, 3) := by decide +kernel
theorem dL_law_724 : decode cL_law 724 = .ok (.aload_n 2, 1) := by decide +kernel
theorem dL_law_725 : decode cL_law 725 = .ok (.aload_n 0, 1) := by decide +kernel
theorem dL_law_726 : decode cL_law 726 = .ok (.iload_n 3, 1) := by decide +kernel
theorem dL_law_727 : decode cL_law 727 = .ok (.iconst 1, 1) := by decide +kernel
theorem dL_law_728 : decode cL_law 728 = .ok (.iadd, 1) := by decide +kernel
theorem dL_law_729 : decode cL_law 729 = .ok (.iaload, 1) := by decide +kernel
theorem dL_law_730 : decode cL_law 730 = .ok (.invokevirtual 89, 3) := by decide +kernel
theorem dL_law_733 : decode cL_law 733 = .ok (.if_icmp .eq 1143, 3) := by decide +kernel
theorem dL_law_736 : decode cL_law 736 = .ok (.iconst 0, 1) := by decide +kernel
theorem dL_law_737 : decode cL_law 737 = .ok (.ireturn, 1) := by decide +kernel
theorem dL_law_738 : decode cL_law 738 = .ok (.aload_n 1, 1) := by decide +kernel
theorem dL_law_739 : decode cL_law 739 = .ok (.aload_n 0, 1) := by decide +kernel
theorem dL_law_740 : decode cL_law 740 = .ok (.iload_n 3, 1) := by decide +kernel
theorem dL_law_741 : decode cL_law 741 = .ok (.iconst 1, 1) := by decide +kernel
theorem dL_law_742 : decode cL_law 742 = .ok (.iadd, 1) := by decide +kernel
theorem dL_law_743 : decode cL_law 743 = .ok (.iaload, 1) := by decide +kernel
theorem dL_law_744 : decode cL_law 744 = .ok (.invokevirtual 90, 3) := by decide +kernel
theorem dL_law_747 : decode cL_law 747 = .ok (.aload_n 2, 1) := by decide +kernel
theorem dL_law_748 : decode cL_law 748 = .ok (.aload_n 0, 1) := by decide +kernel
theorem dL_law_749 : decode cL_law 749 = .ok (.iload_n 3, 1) := by decide +kernel
theorem dL_law_750 : decode cL_law 750 = .ok (.iconst 1, 1) := by decide +kernel
theorem dL_law_751 : decode cL_law 751 = .ok (.iadd, 1) := by decide +kernel
theorem dL_law_752 : decode cL_law 752 = .ok (.iaload, 1) := by decide +kernel
theorem dL_law_753 : decode cL_law 753 = .ok (.invokevirtual 93, 3) := by decide +kernel
theorem dL_law_756 : decode cL_law 756 = .ok (.if_icmp .eq 1120, 3) := by decide +kernel
theorem dL_law_759 : decode cL_law 759 = .ok (.iconst 0, 1) := by decide +kernel
theorem dL_law_760 : decode cL_law 760 = .ok (.ireturn, 1) := by decide +kernel
theorem dL_law_761 : decode cL_law 761 = .ok (.aload_n 1, 1) := by decide +kernel
theorem dL_law_762 : decode cL_law 762 = .ok (.aload_n 0, 1) := by decide +kernel
theorem dL_law_763 : decode cL_law 763 = .ok (.iload_n 3, 1) := by decide +kernel
theorem dL_law_764 : decode cL_law 764 = .ok (.iconst 1, 1) := by decide +kernel
theorem dL_law_765 : decode cL_law 765 = .ok (.iadd, 1) := by decide +kernel
theorem dL_law_766 : decode cL_law 766 = .ok (.iaload, 1) := by decide +kernel
theorem dL_law_767 : decode cL_law 767 = .ok (.invokevirtual 94, 3) := by decide +kernel
theorem dL_law_770 : decode cL_law 770 = .ok (.aload_n 2, 1) := by decide +kernel
theorem dL_law_771 : decode cL_law 771 = .ok (.aload_n 0, 1) := by decide +kernel
theorem dL_law_772 : decode cL_law 772 = .ok (.iload_n 3, 1) := by decide +kernel
theorem dL_law_773 : decode cL_law 773 = .ok (.iconst 1, 1) := by decide +kernel
theorem dL_law_774 : decode cL_law 774 = .ok (.iadd, 1) := by decide +kernel
theorem dL_law_775 : decode cL_law 775 = .ok (.iaload, 1) := by decide +kernel
theorem dL_law_776 : decode cL_law 776 = .ok (.invokevirtual 97, 3) := by decide +kernel
theorem dL_law_779 : decode cL_law 779 = .ok (.if_icmp .eq 1097, 3) := by decide +kernel
theorem dL_law_782 : decode cL_law 782 = .ok (.iconst 0, 1) := by decide +kernel
theorem dL_law_783 : decode cL_law 783 = .ok (.ireturn, 1) := by decide +kernel
theorem dL_law_784 : decode cL_law 784 = .ok (.aload_n 1, 1) := by decide +kernel
theorem dL_law_785 : decode cL_law 785 = .ok (.invokevirtual 98, 3) := by decide +kernel
theorem dL_law_788 : decode cL_law 788 = .ok (.aload_n 2, 1) := by decide +kernel
theorem dL_law_789 : decode cL_law 789 = .ok (.invokevirtual 101, 3) := by decide +kernel
theorem dL_law_792 : decode cL_law 792 = .ok (.if_icmp .eq 1084, 3) := by decide +kernel
theorem dL_law_795 : decode cL_law 795 = .ok (.iconst 0, 1) := by decide +kernel
theorem dL_law_796 : decode cL_law 796 = .ok (.ireturn, 1) := by decide +kernel
theorem dL_law_797 : decode cL_law 797 = .ok (.aload_n 1, 1) := by decide +kernel
theorem dL_law_798 : decode cL_law 798 = .ok (.aload_n 0, 1) := by decide +kernel
theorem dL_law_799 : decode cL_law 799 = .ok (.iload_n 3, 1) := by decide +kernel
theorem dL_law_800 : decode cL_law 800 = .ok (.iconst 1, 1) := by decide +kernel
theorem dL_law_801 : decode cL_law 801 = .ok (.iadd, 1) := by decide +kernel
theorem dL_law_802 : decode cL_law 802 = .ok (.iaload, 1) := by decide +kernel
theorem dL_law_803 : decode cL_law 803 = .ok (.invokevirtual 102, 3) := by decide +kernel
theorem dL_law_806 : decode cL_law 806 = .ok (.aload_n 2, 1) := by decide +kernel
theorem dL_law_807 : decode cL_law 807 = .ok (.aload_n 0, 1) := by decide +kernel
theorem dL_law_808 : decode cL_law 808 = .ok (.iload_n 3, 1) := by decide +kernel
theorem dL_law_809 : decode cL_law 809 = .ok (.iconst 1, 1) := by decide +kernel
theorem dL_law_810 : decode cL_law 810 = .ok (.iadd, 1) := by decide +kernel
theorem dL_law_811 : decode cL_law 811 = .ok (.iaload, 1) := by decide +kernel
theorem dL_law_812 : decode cL_law 812 = .ok (.invokevirtual 105, 3) := by decide +kernel
theorem dL_law_815 : decode cL_law 815 = .ok (.if_icmp .eq 1061, 3) := by decide +kernel
theorem dL_law_818 : decode cL_law 818 = .ok (.iconst 0, 1) := by decide +kernel
theorem dL_law_819 : decode cL_law 819 = .ok (.ireturn, 1) := by decide +kernel
theorem dL_law_820 : decode cL_law 820 = .ok (.aload_n 1, 1) := by decide +kernel
theorem dL_law_821 : decode cL_law 821 = .ok (.aload_n 0, 1) := by decide +kernel
theorem dL_law_822 : decode cL_law 822 = .ok (.iload_n 3, 1) := by decide +kernel
theorem dL_law_823 : decode cL_law 823 = .ok (.iconst 1, 1) := by decide +kernel
theorem dL_law_824 : decode cL_law 824 = .ok (.iadd, 1) := by decide +kernel
theorem dL_law_825 : decode cL_law 825 = .ok (.iaload, 1) := by decide +kernel
theorem dL_law_826 : decode cL_law 826 = .ok (.invokevirtual 106, 3) := by decide +kernel
theorem dL_law_829 : decode cL_law 829 = .ok (.aload_n 2, 1) := by decide +kernel
theorem dL_law_830 : decode cL_law 830 = .ok (.aload_n 0, 1) := by decide +kernel
theorem dL_law_831 : decode cL_law 831 = .ok (.iload_n 3, 1) := by decide +kernel
theorem dL_law_832 : decode cL_law 832 = .ok (.iconst 1, 1) := by decide +kernel
theorem dL_law_833 : decode cL_law 833 = .ok (.iadd, 1) := by decide +kernel
theorem dL_law_834 : decode cL_law 834 = .ok (.iaload, 1) := by decide +kernel
theorem dL_law_835 : decode cL_law 835 = .ok (.invokevirtual 109, 3) := by decide +kernel
theorem dL_law_838 : decode cL_law 838 = .ok (.if_icmp .eq 1038, 3) := by decide +kernel
theorem dL_law_841 : decode cL_law 841 = .ok (.iconst 0, 1) := by decide +kernel
theorem dL_law_842 : decode cL_law 842 = .ok (.ireturn, 1) := by decide +kernel
theorem dL_law_843 : decode cL_law 843 = .ok (.aload_n 1, 1) := by decide +kernel
theorem dL_law_844 : decode cL_law 844 = .ok (.aload_n 0, 1) := by decide +kernel
theorem dL_law_845 : decode cL_law 845 = .ok (.iload_n 3, 1) := by decide +kernel
theorem dL_law_846 : decode cL_law 846 = .ok (.iconst 1, 1) := by decide +kernel
theorem dL_law_847 : decode cL_law 847 = .ok (.iadd, 1) := by decide +kernel
theorem dL_law_848 : decode cL_law 848 = .ok (.iaload, 1) := by decide +kernel
theorem dL_law_849 : decode cL_law 849 = .ok (.invokevirtual 110, 3) := by decide +kernel
theorem dL_law_852 : decode cL_law 852 = .ok (.aload_n 2, 1) := by decide +kernel
theorem dL_law_853 : decode cL_law 853 = .ok (.aload_n 0, 1) := by decide +kernel
theorem dL_law_854 : decode cL_law 854 = .ok (.iload_n 3, 1) := by decide +kernel
theorem dL_law_855 : decode cL_law 855 = .ok (.iconst 1, 1) := by decide +kernel
theorem dL_law_856 : decode cL_law 856 = .ok (.iadd, 1) := by decide +kernel
theorem dL_law_857 : decode cL_law 857 = .ok (.iaload, 1) := by decide +kernel
theorem dL_law_858 : decode cL_law 858 = .ok (.invokevirtual 113, 3) := by decide +kernel
theorem dL_law_861 : decode cL_law 861 = .ok (.if_icmp .eq 1015, 3) := by decide +kernel
theorem dL_law_864 : decode cL_law 864 = .ok (.iconst 0, 1) := by decide +kernel
theorem dL_law_865 : decode cL_law 865 = .ok (.ireturn, 1) := by decide +kernel
theorem dL_law_866 : decode cL_law 866 = .ok (.aload_n 1, 1) := by decide +kernel
theorem dL_law_867 : decode cL_law 867 = .ok (.aload_n 0, 1) := by decide +kernel
theorem dL_law_868 : decode cL_law 868 = .ok (.iload_n 3, 1) := by decide +kernel
theorem dL_law_869 : decode cL_law 869 = .ok (.iconst 1, 1) := by decide +kernel
theorem dL_law_870 : decode cL_law 870 = .ok (.iadd, 1) := by decide +kernel
theorem dL_law_871 : decode cL_law 871 = .ok (.iaload, 1) := by decide +kernel
theorem dL_law_872 : decode cL_law 872 = .ok (.aload_n 0, 1) := by decide +kernel
theorem dL_law_873 : decode cL_law 873 = .ok (.iload_n 3, 1) := by decide +kernel
theorem dL_law_874 : decode cL_law 874 = .ok (.iconst 2, 1) := by decide +kernel
theorem dL_law_875 : decode cL_law 875 = .ok (.iadd, 1) := by decide +kernel
theorem dL_law_876 : decode cL_law 876 = .ok (.iaload, 1) := by decide +kernel
theorem dL_law_877 : decode cL_law 877 = .ok (.invokevirtual 114, 3) := by decide +kernel
theorem dL_law_880 : decode cL_law 880 = .ok (.aload_n 2, 1) := by decide +kernel
theorem dL_law_881 : decode cL_law 881 = .ok (.aload_n 0, 1) := by decide +kernel
theorem dL_law_882 : decode cL_law 882 = .ok (.iload_n 3, 1) := by decide +kernel
theorem dL_law_883 : decode cL_law 883 = .ok (.iconst 1, 1) := by decide +kernel
theorem dL_law_884 : decode cL_law 884 = .ok (.iadd, 1) := by decide +kernel
theorem dL_law_885 : decode cL_law 885 = .ok (.iaload, 1) := by decide +kernel
theorem dL_law_886 : decode cL_law 886 = .ok (.aload_n 0, 1) := by decide +kernel
theorem dL_law_887 : decode cL_law 887 = .ok (.iload_n 3, 1) := by decide +kernel
theorem dL_law_888 : decode cL_law 888 = .ok (.iconst 2, 1) := by decide +kernel
theorem dL_law_889 : decode cL_law 889 = .ok (.iadd, 1) := by decide +kernel
theorem dL_law_890 : decode cL_law 890 = .ok (.iaload, 1) := by decide +kernel
theorem dL_law_891 : decode cL_law 891 = .ok (.invokevirtual 117, 3) := by decide +kernel
theorem dL_law_894 : decode cL_law 894 = .ok (.if_icmp .eq 982, 3) := by decide +kernel
theorem dL_law_897 : decode cL_law 897 = .ok (.iconst 0, 1) := by decide +kernel
theorem dL_law_898 : decode cL_law 898 = .ok (.ireturn, 1) := by decide +kernel
theorem dL_law_899 : decode cL_law 899 = .ok (.aload_n 1, 1) := by decide +kernel
theorem dL_law_900 : decode cL_law 900 = .ok (.aload_n 0, 1) := by decide +kernel
theorem dL_law_901 : decode cL_law 901 = .ok (.iload_n 3, 1) := by decide +kernel
theorem dL_law_902 : decode cL_law 902 = .ok (.iconst 1, 1) := by decide +kernel
theorem dL_law_903 : decode cL_law 903 = .ok (.iadd, 1) := by decide +kernel
theorem dL_law_904 : decode cL_law 904 = .ok (.iaload, 1) := by decide +kernel
theorem dL_law_905 : decode cL_law 905 = .ok (.invokevirtual 118, 3) := by decide +kernel
theorem dL_law_908 : decode cL_law 908 = .ok (.aload_n 2, 1) := by decide +kernel
theorem dL_law_909 : decode cL_law 909 = .ok (.aload_n 0, 1) := by decide +kernel
theorem dL_law_910 : decode cL_law 910 = .ok (.iload_n 3, 1) := by decide +kernel
theorem dL_law_911 : decode cL_law 911 = .ok (.iconst 1, 1) := by decide +kernel
theorem dL_law_912 : decode cL_law 912 = .ok (.iadd, 1) := by decide +kernel
theorem dL_law_913 : decode cL_law 913 = .ok (.iaload, 1) := by decide +kernel
theorem dL_law_914 : decode cL_law 914 = .ok (.invokevirtual 121, 3) := by decide +kernel
theorem dL_law_917 : decode cL_law 917 = .ok (.if_icmp .eq 959, 3) := by decide +kernel
theorem dL_law_920 : decode cL_law 920 = .ok (.iconst 0, 1) := by decide +kernel
theorem dL_law_921 : decode cL_law 921 = .ok (.ireturn, 1) := by decide +kernel
theorem dL_law_922 : decode cL_law 922 = .ok (.aload_n 1, 1) := by decide +kernel
theorem dL_law_923 : decode cL_law 923 = .ok (.aload_n 0, 1) := by decide +kernel
theorem dL_law_924 : decode cL_law 924 = .ok (.iload_n 3, 1) := by decide +kernel
theorem dL_law_925 : decode cL_law 925 = .ok (.iconst 1, 1) := by decide +kernel
theorem dL_law_926 : decode cL_law 926 = .ok (.iadd, 1) := by decide +kernel
theorem dL_law_927 : decode cL_law 927 = .ok (.iaload, 1) := by decide +kernel
theorem dL_law_928 : decode cL_law 928 = .ok (.aload_n 0, 1) := by decide +kernel
theorem dL_law_929 : decode cL_law 929 = .ok (.iload_n 3, 1) := by decide +kernel
theorem dL_law_930 : decode cL_law 930 = .ok (.iconst 2, 1) := by decide +kernel
theorem dL_law_931 : decode cL_law 931 = .ok (.iadd, 1) := by decide +kernel
theorem dL_law_932 : decode cL_law 932 = .ok (.iaload, 1) := by decide +kernel
theorem dL_law_933 : decode cL_law 933 = .ok (.invokevirtual 122, 3) := by decide +kernel
theorem dL_law_936 : decode cL_law 936 = .ok (.aload_n 2, 1) := by decide +kernel
theorem dL_law_937 : decode cL_law 937 = .ok (.aload_n 0, 1) := by decide +kernel
theorem dL_law_938 : decode cL_law 938 = .ok (.iload_n 3, 1) := by decide +kernel
theorem dL_law_939 : decode cL_law 939 = .ok (.iconst 1, 1) := by decide +kernel
theorem dL_law_940 : decode cL_law 940 = .ok (.iadd, 1) := by decide +kernel
theorem dL_law_941 : decode cL_law 941 = .ok (.iaload, 1) := by decide +kernel
theorem dL_law_942 : decode cL_law 942 = .ok (.aload_n 0, 1) := by decide +kernel
theorem dL_law_943 : decode cL_law 943 = .ok (.iload_n 3, 1) := by decide +kernel
theorem dL_law_944 : decode cL_law 944 = .ok (.iconst 2, 1) := by decide +kernel
theorem dL_law_945 : decode cL_law 945 = .ok (.iadd, 1) := by decide +kernel
theorem dL_law_946 : decode cL_law 946 = .ok (.iaload, 1) := by decide +kernel
theorem dL_law_947 : decode cL_law 947 = .ok (.invokevirtual 125, 3) := by decide +kernel
theorem dL_law_950 : decode cL_law 950 = .ok (.if_icmp .eq 926, 3) := by decide +kernel
theorem dL_law_953 : decode cL_law 953 = .ok (.iconst 0, 1) := by decide +kernel
theorem dL_law_954 : decode cL_law 954 = .ok (.ireturn, 1) := by decide +kernel
theorem dL_law_955 : decode cL_law 955 = .ok (.aload_n 1, 1) := by decide +kernel
theorem dL_law_956 : decode cL_law 956 = .ok (.aload_n 0, 1) := by decide +kernel
theorem dL_law_957 : decode cL_law 957 = .ok (.iload_n 3, 1) := by decide +kernel
theorem dL_law_958 : decode cL_law 958 = .ok (.iconst 1, 1) := by decide +kernel
theorem dL_law_959 : decode cL_law 959 = .ok (.iadd, 1) := by decide +kernel
theorem dL_law_960 : decode cL_law 960 = .ok (.iaload, 1) := by decide +kernel
theorem dL_law_961 : decode cL_law 961 = .ok (.aload_n 0, 1) := by decide +kernel
theorem dL_law_962 : decode cL_law 962 = .ok (.iload_n 3, 1) := by decide +kernel
theorem dL_law_963 : decode cL_law 963 = .ok (.iconst 2, 1) := by decide +kernel
theorem dL_law_964 : decode cL_law 964 = .ok (.iadd, 1) := by decide +kernel
theorem dL_law_965 : decode cL_law 965 = .ok (.iaload, 1) := by decide +kernel
theorem dL_law_966 : decode cL_law 966 = .ok (.invokevirtual 126, 3) := by decide +kernel
theorem dL_law_969 : decode cL_law 969 = .ok (.aload_n 2, 1) := by decide +kernel
theorem dL_law_970 : decode cL_law 970 = .ok (.aload_n 0, 1) := by decide +kernel
theorem dL_law_971 : decode cL_law 971 = .ok (.iload_n 3, 1) := by decide +kernel
theorem dL_law_972 : decode cL_law 972 = .ok (.iconst 1, 1) := by decide +kernel
theorem dL_law_973 : decode cL_law 973 = .ok (.iadd, 1) := by decide +kernel
theorem dL_law_974 : decode cL_law 974 = .ok (.iaload, 1) := by decide +kernel
theorem dL_law_975 : decode cL_law 975 = .ok (.aload_n 0, 1) := by decide +kernel
theorem dL_law_976 : decode cL_law 976 = .ok (.iload_n 3, 1) := by decide +kernel
theorem dL_law_977 : decode cL_law 977 = .ok (.iconst 2, 1) := by decide +kernel
theorem dL_law_978 : decode cL_law 978 = .ok (.iadd, 1) := by decide +kernel
theorem dL_law_979 : decode cL_law 979 = .ok (.iaload, 1) := by decide +kernel
theorem dL_law_980 : decode cL_law 980 = .ok (.invokevirtual 129, 3) := by decide +kernel
theorem dL_law_983 : decode cL_law 983 = .ok (.if_icmp .eq 893, 3) := by decide +kernel
theorem dL_law_986 : decode cL_law 986 = .ok (.iconst 0, 1) := by decide +kernel
theorem dL_law_987 : decode cL_law 987 = .ok (.ireturn, 1) := by decide +kernel
theorem dL_law_988 : decode cL_law 988 = .ok (.aload_n 1, 1) := by decide +kernel
theorem dL_law_989 : decode cL_law 989 = .ok (.aload_n 0, 1) := by decide +kernel
theorem dL_law_990 : decode cL_law 990 = .ok (.iload_n 3, 1) := by decide +kernel
theorem dL_law_991 : decode cL_law 991 = .ok (.iconst 1, 1) := by decide +kernel
theorem dL_law_992 : decode cL_law 992 = .ok (.iadd, 1) := by decide +kernel
theorem dL_law_993 : decode cL_law 993 = .ok (.iaload, 1) := by decide +kernel
theorem dL_law_994 : decode cL_law 994 = .ok (.aload_n 0, 1) := by decide +kernel
theorem dL_law_995 : decode cL_law 995 = .ok (.iload_n 3, 1) := by decide +kernel
theorem dL_law_996 : decode cL_law 996 = .ok (.iconst 2, 1) := by decide +kernel
theorem dL_law_997 : decode cL_law 997 = .ok (.iadd, 1) := by decide +kernel
theorem dL_law_998 : decode cL_law 998 = .ok (.iaload, 1) := by decide +kernel
theorem dL_law_999 : decode cL_law 999 = .ok (.invokevirtual 130, 3) := by decide +kernel
theorem dL_law_1002 : decode cL_law 1002 = .ok (.aload_n 2, 1) := by decide +kernel
theorem dL_law_1003 : decode cL_law 1003 = .ok (.aload_n 0, 1) := by decide +kernel
theorem dL_law_1004 : decode cL_law 1004 = .ok (.iload_n 3, 1) := by decide +kernel
theorem dL_law_1005 : decode cL_law 1005 = .ok (.iconst 1, 1) := by decide +kernel
theorem dL_law_1006 : decode cL_law 1006 = .ok (.iadd, 1) := by decide +kernel
theorem dL_law_1007 : decode cL_law 1007 = .ok (.iaload, 1) := by decide +kernel
theorem dL_law_1008 : decode cL_law 1008 = .ok (.aload_n 0, 1) := by decide +kernel
theorem dL_law_1009 : decode cL_law 1009 = .ok (.iload_n 3, 1) := by decide +kernel
theorem dL_law_1010 : decode cL_law 1010 = .ok (.iconst 2, 1) := by decide +kernel
theorem dL_law_1011 : decode cL_law 1011 = .ok (.iadd, 1) := by decide +kernel
theorem dL_law_1012 : decode cL_law 1012 = .ok (.iaload, 1) := by decide +kernel
theorem dL_law_1013 : decode cL_law 1013 = .ok (.invokevirtual 133, 3) := by decide +kernel
theorem dL_law_1016 : decode cL_law 1016 = .ok (.if_icmp .eq 860, 3) := by decide +kernel
theorem dL_law_1019 : decode cL_law 1019 = .ok (.iconst 0, 1) := by decide +kernel
theorem dL_law_1020 : decode cL_law 1020 = .ok (.ireturn, 1) := by decide +kernel
theorem dL_law_1021 : decode cL_law 1021 = .ok (.aload_n 1, 1) := by decide +kernel
theorem dL_law_1022 : decode cL_law 1022 = .ok (.aload_n 0, 1) := by decide +kernel
theorem dL_law_1023 : decode cL_law 1023 = .ok (.iload_n 3, 1) := by decide +kernel
theorem dL_law_1024 : decode cL_law 1024 = .ok (.iconst 1, 1) := by decide +kernel
theorem dL_law_1025 : decode cL_law 1025 = .ok (.iadd, 1) := by decide +kernel
theorem dL_law_1026 : decode cL_law 1026 = .ok (.iaload, 1) := by decide +kernel
theorem dL_law_1027 : decode cL_law 1027 = .ok (.aload_n 0, 1) := by decide +kernel
theorem dL_law_1028 : decode cL_law 1028 = .ok (.iload_n 3, 1) := by decide +kernel
theorem dL_law_1029 : decode cL_law 1029 = .ok (.iconst 2, 1) := by decide +kernel
theorem dL_law_1030 : decode cL_law 1030 = .ok (.iadd, 1) := by decide +kernel
theorem dL_law_1031 : decode cL_law 1031 = .ok (.iaload, 1) := by decide +kernel
theorem dL_law_1032 : decode cL_law 1032 = .ok (.invokevirtual 134, 3) := by decide +kernel
theorem dL_law_1035 : decode cL_law 1035 = .ok (.aload_n 2, 1) := by decide +kernel
theorem dL_law_1036 : decode cL_law 1036 = .ok (.aload_n 0, 1) := by decide +kernel
theorem dL_law_1037 : decode cL_law 1037 = .ok (.iload_n 3, 1) := by decide +kernel
theorem dL_law_1038 : decode cL_law 1038 = .ok (.iconst 1, 1) := by decide +kernel
theorem dL_law_1039 : decode cL_law 1039 = .ok (.iadd, 1) := by decide +kernel
theorem dL_law_1040 : decode cL_law 1040 = .ok (.iaload, 1) := by decide +kernel
theorem dL_law_1041 : decode cL_law 1041 = .ok (.aload_n 0, 1) := by decide +kernel
theorem dL_law_1042 : decode cL_law 1042 = .ok (.iload_n 3, 1) := by decide +kernel
theorem dL_law_1043 : decode cL_law 1043 = .ok (.iconst 2, 1) := by decide +kernel
theorem dL_law_1044 : decode cL_law 1044 = .ok (.iadd, 1) := by decide +kernel
theorem dL_law_1045 : decode cL_law 1045 = .ok (.iaload, 1) := by decide +kernel
theorem dL_law_1046 : decode cL_law 1046 = .ok (.invokevirtual 137, 3) := by decide +kernel
theorem dL_law_1049 : decode cL_law 1049 = .ok (.if_icmp .eq 827, 3) := by decide +kernel
theorem dL_law_1052 : decode cL_law 1052 = .ok (.iconst 0, 1) := by decide +kernel
theorem dL_law_1053 : decode cL_law 1053 = .ok (.ireturn, 1) := by decide +kernel
theorem dL_law_1054 : decode cL_law 1054 = .ok (.aload_n 1, 1) := by decide +kernel
theorem dL_law_1055 : decode cL_law 1055 = .ok (.aload_n 0, 1) := by decide +kernel
theorem dL_law_1056 : decode cL_law 1056 = .ok (.iload_n 3, 1) := by decide +kernel
theorem dL_law_1057 : decode cL_law 1057 = .ok (.iconst 1, 1) := by decide +kernel
theorem dL_law_1058 : decode cL_law 1058 = .ok (.iadd, 1) := by decide +kernel
theorem dL_law_1059 : decode cL_law 1059 = .ok (.iaload, 1) := by decide +kernel
theorem dL_law_1060 : decode cL_law 1060 = .ok (.aload_n 0, 1) := by decide +kernel
theorem dL_law_1061 : decode cL_law 1061 = .ok (.iload_n 3, 1) := by decide +kernel
theorem dL_law_1062 : decode cL_law 1062 = .ok (.iconst 2, 1) := by decide +kernel
theorem dL_law_1063 : decode cL_law 1063 = .ok (.iadd, 1) := by decide +kernel
theorem dL_law_1064 : decode cL_law 1064 = .ok (.iaload, 1) := by decide +kernel
theorem dL_law_1065 : decode cL_law 1065 = .ok (.invokevirtual 138, 3) := by decide +kernel
theorem dL_law_1068 : decode cL_law 1068 = .ok (.aload_n 2, 1) := by decide +kernel
theorem dL_law_1069 : decode cL_law 1069 = .ok (.aload_n 0, 1) := by decide +kernel
theorem dL_law_1070 : decode cL_law 1070 = .ok (.iload_n 3, 1) := by decide +kernel
theorem dL_law_1071 : decode cL_law 1071 = .ok (.iconst 1, 1) := by decide +kernel
theorem dL_law_1072 : decode cL_law 1072 = .ok (.iadd, 1) := by decide +kernel
theorem dL_law_1073 : decode cL_law 1073 = .ok (.iaload, 1) := by decide +kernel
theorem dL_law_1074 : decode cL_law 1074 = .ok (.aload_n 0, 1) := by decide +kernel
theorem dL_law_1075 : decode cL_law 1075 = .ok (.iload_n 3, 1) := by decide +kernel
theorem dL_law_1076 : decode cL_law 1076 = .ok (.iconst 2, 1) := by decide +kernel
theorem dL_law_1077 : decode cL_law 1077 = .ok (.iadd, 1) := by decide +kernel
theorem dL_law_1078 : decode cL_law 1078 = .ok (.iaload, 1) := by decide +kernel
theorem dL_law_1079 : decode cL_law 1079 = .ok (.invokevirtual 141, 3) := by decide +kernel
theorem dL_law_1082 : decode cL_law 1082 = .ok (.if_icmp .eq 794, 3) := by decide +kernel
theorem dL_law_1085 : decode cL_law 1085 = .ok (.iconst 0, 1) := by decide +kernel
theorem dL_law_1086 : decode cL_law 1086 = .ok (.ireturn, 1) := by decide +kernel
theorem dL_law_1087 : decode cL_law 1087 = .ok (.aload_n 1, 1) := by decide +kernel
theorem dL_law_1088 : decode cL_law 1088 = .ok (.aload_n 0, 1) := by decide +kernel
theorem dL_law_1089 : decode cL_law 1089 = .ok (.iload_n 3, 1) := by decide +kernel
theorem dL_law_1090 : decode cL_law 1090 = .ok (.iconst 1, 1) := by decide +kernel
theorem dL_law_1091 : decode cL_law 1091 = .ok (.iadd, 1) := by decide +kernel
theorem dL_law_1092 : decode cL_law 1092 = .ok (.iaload, 1) := by decide +kernel
theorem dL_law_1093 : decode cL_law 1093 = .ok (.aload_n 0, 1) := by decide +kernel
theorem dL_law_1094 : decode cL_law 1094 = .ok (.iload_n 3, 1) := by decide +kernel
theorem dL_law_1095 : decode cL_law 1095 = .ok (.iconst 2, 1) := by decide +kernel
theorem dL_law_1096 : decode cL_law 1096 = .ok (.iadd, 1) := by decide +kernel
theorem dL_law_1097 : decode cL_law 1097 = .ok (.iaload, 1) := by decide +kernel
theorem dL_law_1098 : decode cL_law 1098 = .ok (.invokevirtual 142, 3) := by decide +kernel
theorem dL_law_1101 : decode cL_law 1101 = .ok (.aload_n 2, 1) := by decide +kernel
theorem dL_law_1102 : decode cL_law 1102 = .ok (.aload_n 0, 1) := by decide +kernel
theorem dL_law_1103 : decode cL_law 1103 = .ok (.iload_n 3, 1) := by decide +kernel
theorem dL_law_1104 : decode cL_law 1104 = .ok (.iconst 1, 1) := by decide +kernel
theorem dL_law_1105 : decode cL_law 1105 = .ok (.iadd, 1) := by decide +kernel
theorem dL_law_1106 : decode cL_law 1106 = .ok (.iaload, 1) := by decide +kernel
theorem dL_law_1107 : decode cL_law 1107 = .ok (.aload_n 0, 1) := by decide +kernel
theorem dL_law_1108 : decode cL_law 1108 = .ok (.iload_n 3, 1) := by decide +kernel
theorem dL_law_1109 : decode cL_law 1109 = .ok (.iconst 2, 1) := by decide +kernel
theorem dL_law_1110 : decode cL_law 1110 = .ok (.iadd, 1) := by decide +kernel
theorem dL_law_1111 : decode cL_law 1111 = .ok (.iaload, 1) := by decide +kernel
theorem dL_law_1112 : decode cL_law 1112 = .ok (.invokevirtual 145, 3) := by decide +kernel
theorem dL_law_1115 : decode cL_law 1115 = .ok (.if_icmp .eq 761, 3) := by decide +kernel
theorem dL_law_1118 : decode cL_law 1118 = .ok (.iconst 0, 1) := by decide +kernel
theorem dL_law_1119 : decode cL_law 1119 = .ok (.ireturn, 1) := by decide +kernel
theorem dL_law_1120 : decode cL_law 1120 = .ok (.aload_n 1, 1) := by decide +kernel
theorem dL_law_1121 : decode cL_law 1121 = .ok (.aload_n 0, 1) := by decide +kernel
theorem dL_law_1122 : decode cL_law 1122 = .ok (.iload_n 3, 1) := by decide +kernel
theorem dL_law_1123 : decode cL_law 1123 = .ok (.iconst 1, 1) := by decide +kernel
theorem dL_law_1124 : decode cL_law 1124 = .ok (.iadd, 1) := by decide +kernel
theorem dL_law_1125 : decode cL_law 1125 = .ok (.iaload, 1) := by decide +kernel
theorem dL_law_1126 : decode cL_law 1126 = .ok (.invokevirtual 146, 3) := by decide +kernel
theorem dL_law_1129 : decode cL_law 1129 = .ok (.aload_n 2, 1) := by decide +kernel
theorem dL_law_1130 : decode cL_law 1130 = .ok (.aload_n 0, 1) := by decide +kernel
theorem dL_law_1131 : decode cL_law 1131 = .ok (.iload_n 3, 1) := by decide +kernel
theorem dL_law_1132 : decode cL_law 1132 = .ok (.iconst 1, 1) := by decide +kernel
theorem dL_law_1133 : decode cL_law 1133 = .ok (.iadd, 1) := by decide +kernel
theorem dL_law_1134 : decode cL_law 1134 = .ok (.iaload, 1) := by decide +kernel
theorem dL_law_1135 : decode cL_law 1135 = .ok (.invokevirtual 149, 3) := by decide +kernel
theorem dL_law_1138 : decode cL_law 1138 = .ok (.if_icmp .eq 738, 3) := by decide +kernel
theorem dL_law_1141 : decode cL_law 1141 = .ok (.iconst 0, 1) := by decide +kernel
theorem dL_law_1142 : decode cL_law 1142 = .ok (.ireturn, 1) := by decide +kernel
theorem dL_law_1143 : decode cL_law 1143 = .ok (.aload_n 1, 1) := by decide +kernel
theorem dL_law_1144 : decode cL_law 1144 = .ok (.invokevirtual 150, 3) := by decide +kernel
theorem dL_law_1147 : decode cL_law 1147 = .ok (.aload_n 2, 1) := by decide +kernel
theorem dL_law_1148 : decode cL_law 1148 = .ok (.invokevirtual 153, 3) := by decide +kernel
theorem dL_law_1151 : decode cL_law 1151 = .ok (.if_icmp .eq 725, 3) := by decide +kernel
theorem dL_law_1154 : decode cL_law 1154 = .ok (.iconst 0, 1) := by decide +kernel
theorem dL_law_1155 : decode cL_law 1155 = .ok (.ireturn, 1) := by decide +kernel
theorem dL_law_1156 : decode cL_law 1156 = .ok (.aload_n 1, 1) := by decide +kernel
theorem dL_law_1157 : decode cL_law 1157 = .ok (.aload_n 0, 1) := by decide +kernel
theorem dL_law_1158 : decode cL_law 1158 = .ok (.iload_n 3, 1) := by decide +kernel
theorem dL_law_1159 : decode cL_law 1159 = .ok (.iconst 1, 1) := by decide +kernel
theorem dL_law_1160 : decode cL_law 1160 = .ok (.iadd, 1) := by decide +kernel
theorem dL_law_1161 : decode cL_law 1161 = .ok (.iaload, 1) := by decide +kernel
theorem dL_law_1162 : decode cL_law 1162 = .ok (.invokevirtual 154, 3) := by decide +kernel
theorem dL_law_1165 : decode cL_law 1165 = .ok (.aload_n 2, 1) := by decide +kernel
theorem dL_law_1166 : decode cL_law 1166 = .ok (.aload_n 0, 1) := by decide +kernel
theorem dL_law_1167 : decode cL_law 1167 = .ok (.iload_n 3, 1) := by decide +kernel
theorem dL_law_1168 : decode cL_law 1168 = .ok (.iconst 1, 1) := by decide +kernel
theorem dL_law_1169 : decode cL_law 1169 = .ok (.iadd, 1) := by decide +kernel
theorem dL_law_1170 : decode cL_law 1170 = .ok (.iaload, 1) := by decide +kernel
theorem dL_law_1171 : decode cL_law 1171 = .ok (.invokevirtual 157, 3) := by decide +kernel
theorem dL_law_1174 : decode cL_law 1174 = .ok (.if_icmp .eq 702, 3) := by decide +kernel
theorem dL_law_1177 : decode cL_law 1177 = .ok (.iconst 0, 1) := by decide +kernel
theorem dL_law_1178 : decode cL_law 1178 = .ok (.ireturn, 1) := by decide +kernel
theorem dL_law_1179 : decode cL_law 1179 = .ok (.aload_n 1, 1) := by decide +kernel
theorem dL_law_1180 : decode cL_law 1180 = .ok (.aload_n 0, 1) := by decide +kernel
theorem dL_law_1181 : decode cL_law 1181 = .ok (.iload_n 3, 1) := by decide +kernel
theorem dL_law_1182 : decode cL_law 1182 = .ok (.iconst 1, 1) := by decide +kernel
theorem dL_law_1183 : decode cL_law 1183 = .ok (.iadd, 1) := by decide +kernel
theorem dL_law_1184 : decode cL_law 1184 = .ok (.iaload, 1) := by decide +kernel
theorem dL_law_1185 : decode cL_law 1185 = .ok (.aload_n 0, 1) := by decide +kernel
theorem dL_law_1186 : decode cL_law 1186 = .ok (.iload_n 3, 1) := by decide +kernel
theorem dL_law_1187 : decode cL_law 1187 = .ok (.iconst 2, 1) := by decide +kernel
theorem dL_law_1188 : decode cL_law 1188 = .ok (.iadd, 1) := by decide +kernel
theorem dL_law_1189 : decode cL_law 1189 = .ok (.iaload, 1) := by decide +kernel
theorem dL_law_1190 : decode cL_law 1190 = .ok (.invokevirtual 158, 3) := by decide +kernel
theorem dL_law_1193 : decode cL_law 1193 = .ok (.aload_n 2, 1) := by decide +kernel
theorem dL_law_1194 : decode cL_law 1194 = .ok (.aload_n 0, 1) := by decide +kernel
theorem dL_law_1195 : decode cL_law 1195 = .ok (.iload_n 3, 1) := by decide +kernel
theorem dL_law_1196 : decode cL_law 1196 = .ok (.iconst 1, 1) := by decide +kernel
theorem dL_law_1197 : decode cL_law 1197 = .ok (.iadd, 1) := by decide +kernel
theorem dL_law_1198 : decode cL_law 1198 = .ok (.iaload, 1) := by decide +kernel
theorem dL_law_1199 : decode cL_law 1199 = .ok (.aload_n 0, 1) := by decide +kernel
theorem dL_law_1200 : decode cL_law 1200 = .ok (.iload_n 3, 1) := by decide +kernel
theorem dL_law_1201 : decode cL_law 1201 = .ok (.iconst 2, 1) := by decide +kernel
theorem dL_law_1202 : decode cL_law 1202 = .ok (.iadd, 1) := by decide +kernel
theorem dL_law_1203 : decode cL_law 1203 = .ok (.iaload, 1) := by decide +kernel
theorem dL_law_1204 : decode cL_law 1204 = .ok (.invokevirtual 161, 3) := by decide +kernel
theorem dL_law_1207 : decode cL_law 1207 = .ok (.if_icmp .eq 669, 3) := by decide +kernel
theorem dL_law_1210 : decode cL_law 1210 = .ok (.iconst 0, 1) := by decide +kernel
theorem dL_law_1211 : decode cL_law 1211 = .ok (.ireturn, 1) := by decide +kernel
theorem dL_law_1212 : decode cL_law 1212 = .ok (.aload_n 1, 1) := by decide +kernel
theorem dL_law_1213 : decode cL_law 1213 = .ok (.aload_n 0, 1) := by decide +kernel
theorem dL_law_1214 : decode cL_law 1214 = .ok (.iload_n 3, 1) := by decide +kernel
theorem dL_law_1215 : decode cL_law 1215 = .ok (.iconst 1, 1) := by decide +kernel
theorem dL_law_1216 : decode cL_law 1216 = .ok (.iadd, 1) := by decide +kernel
theorem dL_law_1217 : decode cL_law 1217 = .ok (.iaload, 1) := by decide +kernel
theorem dL_law_1218 : decode cL_law 1218 = .ok (.aload_n 0, 1) := by decide +kernel
theorem dL_law_1219 : decode cL_law 1219 = .ok (.iload_n 3, 1) := by decide +kernel
theorem dL_law_1220 : decode cL_law 1220 = .ok (.iconst 2, 1) := by decide +kernel
theorem dL_law_1221 : decode cL_law 1221 = .ok (.iadd, 1) := by decide +kernel
theorem dL_law_1222 : decode cL_law 1222 = .ok (.iaload, 1) := by decide +kernel
theorem dL_law_1223 : decode cL_law 1223 = .ok (.invokevirtual 162, 3) := by decide +kernel
theorem dL_law_1226 : decode cL_law 1226 = .ok (.aload_n 2, 1) := by decide +kernel
theorem dL_law_1227 : decode cL_law 1227 = .ok (.aload_n 0, 1) := by decide +kernel
theorem dL_law_1228 : decode cL_law 1228 = .ok (.iload_n 3, 1) := by decide +kernel
theorem dL_law_1229 : decode cL_law 1229 = .ok (.iconst 1, 1) := by decide +kernel
theorem dL_law_1230 : decode cL_law 1230 = .ok (.iadd, 1) := by decide +kernel
theorem dL_law_1231 : decode cL_law 1231 = .ok (.iaload, 1) := by decide +kernel
theorem dL_law_1232 : decode cL_law 1232 = .ok (.aload_n 0, 1) := by decide +kernel
theorem dL_law_1233 : decode cL_law 1233 = .ok (.iload_n 3, 1) := by decide +kernel
theorem dL_law_1234 : decode cL_law 1234 = .ok (.iconst 2, 1) := by decide +kernel
theorem dL_law_1235 : decode cL_law 1235 = .ok (.iadd, 1) := by decide +kernel
theorem dL_law_1236 : decode cL_law 1236 = .ok (.iaload, 1) := by decide +kernel
theorem dL_law_1237 : decode cL_law 1237 = .ok (.invokevirtual 165, 3) := by decide +kernel
theorem dL_law_1240 : decode cL_law 1240 = .ok (.if_icmp .eq 636, 3) := by decide +kernel
theorem dL_law_1243 : decode cL_law 1243 = .ok (.iconst 0, 1) := by decide +kernel
theorem dL_law_1244 : decode cL_law 1244 = .ok (.ireturn, 1) := by decide +kernel
theorem dL_law_1245 : decode cL_law 1245 = .ok (.aload_n 1, 1) := by decide +kernel
theorem dL_law_1246 : decode cL_law 1246 = .ok (.aload_n 0, 1) := by decide +kernel
theorem dL_law_1247 : decode cL_law 1247 = .ok (.iload_n 3, 1) := by decide +kernel
theorem dL_law_1248 : decode cL_law 1248 = .ok (.iconst 1, 1) := by decide +kernel
theorem dL_law_1249 : decode cL_law 1249 = .ok (.iadd, 1) := by decide +kernel
theorem dL_law_1250 : decode cL_law 1250 = .ok (.iaload, 1) := by decide +kernel
theorem dL_law_1251 : decode cL_law 1251 = .ok (.aload_n 0, 1) := by decide +kernel
theorem dL_law_1252 : decode cL_law 1252 = .ok (.iload_n 3, 1) := by decide +kernel
theorem dL_law_1253 : decode cL_law 1253 = .ok (.iconst 2, 1) := by decide +kernel
theorem dL_law_1254 : decode cL_law 1254 = .ok (.iadd, 1) := by decide +kernel
theorem dL_law_1255 : decode cL_law 1255 = .ok (.iaload, 1) := by decide +kernel
theorem dL_law_1256 : decode cL_law 1256 = .ok (.invokevirtual 166, 3) := by decide +kernel
theorem dL_law_1259 : decode cL_law 1259 = .ok (.aload_n 2, 1) := by decide +kernel
theorem dL_law_1260 : decode cL_law 1260 = .ok (.aload_n 0, 1) := by decide +kernel
theorem dL_law_1261 : decode cL_law 1261 = .ok (.iload_n 3, 1) := by decide +kernel
theorem dL_law_1262 : decode cL_law 1262 = .ok (.iconst 1, 1) := by decide +kernel
theorem dL_law_1263 : decode cL_law 1263 = .ok (.iadd, 1) := by decide +kernel
theorem dL_law_1264 : decode cL_law 1264 = .ok (.iaload, 1) := by decide +kernel
theorem dL_law_1265 : decode cL_law 1265 = .ok (.aload_n 0, 1) := by decide +kernel
theorem dL_law_1266 : decode cL_law 1266 = .ok (.iload_n 3, 1) := by decide +kernel
theorem dL_law_1267 : decode cL_law 1267 = .ok (.iconst 2, 1) := by decide +kernel
theorem dL_law_1268 : decode cL_law 1268 = .ok (.iadd, 1) := by decide +kernel
theorem dL_law_1269 : decode cL_law 1269 = .ok (.iaload, 1) := by decide +kernel
theorem dL_law_1270 : decode cL_law 1270 = .ok (.invokevirtual 169, 3) := by decide +kernel
theorem dL_law_1273 : decode cL_law 1273 = .ok (.if_icmp .eq 603, 3) := by decide +kernel
theorem dL_law_1276 : decode cL_law 1276 = .ok (.iconst 0, 1) := by decide +kernel
theorem dL_law_1277 : decode cL_law 1277 = .ok (.ireturn, 1) := by decide +kernel
theorem dL_law_1278 : decode cL_law 1278 = .ok (.aload_n 1, 1) := by decide +kernel
theorem dL_law_1279 : decode cL_law 1279 = .ok (.aload_n 0, 1) := by decide +kernel
theorem dL_law_1280 : decode cL_law 1280 = .ok (.iload_n 3, 1) := by decide +kernel
theorem dL_law_1281 : decode cL_law 1281 = .ok (.iconst 1, 1) := by decide +kernel
theorem dL_law_1282 : decode cL_law 1282 = .ok (.iadd, 1) := by decide +kernel
theorem dL_law_1283 : decode cL_law 1283 = .ok (.iaload, 1) := by decide +kernel
theorem dL_law_1284 : decode cL_law 1284 = .ok (.invokevirtual 170, 3) := by decide +kernel
theorem dL_law_1287 : decode cL_law 1287 = .ok (.aload_n 2, 1) := by decide +kernel
theorem dL_law_1288 : decode cL_law 1288 = .ok (.aload_n 0, 1) := by decide +kernel
theorem dL_law_1289 : decode cL_law 1289 = .ok (.iload_n 3, 1) := by decide +kernel
theorem dL_law_1290 : decode cL_law 1290 = .ok (.iconst 1, 1) := by decide +kernel
theorem dL_law_1291 : decode cL_law 1291 = .ok (.iadd, 1) := by decide +kernel
theorem dL_law_1292 : decode cL_law 1292 = .ok (.iaload, 1) := by decide +kernel
theorem dL_law_1293 : decode cL_law 1293 = .ok (.invokevirtual 173, 3) := by decide +kernel
theorem dL_law_1296 : decode cL_law 1296 = .ok (.if_icmp .eq 580, 3) := by decide +kernel
theorem dL_law_1299 : decode cL_law 1299 = .ok (.iconst 0, 1) := by decide +kernel
theorem dL_law_1300 : decode cL_law 1300 = .ok (.ireturn, 1) := by decide +kernel
theorem dL_law_1301 : decode cL_law 1301 = .ok (.aload_n 1, 1) := by decide +kernel
theorem dL_law_1302 : decode cL_law 1302 = .ok (.aload_n 0, 1) := by decide +kernel
theorem dL_law_1303 : decode cL_law 1303 = .ok (.iload_n 3, 1) := by decide +kernel
theorem dL_law_1304 : decode cL_law 1304 = .ok (.iconst 1, 1) := by decide +kernel
theorem dL_law_1305 : decode cL_law 1305 = .ok (.iadd, 1) := by decide +kernel
theorem dL_law_1306 : decode cL_law 1306 = .ok (.iaload, 1) := by decide +kernel
theorem dL_law_1307 : decode cL_law 1307 = .ok (.aload_n 0, 1) := by decide +kernel
theorem dL_law_1308 : decode cL_law 1308 = .ok (.iload_n 3, 1) := by decide +kernel
theorem dL_law_1309 : decode cL_law 1309 = .ok (.iconst 2, 1) := by decide +kernel
theorem dL_law_1310 : decode cL_law 1310 = .ok (.iadd, 1) := by decide +kernel
theorem dL_law_1311 : decode cL_law 1311 = .ok (.iaload, 1) := by decide +kernel
theorem dL_law_1312 : decode cL_law 1312 = .ok (.invokevirtual 174, 3) := by decide +kernel
theorem dL_law_1315 : decode cL_law 1315 = .ok (.aload_n 2, 1) := by decide +kernel
theorem dL_law_1316 : decode cL_law 1316 = .ok (.aload_n 0, 1) := by decide +kernel
theorem dL_law_1317 : decode cL_law 1317 = .ok (.iload_n 3, 1) := by decide +kernel
theorem dL_law_1318 : decode cL_law 1318 = .ok (.iconst 1, 1) := by decide +kernel
theorem dL_law_1319 : decode cL_law 1319 = .ok (.iadd, 1) := by decide +kernel
theorem dL_law_1320 : decode cL_law 1320 = .ok (.iaload, 1) := by decide +kernel
theorem dL_law_1321 : decode cL_law 1321 = .ok (.aload_n 0, 1) := by decide +kernel
theorem dL_law_1322 : decode cL_law 1322 = .ok (.iload_n 3, 1) := by decide +kernel
theorem dL_law_1323 : decode cL_law 1323 = .ok (.iconst 2, 1) := by decide +kernel
theorem dL_law_1324 : decode cL_law 1324 = .ok (.iadd, 1) := by decide +kernel
theorem dL_law_1325 : decode cL_law 1325 = .ok (.iaload, 1) := by decide +kernel
theorem dL_law_1326 : decode cL_law 1326 = .ok (.invokevirtual 177, 3) := by decide +kernel
theorem dL_law_1329 : decode cL_law 1329 = .ok (.if_icmp .eq 547, 3) := by decide +kernel
theorem dL_law_1332 : decode cL_law 1332 = .ok (.iconst 0, 1) := by decide +kernel
theorem dL_law_1333 : decode cL_law 1333 = .ok (.ireturn, 1) := by decide +kernel
theorem dL_law_1334 : decode cL_law 1334 = .ok (.aload_n 1, 1) := by decide +kernel
theorem dL_law_1335 : decode cL_law 1335 = .ok (.aload_n 0, 1) := by decide +kernel
theorem dL_law_1336 : decode cL_law 1336 = .ok (.iload_n 3, 1) := by decide +kernel
theorem dL_law_1337 : decode cL_law 1337 = .ok (.iconst 1, 1) := by decide +kernel
theorem dL_law_1338 : decode cL_law 1338 = .ok (.iadd, 1) := by decide +kernel
theorem dL_law_1339 : decode cL_law 1339 = .ok (.iaload, 1) := by decide +kernel
theorem dL_law_1340 : decode cL_law 1340 = .ok (.invokevirtual 178, 3) := by decide +kernel
theorem dL_law_1343 : decode cL_law 1343 = .ok (.aload_n 2, 1) := by decide +kernel
theorem dL_law_1344 : decode cL_law 1344 = .ok (.aload_n 0, 1) := by decide +kernel
theorem dL_law_1345 : decode cL_law 1345 = .ok (.iload_n 3, 1) := by decide +kernel
theorem dL_law_1346 : decode cL_law 1346 = .ok (.iconst 1, 1) := by decide +kernel
theorem dL_law_1347 : decode cL_law 1347 = .ok (.iadd, 1) := by decide +kernel
theorem dL_law_1348 : decode cL_law 1348 = .ok (.iaload, 1) := by decide +kernel
theorem dL_law_1349 : decode cL_law 1349 = .ok (.invokevirtual 181, 3) := by decide +kernel
theorem dL_law_1352 : decode cL_law 1352 = .ok (.if_icmp .eq 524, 3) := by decide +kernel
theorem dL_law_1355 : decode cL_law 1355 = .ok (.iconst 0, 1) := by decide +kernel
theorem dL_law_1356 : decode cL_law 1356 = .ok (.ireturn, 1) := by decide +kernel
theorem dL_law_1357 : decode cL_law 1357 = .ok (.aload_n 1, 1) := by decide +kernel
theorem dL_law_1358 : decode cL_law 1358 = .ok (.aload_n 0, 1) := by decide +kernel
theorem dL_law_1359 : decode cL_law 1359 = .ok (.iload_n 3, 1) := by decide +kernel
theorem dL_law_1360 : decode cL_law 1360 = .ok (.iconst 1, 1) := by decide +kernel
theorem dL_law_1361 : decode cL_law 1361 = .ok (.iadd, 1) := by decide +kernel
theorem dL_law_1362 : decode cL_law 1362 = .ok (.iaload, 1) := by decide +kernel
theorem dL_law_1363 : decode cL_law 1363 = .ok (.invokevirtual 182, 3) := by decide +kernel
theorem dL_law_1366 : decode cL_law 1366 = .ok (.aload_n 2, 1) := by decide +kernel
theorem dL_law_1367 : decode cL_law 1367 = .ok (.aload_n 0, 1) := by decide +kernel
theorem dL_law_1368 : decode cL_law 1368 = .ok (.iload_n 3, 1) := by decide +kernel
theorem dL_law_1369 : decode cL_law 1369 = .ok (.iconst 1, 1) := by decide +kernel
theorem dL_law_1370 : decode cL_law 1370 = .ok (.iadd, 1) := by decide +kernel
theorem dL_law_1371 : decode cL_law 1371 = .ok (.iaload, 1) := by decide +kernel
theorem dL_law_1372 : decode cL_law 1372 = .ok (.invokevirtual 185, 3) := by decide +kernel
theorem dL_law_1375 : decode cL_law 1375 = .ok (.if_icmp .eq 501, 3) := by decide +kernel
theorem dL_law_1378 : decode cL_law 1378 = .ok (.iconst 0, 1) := by decide +kernel
theorem dL_law_1379 : decode cL_law 1379 = .ok (.ireturn, 1) := by decide +kernel
theorem dL_law_1380 : decode cL_law 1380 = .ok (.aload_n 1, 1) := by decide +kernel
theorem dL_law_1381 : decode cL_law 1381 = .ok (.aload_n 0, 1) := by decide +kernel
theorem dL_law_1382 : decode cL_law 1382 = .ok (.iload_n 3, 1) := by decide +kernel
theorem dL_law_1383 : decode cL_law 1383 = .ok (.iconst 1, 1) := by decide +kernel
theorem dL_law_1384 : decode cL_law 1384 = .ok (.iadd, 1) := by decide +kernel
theorem dL_law_1385 : decode cL_law 1385 = .ok (.iaload, 1) := by decide +kernel
theorem dL_law_1386 : decode cL_law 1386 = .ok (.invokevirtual 186, 3) := by decide +kernel
theorem dL_law_1389 : decode cL_law 1389 = .ok (.aload_n 2, 1) := by decide +kernel
theorem dL_law_1390 : decode cL_law 1390 = .ok (.aload_n 0, 1) := by decide +kernel
theorem dL_law_1391 : decode cL_law 1391 = .ok (.iload_n 3, 1) := by decide +kernel
theorem dL_law_1392 : decode cL_law 1392 = .ok (.iconst 1, 1) := by decide +kernel
theorem dL_law_1393 : decode cL_law 1393 = .ok (.iadd, 1) := by decide +kernel
theorem dL_law_1394 : decode cL_law 1394 = .ok (.iaload, 1) := by decide +kernel
theorem dL_law_1395 : decode cL_law 1395 = .ok (.invokevirtual 189, 3) := by decide +kernel
theorem dL_law_1398 : decode cL_law 1398 = .ok (.if_icmp .eq 478, 3) := by decide +kernel
theorem dL_law_1401 : decode cL_law 1401 = .ok (.iconst 0, 1) := by decide +kernel
theorem dL_law_1402 : decode cL_law 1402 = .ok (.ireturn, 1) := by decide +kernel
theorem dL_law_1403 : decode cL_law 1403 = .ok (.aload_n 1, 1) := by decide +kernel
theorem dL_law_1404 : decode cL_law 1404 = .ok (.aload_n 0, 1) := by decide +kernel
theorem dL_law_1405 : decode cL_law 1405 = .ok (.iload_n 3, 1) := by decide +kernel
theorem dL_law_1406 : decode cL_law 1406 = .ok (.iconst 1, 1) := by decide +kernel
theorem dL_law_1407 : decode cL_law 1407 = .ok (.iadd, 1) := by decide +kernel
theorem dL_law_1408 : decode cL_law 1408 = .ok (.iaload, 1) := by decide +kernel
theorem dL_law_1409 : decode cL_law 1409 = .ok (.invokevirtual 190, 3) := by decide +kernel
theorem dL_law_1412 : decode cL_law 1412 = .ok (.aload_n 2, 1) := by decide +kernel
theorem dL_law_1413 : decode cL_law 1413 = .ok (.aload_n 0, 1) := by decide +kernel
theorem dL_law_1414 : decode cL_law 1414 = .ok (.iload_n 3, 1) := by decide +kernel
theorem dL_law_1415 : decode cL_law 1415 = .ok (.iconst 1, 1) := by decide +kernel
theorem dL_law_1416 : decode cL_law 1416 = .ok (.iadd, 1) := by decide +kernel
theorem dL_law_1417 : decode cL_law 1417 = .ok (.iaload, 1) := by decide +kernel
theorem dL_law_1418 : decode cL_law 1418 = .ok (.invokevirtual 193, 3) := by decide +kernel
theorem dL_law_1421 : decode cL_law 1421 = .ok (.if_icmp .eq 455, 3) := by decide +kernel
theorem dL_law_1424 : decode cL_law 1424 = .ok (.iconst 0, 1) := by decide +kernel
theorem dL_law_1425 : decode cL_law 1425 = .ok (.ireturn, 1) := by decide +kernel
theorem dL_law_1426 : decode cL_law 1426 = .ok (.aload_n 1, 1) := by decide +kernel
theorem dL_law_1427 : decode cL_law 1427 = .ok (.aload_n 0, 1) := by decide +kernel
theorem dL_law_1428 : decode cL_law 1428 = .ok (.iload_n 3, 1) := by decide +kernel
theorem dL_law_1429 : decode cL_law 1429 = .ok (.iconst 1, 1) := by decide +kernel
theorem dL_law_1430 : decode cL_law 1430 = .ok (.iadd, 1) := by decide +kernel
theorem dL_law_1431 : decode cL_law 1431 = .ok (.iaload, 1) := by decide +kernel
theorem dL_law_1432 : decode cL_law 1432 = .ok (.invokevirtual 194, 3) := by decide +kernel
theorem dL_law_1435 : decode cL_law 1435 = .ok (.aload_n 2, 1) := by decide +kernel
theorem dL_law_1436 : decode cL_law 1436 = .ok (.aload_n 0, 1) := by decide +kernel
theorem dL_law_1437 : decode cL_law 1437 = .ok (.iload_n 3, 1) := by decide +kernel
theorem dL_law_1438 : decode cL_law 1438 = .ok (.iconst 1, 1) := by decide +kernel
theorem dL_law_1439 : decode cL_law 1439 = .ok (.iadd, 1) := by decide +kernel
theorem dL_law_1440 : decode cL_law 1440 = .ok (.iaload, 1) := by decide +kernel
theorem dL_law_1441 : decode cL_law 1441 = .ok (.invokevirtual 197, 3) := by decide +kernel
theorem dL_law_1444 : decode cL_law 1444 = .ok (.if_icmp .eq 432, 3) := by decide +kernel
theorem dL_law_1447 : decode cL_law 1447 = .ok (.iconst 0, 1) := by decide +kernel
theorem dL_law_1448 : decode cL_law 1448 = .ok (.ireturn, 1) := by decide +kernel
theorem dL_law_1449 : decode cL_law 1449 = .ok (.aload_n 1, 1) := by decide +kernel
theorem dL_law_1450 : decode cL_law 1450 = .ok (.aload_n 0, 1) := by decide +kernel
theorem dL_law_1451 : decode cL_law 1451 = .ok (.iload_n 3, 1) := by decide +kernel
theorem dL_law_1452 : decode cL_law 1452 = .ok (.iconst 1, 1) := by decide +kernel
theorem dL_law_1453 : decode cL_law 1453 = .ok (.iadd, 1) := by decide +kernel
theorem dL_law_1454 : decode cL_law 1454 = .ok (.iaload, 1) := by decide +kernel
theorem dL_law_1455 : decode cL_law 1455 = .ok (.invokevirtual 198, 3) := by decide +kernel
theorem dL_law_1458 : decode cL_law 1458 = .ok (.aload_n 2, 1) := by decide +kernel
theorem dL_law_1459 : decode cL_law 1459 = .ok (.aload_n 0, 1) := by decide +kernel
theorem dL_law_1460 : decode cL_law 1460 = .ok (.iload_n 3, 1) := by decide +kernel
theorem dL_law_1461 : decode cL_law 1461 = .ok (.iconst 1, 1) := by decide +kernel
theorem dL_law_1462 : decode cL_law 1462 = .ok (.iadd, 1) := by decide +kernel
theorem dL_law_1463 : decode cL_law 1463 = .ok (.iaload, 1) := by decide +kernel
theorem dL_law_1464 : decode cL_law 1464 = .ok (.invokevirtual 201, 3) := by decide +kernel
theorem dL_law_1467 : decode cL_law 1467 = .ok (.if_icmp .eq 409, 3) := by decide +kernel
theorem dL_law_1470 : decode cL_law 1470 = .ok (.iconst 0, 1) := by decide +kernel
theorem dL_law_1471 : decode cL_law 1471 = .ok (.ireturn, 1) := by decide +kernel
theorem dL_law_1472 : decode cL_law 1472 = .ok (.aload_n 1, 1) := by decide +kernel
theorem dL_law_1473 : decode cL_law 1473 = .ok (.invokevirtual 202, 3) := by decide +kernel
theorem dL_law_1476 : decode cL_law 1476 = .ok (.aload_n 2, 1) := by decide +kernel
theorem dL_law_1477 : decode cL_law 1477 = .ok (.invokevirtual 205, 3) := by decide +kernel
theorem dL_law_1480 : decode cL_law 1480 = .ok (.if_icmp .eq 396, 3) := by decide +kernel
theorem dL_law_1483 : decode cL_law 1483 = .ok (.iconst 0, 1) := by decide +kernel
theorem dL_law_1484 : decode cL_law 1484 = .ok (.ireturn, 1) := by decide +kernel
theorem dL_law_1485 : decode cL_law 1485 = .ok (.aload_n 1, 1) := by decide +kernel
theorem dL_law_1486 : decode cL_law 1486 = .ok (.aload_n 0, 1) := by decide +kernel
theorem dL_law_1487 : decode cL_law 1487 = .ok (.iload_n 3, 1) := by decide +kernel
theorem dL_law_1488 : decode cL_law 1488 = .ok (.iconst 1, 1) := by decide +kernel
theorem dL_law_1489 : decode cL_law 1489 = .ok (.iadd, 1) := by decide +kernel
theorem dL_law_1490 : decode cL_law 1490 = .ok (.iaload, 1) := by decide +kernel
theorem dL_law_1491 : decode cL_law 1491 = .ok (.invokevirtual 206, 3) := by decide +kernel
theorem dL_law_1494 : decode cL_law 1494 = .ok (.aload_n 2, 1) := by decide +kernel
theorem dL_law_1495 : decode cL_law 1495 = .ok (.aload_n 0, 1) := by decide +kernel
theorem dL_law_1496 : decode cL_law 1496 = .ok (.iload_n 3, 1) := by decide +kernel
theorem dL_law_1497 : decode cL_law 1497 = .ok (.iconst 1, 1) := by decide +kernel
theorem dL_law_1498 : decode cL_law 1498 = .ok (.iadd, 1) := by decide +kernel
theorem dL_law_1499 : decode cL_law 1499 = .ok (.iaload, 1) := by decide +kernel
theorem dL_law_1500 : decode cL_law 1500 = .ok (.invokevirtual 209, 3) := by decide +kernel
theorem dL_law_1503 : decode cL_law 1503 = .ok (.if_icmp .eq 373, 3) := by decide +kernel
theorem dL_law_1506 : decode cL_law 1506 = .ok (.iconst 0, 1) := by decide +kernel
theorem dL_law_1507 : decode cL_law 1507 = .ok (.ireturn, 1) := by decide +kernel
theorem dL_law_1508 : decode cL_law 1508 = .ok (.aload_n 1, 1) := by decide +kernel
theorem dL_law_1509 : decode cL_law 1509 = .ok (.invokevirtual 210, 3) := by decide +kernel
theorem dL_law_1512 : decode cL_law 1512 = .ok (.aload_n 2, 1) := by decide +kernel
theorem dL_law_1513 : decode cL_law 1513 = .ok (.invokevirtual 213, 3) := by decide +kernel
theorem dL_law_1516 : decode cL_law 1516 = .ok (.if_icmp .eq 360, 3) := by decide +kernel
theorem dL_law_1519 : decode cL_law 1519 = .ok (.iconst 0, 1) := by decide +kernel
theorem dL_law_1520 : decode cL_law 1520 = .ok (.ireturn, 1) := by decide +kernel
theorem dL_law_1521 : decode cL_law 1521 = .ok (.aload_n 1, 1) := by decide +kernel
theorem dL_law_1522 : decode cL_law 1522 = .ok (.aload_n 0, 1) := by decide +kernel
theorem dL_law_1523 : decode cL_law 1523 = .ok (.iload_n 3, 1) := by decide +kernel
theorem dL_law_1524 : decode cL_law 1524 = .ok (.iconst 1, 1) := by decide +kernel
theorem dL_law_1525 : decode cL_law 1525 = .ok (.iadd, 1) := by decide +kernel
theorem dL_law_1526 : decode cL_law 1526 = .ok (.iaload, 1) := by decide +kernel
theorem dL_law_1527 : decode cL_law 1527 = .ok (.invokevirtual 214, 3) := by decide +kernel
theorem dL_law_1530 : decode cL_law 1530 = .ok (.aload_n 2, 1) := by decide +kernel
theorem dL_law_1531 : decode cL_law 1531 = .ok (.aload_n 0, 1) := by decide +kernel
theorem dL_law_1532 : decode cL_law 1532 = .ok (.iload_n 3, 1) := by decide +kernel
theorem dL_law_1533 : decode cL_law 1533 = .ok (.iconst 1, 1) := by decide +kernel
theorem dL_law_1534 : decode cL_law 1534 = .ok (.iadd, 1) := by decide +kernel
theorem dL_law_1535 : decode cL_law 1535 = .ok (.iaload, 1) := by decide +kernel
theorem dL_law_1536 : decode cL_law 1536 = .ok (.invokevirtual 217, 3) := by decide +kernel
theorem dL_law_1539 : decode cL_law 1539 = .ok (.if_icmp .eq 337, 3) := by decide +kernel
theorem dL_law_1542 : decode cL_law 1542 = .ok (.iconst 0, 1) := by decide +kernel
theorem dL_law_1543 : decode cL_law 1543 = .ok (.ireturn, 1) := by decide +kernel
theorem dL_law_1544 : decode cL_law 1544 = .ok (.aload_n 1, 1) := by decide +kernel
theorem dL_law_1545 : decode cL_law 1545 = .ok (.invokevirtual 218, 3) := by decide +kernel
theorem dL_law_1548 : decode cL_law 1548 = .ok (.aload_n 2, 1) := by decide +kernel
theorem dL_law_1549 : decode cL_law 1549 = .ok (.invokevirtual 221, 3) := by decide +kernel
theorem dL_law_1552 : decode cL_law 1552 = .ok (.if_icmp .eq 324, 3) := by decide +kernel
theorem dL_law_1555 : decode cL_law 1555 = .ok (.iconst 0, 1) := by decide +kernel
theorem dL_law_1556 : decode cL_law 1556 = .ok (.ireturn, 1) := by decide +kernel
theorem dL_law_1557 : decode cL_law 1557 = .ok (.aload_n 1, 1) := by decide +kernel
theorem dL_law_1558 : decode cL_law 1558 = .ok (.aload_n 0, 1) := by decide +kernel
theorem dL_law_1559 : decode cL_law 1559 = .ok (.iload_n 3, 1) := by decide +kernel
theorem dL_law_1560 : decode cL_law 1560 = .ok (.iconst 1, 1) := by decide +kernel
theorem dL_law_1561 : decode cL_law 1561 = .ok (.iadd, 1) := by decide +kernel
theorem dL_law_1562 : decode cL_law 1562 = .ok (.iaload, 1) := by decide +kernel
theorem dL_law_1563 : decode cL_law 1563 = .ok (.invokevirtual 222, 3) := by decide +kernel
theorem dL_law_1566 : decode cL_law 1566 = .ok (.aload_n 2, 1) := by decide +kernel
theorem dL_law_1567 : decode cL_law 1567 = .ok (.aload_n 0, 1) := by decide +kernel
theorem dL_law_1568 : decode cL_law 1568 = .ok (.iload_n 3, 1) := by decide +kernel
theorem dL_law_1569 : decode cL_law 1569 = .ok (.iconst 1, 1) := by decide +kernel
theorem dL_law_1570 : decode cL_law 1570 = .ok (.iadd, 1) := by decide +kernel
theorem dL_law_1571 : decode cL_law 1571 = .ok (.iaload, 1) := by decide +kernel
theorem dL_law_1572 : decode cL_law 1572 = .ok (.invokevirtual 225, 3) := by decide +kernel
theorem dL_law_1575 : decode cL_law 1575 = .ok (.if_icmp .eq 301, 3) := by decide +kernel
theorem dL_law_1578 : decode cL_law 1578 = .ok (.iconst 0, 1) := by decide +kernel
theorem dL_law_1579 : decode cL_law 1579 = .ok (.ireturn, 1) := by decide +kernel
theorem dL_law_1580 : decode cL_law 1580 = .ok (.aload_n 1, 1) := by decide +kernel
theorem dL_law_1581 : decode cL_law 1581 = .ok (.aload_n 0, 1) := by decide +kernel
theorem dL_law_1582 : decode cL_law 1582 = .ok (.iload_n 3, 1) := by decide +kernel
theorem dL_law_1583 : decode cL_law 1583 = .ok (.iconst 1, 1) := by decide +kernel
theorem dL_law_1584 : decode cL_law 1584 = .ok (.iadd, 1) := by decide +kernel
theorem dL_law_1585 : decode cL_law 1585 = .ok (.iaload, 1) := by decide +kernel
theorem dL_law_1586 : decode cL_law 1586 = .ok (.invokevirtual 226, 3) := by decide +kernel
theorem dL_law_1589 : decode cL_law 1589 = .ok (.aload_n 2, 1) := by decide +kernel
theorem dL_law_1590 : decode cL_law 1590 = .ok (.aload_n 0, 1) := by decide +kernel
theorem dL_law_1591 : decode cL_law 1591 = .ok (.iload_n 3, 1) := by decide +kernel
theorem dL_law_1592 : decode cL_law 1592 = .ok (.iconst 1, 1) := by decide +kernel
theorem dL_law_1593 : decode cL_law 1593 = .ok (.iadd, 1) := by decide +kernel
theorem dL_law_1594 : decode cL_law 1594 = .ok (.iaload, 1) := by decide +kernel
theorem dL_law_1595 : decode cL_law 1595 = .ok (.invokevirtual 229, 3) := by decide +kernel
theorem dL_law_1598 : decode cL_law 1598 = .ok (.if_icmp .eq 278, 3) := by decide +kernel
theorem dL_law_1601 : decode cL_law 1601 = .ok (.iconst 0, 1) := by decide +kernel
theorem dL_law_1602 : decode cL_law 1602 = .ok (.ireturn, 1) := by decide +kernel
theorem dL_law_1603 : decode cL_law 1603 = .ok (.aload_n 1, 1) := by decide +kernel
theorem dL_law_1604 : decode cL_law 1604 = .ok (.aload_n 0, 1) := by decide +kernel
theorem dL_law_1605 : decode cL_law 1605 = .ok (.iload_n 3, 1) := by decide +kernel
theorem dL_law_1606 : decode cL_law 1606 = .ok (.iconst 1, 1) := by decide +kernel
theorem dL_law_1607 : decode cL_law 1607 = .ok (.iadd, 1) := by decide +kernel
theorem dL_law_1608 : decode cL_law 1608 = .ok (.iaload, 1) := by decide +kernel
theorem dL_law_1609 : decode cL_law 1609 = .ok (.invokevirtual 230, 3) := by decide +kernel
theorem dL_law_1612 : decode cL_law 1612 = .ok (.aload_n 2, 1) := by decide +kernel
theorem dL_law_1613 : decode cL_law 1613 = .ok (.aload_n 0, 1) := by decide +kernel
theorem dL_law_1614 : decode cL_law 1614 = .ok (.iload_n 3, 1) := by decide +kernel
theorem dL_law_1615 : decode cL_law 1615 = .ok (.iconst 1, 1) := by decide +kernel
theorem dL_law_1616 : decode cL_law 1616 = .ok (.iadd, 1) := by decide +kernel
theorem dL_law_1617 : decode cL_law 1617 = .ok (.iaload, 1) := by decide +kernel
theorem dL_law_1618 : decode cL_law 1618 = .ok (.invokevirtual 233, 3) := by decide +kernel
theorem dL_law_1621 : decode cL_law 1621 = .ok (.if_icmp .eq 255, 3) := by decide +kernel
theorem dL_law_1624 : decode cL_law 1624 = .ok (.iconst 0, 1) := by decide +kernel
theorem dL_law_1625 : decode cL_law 1625 = .ok (.ireturn, 1) := by decide +kernel
theorem dL_law_1626 : decode cL_law 1626 = .ok (.aload_n 1, 1) := by decide +kernel
theorem dL_law_1627 : decode cL_law 1627 = .ok (.aload_n 0, 1) := by decide +kernel
theorem dL_law_1628 : decode cL_law 1628 = .ok (.iload_n 3, 1) := by decide +kernel
theorem dL_law_1629 : decode cL_law 1629 = .ok (.iconst 1, 1) := by decide +kernel
theorem dL_law_1630 : decode cL_law 1630 = .ok (.iadd, 1) := by decide +kernel
theorem dL_law_1631 : decode cL_law 1631 = .ok (.iaload, 1) := by decide +kernel
theorem dL_law_1632 : decode cL_law 1632 = .ok (.invokevirtual 234, 3) := by decide +kernel
theorem dL_law_1635 : decode cL_law 1635 = .ok (.aload_n 2, 1) := by decide +kernel
theorem dL_law_1636 : decode cL_law 1636 = .ok (.aload_n 0, 1) := by decide +kernel
theorem dL_law_1637 : decode cL_law 1637 = .ok (.iload_n 3, 1) := by decide +kernel
theorem dL_law_1638 : decode cL_law 1638 = .ok (.iconst 1, 1) := by decide +kernel
theorem dL_law_1639 : decode cL_law 1639 = .ok (.iadd, 1) := by decide +kernel
theorem dL_law_1640 : decode cL_law 1640 = .ok (.iaload, 1) := by decide +kernel
theorem dL_law_1641 : decode cL_law 1641 = .ok (.invokevirtual 237, 3) := by decide +kernel
theorem dL_law_1644 : decode cL_law 1644 = .ok (.if_icmp .eq 232, 3) := by decide +kernel
theorem dL_law_1647 : decode cL_law 1647 = .ok (.iconst 0, 1) := by decide +kernel
theorem dL_law_1648 : decode cL_law 1648 = .ok (.ireturn, 1) := by decide +kernel
theorem dL_law_1649 : decode cL_law 1649 = .ok (.aload_n 1, 1) := by decide +kernel
theorem dL_law_1650 : decode cL_law 1650 = .ok (.aload_n 0, 1) := by decide +kernel
theorem dL_law_1651 : decode cL_law 1651 = .ok (.iload_n 3, 1) := by decide +kernel
theorem dL_law_1652 : decode cL_law 1652 = .ok (.iconst 1, 1) := by decide +kernel
theorem dL_law_1653 : decode cL_law 1653 = .ok (.iadd, 1) := by decide +kernel
theorem dL_law_1654 : decode cL_law 1654 = .ok (.iaload, 1) := by decide +kernel
theorem dL_law_1655 : decode cL_law 1655 = .ok (.invokevirtual 238, 3) := by decide +kernel
theorem dL_law_1658 : decode cL_law 1658 = .ok (.aload_n 2, 1) := by decide +kernel
theorem dL_law_1659 : decode cL_law 1659 = .ok (.aload_n 0, 1) := by decide +kernel
theorem dL_law_1660 : decode cL_law 1660 = .ok (.iload_n 3, 1) := by decide +kernel
theorem dL_law_1661 : decode cL_law 1661 = .ok (.iconst 1, 1) := by decide +kernel
theorem dL_law_1662 : decode cL_law 1662 = .ok (.iadd, 1) := by decide +kernel
theorem dL_law_1663 : decode cL_law 1663 = .ok (.iaload, 1) := by decide +kernel
theorem dL_law_1664 : decode cL_law 1664 = .ok (.invokevirtual 241, 3) := by decide +kernel
theorem dL_law_1667 : decode cL_law 1667 = .ok (.if_icmp .eq 209, 3) := by decide +kernel
theorem dL_law_1670 : decode cL_law 1670 = .ok (.iconst 0, 1) := by decide +kernel
theorem dL_law_1671 : decode cL_law 1671 = .ok (.ireturn, 1) := by decide +kernel
theorem dL_law_1672 : decode cL_law 1672 = .ok (.aload_n 1, 1) := by decide +kernel
theorem dL_law_1673 : decode cL_law 1673 = .ok (.invokevirtual 242, 3) := by decide +kernel
theorem dL_law_1676 : decode cL_law 1676 = .ok (.aload_n 2, 1) := by decide +kernel
theorem dL_law_1677 : decode cL_law 1677 = .ok (.invokevirtual 245, 3) := by decide +kernel
theorem dL_law_1680 : decode cL_law 1680 = .ok (.if_icmp .eq 196, 3) := by decide +kernel
theorem dL_law_1683 : decode cL_law 1683 = .ok (.iconst 0, 1) := by decide +kernel
theorem dL_law_1684 : decode cL_law 1684 = .ok (.ireturn, 1) := by decide +kernel
theorem dL_law_1685 : decode cL_law 1685 = .ok (.aload_n 1, 1) := by decide +kernel
theorem dL_law_1686 : decode cL_law 1686 = .ok (.aload_n 0, 1) := by decide +kernel
theorem dL_law_1687 : decode cL_law 1687 = .ok (.iload_n 3, 1) := by decide +kernel
theorem dL_law_1688 : decode cL_law 1688 = .ok (.iconst 1, 1) := by decide +kernel
theorem dL_law_1689 : decode cL_law 1689 = .ok (.iadd, 1) := by decide +kernel
theorem dL_law_1690 : decode cL_law 1690 = .ok (.iaload, 1) := by decide +kernel
theorem dL_law_1691 : decode cL_law 1691 = .ok (.invokevirtual 246, 3) := by decide +kernel
theorem dL_law_1694 : decode cL_law 1694 = .ok (.aload_n 2, 1) := by decide +kernel
theorem dL_law_1695 : decode cL_law 1695 = .ok (.aload_n 0, 1) := by decide +kernel
theorem dL_law_1696 : decode cL_law 1696 = .ok (.iload_n 3, 1) := by decide +kernel
theorem dL_law_1697 : decode cL_law 1697 = .ok (.iconst 1, 1) := by decide +kernel
theorem dL_law_1698 : decode cL_law 1698 = .ok (.iadd, 1) := by decide +kernel
theorem dL_law_1699 : decode cL_law 1699 = .ok (.iaload, 1) := by decide +kernel
theorem dL_law_1700 : decode cL_law 1700 = .ok (.invokevirtual 249, 3) := by decide +kernel
theorem dL_law_1703 : decode cL_law 1703 = .ok (.if_icmp .eq 173, 3) := by decide +kernel
theorem dL_law_1706 : decode cL_law 1706 = .ok (.iconst 0, 1) := by decide +kernel
theorem dL_law_1707 : decode cL_law 1707 = .ok (.ireturn, 1) := by decide +kernel
theorem dL_law_1708 : decode cL_law 1708 = .ok (.aload_n 1, 1) := by decide +kernel
theorem dL_law_1709 : decode cL_law 1709 = .ok (.aload_n 0, 1) := by decide +kernel
theorem dL_law_1710 : decode cL_law 1710 = .ok (.iload_n 3, 1) := by decide +kernel
theorem dL_law_1711 : decode cL_law 1711 = .ok (.iconst 1, 1) := by decide +kernel
theorem dL_law_1712 : decode cL_law 1712 = .ok (.iadd, 1) := by decide +kernel
theorem dL_law_1713 : decode cL_law 1713 = .ok (.iaload, 1) := by decide +kernel
theorem dL_law_1714 : decode cL_law 1714 = .ok (.aload_n 0, 1) := by decide +kernel
theorem dL_law_1715 : decode cL_law 1715 = .ok (.iload_n 3, 1) := by decide +kernel
theorem dL_law_1716 : decode cL_law 1716 = .ok (.iconst 2, 1) := by decide +kernel
theorem dL_law_1717 : decode cL_law 1717 = .ok (.iadd, 1) := by decide +kernel
theorem dL_law_1718 : decode cL_law 1718 = .ok (.iaload, 1) := by decide +kernel
theorem dL_law_1719 : decode cL_law 1719 = .ok (.invokevirtual 250, 3) := by decide +kernel
theorem dL_law_1722 : decode cL_law 1722 = .ok (.aload_n 2, 1) := by decide +kernel
theorem dL_law_1723 : decode cL_law 1723 = .ok (.aload_n 0, 1) := by decide +kernel
theorem dL_law_1724 : decode cL_law 1724 = .ok (.iload_n 3, 1) := by decide +kernel
theorem dL_law_1725 : decode cL_law 1725 = .ok (.iconst 1, 1) := by decide +kernel
theorem dL_law_1726 : decode cL_law 1726 = .ok (.iadd, 1) := by decide +kernel
theorem dL_law_1727 : decode cL_law 1727 = .ok (.iaload, 1) := by decide +kernel
theorem dL_law_1728 : decode cL_law 1728 = .ok (.aload_n 0, 1) := by decide +kernel
theorem dL_law_1729 : decode cL_law 1729 = .ok (.iload_n 3, 1) := by decide +kernel
theorem dL_law_1730 : decode cL_law 1730 = .ok (.iconst 2, 1) := by decide +kernel
theorem dL_law_1731 : decode cL_law 1731 = .ok (.iadd, 1) := by decide +kernel
theorem dL_law_1732 : decode cL_law 1732 = .ok (.iaload, 1) := by decide +kernel
theorem dL_law_1733 : decode cL_law 1733 = .ok (.invokevirtual 253, 3) := by decide +kernel
theorem dL_law_1736 : decode cL_law 1736 = .ok (.if_icmp .eq 140, 3) := by decide +kernel
theorem dL_law_1739 : decode cL_law 1739 = .ok (.iconst 0, 1) := by decide +kernel
theorem dL_law_1740 : decode cL_law 1740 = .ok (.ireturn, 1) := by decide +kernel
theorem dL_law_1741 : decode cL_law 1741 = .ok (.aload_n 1, 1) := by decide +kernel
theorem dL_law_1742 : decode cL_law 1742 = .ok (.aload_n 0, 1) := by decide +kernel
theorem dL_law_1743 : decode cL_law 1743 = .ok (.iload_n 3, 1) := by decide +kernel
theorem dL_law_1744 : decode cL_law 1744 = .ok (.iconst 1, 1) := by decide +kernel
theorem dL_law_1745 : decode cL_law 1745 = .ok (.iadd, 1) := by decide +kernel
theorem dL_law_1746 : decode cL_law 1746 = .ok (.iaload, 1) := by decide +kernel
theorem dL_law_1747 : decode cL_law 1747 = .ok (.aload_n 0, 1) := by decide +kernel
theorem dL_law_1748 : decode cL_law 1748 = .ok (.iload_n 3, 1) := by decide +kernel
theorem dL_law_1749 : decode cL_law 1749 = .ok (.iconst 2, 1) := by decide +kernel
theorem dL_law_1750 : decode cL_law 1750 = .ok (.iadd, 1) := by decide +kernel
theorem dL_law_1751 : decode cL_law 1751 = .ok (.iaload, 1) := by decide +kernel
theorem dL_law_1752 : decode cL_law 1752 = .ok (.invokevirtual 254, 3) := by decide +kernel
theorem dL_law_1755 : decode cL_law 1755 = .ok (.aload_n 2, 1) := by decide +kernel
theorem dL_law_1756 : decode cL_law 1756 = .ok (.aload_n 0, 1) := by decide +kernel
theorem dL_law_1757 : decode cL_law 1757 = .ok (.iload_n 3, 1) := by decide +kernel
theorem dL_law_1758 : decode cL_law 1758 = .ok (.iconst 1, 1) := by decide +kernel
theorem dL_law_1759 : decode cL_law 1759 = .ok (.iadd, 1) := by decide +kernel
theorem dL_law_1760 : decode cL_law 1760 = .ok (.iaload, 1) := by decide +kernel
theorem dL_law_1761 : decode cL_law 1761 = .ok (.aload_n 0, 1) := by decide +kernel
theorem dL_law_1762 : decode cL_law 1762 = .ok (.iload_n 3, 1) := by decide +kernel
theorem dL_law_1763 : decode cL_law 1763 = .ok (.iconst 2, 1) := by decide +kernel
theorem dL_law_1764 : decode cL_law 1764 = .ok (.iadd, 1) := by decide +kernel
theorem dL_law_1765 : decode cL_law 1765 = .ok (.iaload, 1) := by decide +kernel
theorem dL_law_1766 : decode cL_law 1766 = .ok (.invokevirtual 257, 3) := by decide +kernel
theorem dL_law_1769 : decode cL_law 1769 = .ok (.if_icmp .eq 107, 3) := by decide +kernel
theorem dL_law_1772 : decode cL_law 1772 = .ok (.iconst 0, 1) := by decide +kernel
theorem dL_law_1773 : decode cL_law 1773 = .ok (.ireturn, 1) := by decide +kernel
theorem dL_law_1774 : decode cL_law 1774 = .ok (.aload_n 1, 1) := by decide +kernel
theorem dL_law_1775 : decode cL_law 1775 = .ok (.aload_n 0, 1) := by decide +kernel
theorem dL_law_1776 : decode cL_law 1776 = .ok (.iload_n 3, 1) := by decide +kernel
theorem dL_law_1777 : decode cL_law 1777 = .ok (.iconst 1, 1) := by decide +kernel
theorem dL_law_1778 : decode cL_law 1778 = .ok (.iadd, 1) := by decide +kernel
theorem dL_law_1779 : decode cL_law 1779 = .ok (.iaload, 1) := by decide +kernel
theorem dL_law_1780 : decode cL_law 1780 = .ok (.aload_n 0, 1) := by decide +kernel
theorem dL_law_1781 : decode cL_law 1781 = .ok (.iload_n 3, 1) := by decide +kernel
theorem dL_law_1782 : decode cL_law 1782 = .ok (.iconst 2, 1) := by decide +kernel
theorem dL_law_1783 : decode cL_law 1783 = .ok (.iadd, 1) := by decide +kernel
theorem dL_law_1784 : decode cL_law 1784 = .ok (.iaload, 1) := by decide +kernel
theorem dL_law_1785 : decode cL_law 1785 = .ok (.invokevirtual 258, 3) := by decide +kernel
theorem dL_law_1788 : decode cL_law 1788 = .ok (.aload_n 2, 1) := by decide +kernel
theorem dL_law_1789 : decode cL_law 1789 = .ok (.aload_n 0, 1) := by decide +kernel
theorem dL_law_1790 : decode cL_law 1790 = .ok (.iload_n 3, 1) := by decide +kernel
theorem dL_law_1791 : decode cL_law 1791 = .ok (.iconst 1, 1) := by decide +kernel
theorem dL_law_1792 : decode cL_law 1792 = .ok (.iadd, 1) := by decide +kernel
theorem dL_law_1793 : decode cL_law 1793 = .ok (.iaload, 1) := by decide +kernel
theorem dL_law_1794 : decode cL_law 1794 = .ok (.aload_n 0, 1) := by decide +kernel
theorem dL_law_1795 : decode cL_law 1795 = .ok (.iload_n 3, 1) := by decide +kernel
theorem dL_law_1796 : decode cL_law 1796 = .ok (.iconst 2, 1) := by decide +kernel
theorem dL_law_1797 : decode cL_law 1797 = .ok (.iadd, 1) := by decide +kernel
theorem dL_law_1798 : decode cL_law 1798 = .ok (.iaload, 1) := by decide +kernel
theorem dL_law_1799 : decode cL_law 1799 = .ok (.invokevirtual 261, 3) := by decide +kernel
theorem dL_law_1802 : decode cL_law 1802 = .ok (.if_icmp .eq 74, 3) := by decide +kernel
theorem dL_law_1805 : decode cL_law 1805 = .ok (.iconst 0, 1) := by decide +kernel
theorem dL_law_1806 : decode cL_law 1806 = .ok (.ireturn, 1) := by decide +kernel
theorem dL_law_1807 : decode cL_law 1807 = .ok (.aload_n 1, 1) := by decide +kernel
theorem dL_law_1808 : decode cL_law 1808 = .ok (.aload_n 0, 1) := by decide +kernel
theorem dL_law_1809 : decode cL_law 1809 = .ok (.iload_n 3, 1) := by decide +kernel
theorem dL_law_1810 : decode cL_law 1810 = .ok (.iconst 1, 1) := by decide +kernel
theorem dL_law_1811 : decode cL_law 1811 = .ok (.iadd, 1) := by decide +kernel
theorem dL_law_1812 : decode cL_law 1812 = .ok (.iaload, 1) := by decide +kernel
theorem dL_law_1813 : decode cL_law 1813 = .ok (.invokevirtual 262, 3) := by decide +kernel
theorem dL_law_1816 : decode cL_law 1816 = .ok (.aload_n 2, 1) := by decide +kernel
theorem dL_law_1817 : decode cL_law 1817 = .ok (.aload_n 0, 1) := by decide +kernel
theorem dL_law_1818 : decode cL_law 1818 = .ok (.iload_n 3, 1) := by decide +kernel
theorem dL_law_1819 : decode cL_law 1819 = .ok (.iconst 1, 1) := by decide +kernel
theorem dL_law_1820 : decode cL_law 1820 = .ok (.iadd, 1) := by decide +kernel
theorem dL_law_1821 : decode cL_law 1821 = .ok (.iaload, 1) := by decide +kernel
theorem dL_law_1822 : decode cL_law 1822 = .ok (.invokevirtual 265, 3) := by decide +kernel
theorem dL_law_1825 : decode cL_law 1825 = .ok (.if_icmp .eq 51, 3) := by decide +kernel
theorem dL_law_1828 : decode cL_law 1828 = .ok (.iconst 0, 1) := by decide +kernel
theorem dL_law_1829 : decode cL_law 1829 = .ok (.ireturn, 1) := by decide +kernel
theorem dL_law_1830 : decode cL_law 1830 = .ok (.aload_n 1, 1) := by decide +kernel
theorem dL_law_1831 : decode cL_law 1831 = .ok (.aload_n 0, 1) := by decide +kernel
theorem dL_law_1832 : decode cL_law 1832 = .ok (.iload_n 3, 1) := by decide +kernel
theorem dL_law_1833 : decode cL_law 1833 = .ok (.iconst 1, 1) := by decide +kernel
theorem dL_law_1834 : decode cL_law 1834 = .ok (.iadd, 1) := by decide +kernel
theorem dL_law_1835 : decode cL_law 1835 = .ok (.iaload, 1) := by decide +kernel
theorem dL_law_1836 : decode cL_law 1836 = .ok (.invokevirtual 266, 3) := by decide +kernel
theorem dL_law_1839 : decode cL_law 1839 = .ok (.aload_n 2, 1) := by decide +kernel
theorem dL_law_1840 : decode cL_law 1840 = .ok (.aload_n 0, 1) := by decide +kernel
theorem dL_law_1841 : decode cL_law 1841 = .ok (.iload_n 3, 1) := by decide +kernel
theorem dL_law_1842 : decode cL_law 1842 = .ok (.iconst 1, 1) := by decide +kernel
theorem dL_law_1843 : decode cL_law 1843 = .ok (.iadd, 1) := by decide +kernel
theorem dL_law_1844 : decode cL_law 1844 = .ok (.iaload, 1) := by decide +kernel
theorem dL_law_1845 : decode cL_law 1845 = .ok (.invokevirtual 269, 3) := by decide +kernel
theorem dL_law_1848 : decode cL_law 1848 = .ok (.if_icmp .eq 28, 3) := by decide +kernel
theorem dL_law_1851 : decode cL_law 1851 = .ok (.iconst 0, 1) := by decide +kernel
theorem dL_law_1852 : decode cL_law 1852 = .ok (.ireturn, 1) := by decide +kernel
theorem dL_law_1853 : decode cL_law 1853 = .ok (.aload_n 1, 1) := by decide +kernel
theorem dL_law_1854 : decode cL_law 1854 = .ok (.aload_n 0, 1) := by decide +kernel
theorem dL_law_1855 : decode cL_law 1855 = .ok (.iload_n 3, 1) := by decide +kernel
theorem dL_law_1856 : decode cL_law 1856 = .ok (.iconst 1, 1) := by decide +kernel
theorem dL_law_1857 : decode cL_law 1857 = .ok (.iadd, 1) := by decide +kernel
theorem dL_law_1858 : decode cL_law 1858 = .ok (.iaload, 1) := by decide +kernel
theorem dL_law_1859 : decode cL_law 1859 = .ok (.invokevirtual 270, 3) := by decide +kernel
theorem dL_law_1862 : decode cL_law 1862 = .ok (.aload_n 2, 1) := by decide +kernel
theorem dL_law_1863 : decode cL_law 1863 = .ok (.aload_n 0, 1) := by decide +kernel
theorem dL_law_1864 : decode cL_law 1864 = .ok (.iload_n 3, 1) := by decide +kernel
theorem dL_law_1865 : decode cL_law 1865 = .ok (.iconst 1, 1) := by decide +kernel
theorem dL_law_1866 : decode cL_law 1866 = .ok (.iadd, 1) := by decide +kernel
theorem dL_law_1867 : decode cL_law 1867 = .ok (.iaload, 1) := by decide +kernel
theorem dL_law_1868 : decode cL_law 1868 = .ok (.invokevirtual 273, 3) := by decide +kernel
theorem dL_law_1871 : decode cL_law 1871 = .ok (.if_icmp .eq 5, 3) := by decide +kernel
theorem dL_law_1874 : decode cL_law 1874 = .ok (.iconst 0, 1) := by decide +kernel
theorem dL_law_1875 : decode cL_law 1875 = .ok (.ireturn, 1) := by decide +kernel
theorem dL_law_1876 : decode cL_law 1876 = .ok (.iinc 3 6, 3) := by decide +kernel
theorem dL_law_1879 : decode cL_law 1879 = .ok (.goto (-1861), 3) := by decide +kernel
theorem dL_law_1882 : decode cL_law 1882 = .ok (.iconst 1, 1) := by decide +kernel
theorem dL_law_1883 : decode cL_law 1883 = .ok (.ireturn, 1) := by decide +kernel
