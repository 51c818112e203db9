theorem dX0_init_0 : decode cX0_init 0 = .ok (.aload_n 0, 1) := by decide +kernel
theorem dX0_init_1 : decode cX0_init 1 = .ok (.invokespecial 3, 3) := by decide +kernel
theorem dX0_init_4 : decode cX0_init 4 = .ok (.aload_n 0, 1) := by decide +kernel
theorem dX0_init_5 : decode cX0_init 5 = .ok (.bipush 12, 2) := by decide +kernel
theorem dX0_init_7 : decode cX0_init 7 = .ok (.newarray .int, 2) := by decide +kernel
theorem dX0_init_9 : decode cX0_init 9 = .ok (.putfield 9, 3) := by decide +kernel
theorem dX0_init_12 : decode cX0_init 12 = .ok (.aload_n 0, 1) := by decide +kernel
theorem dX0_init_13 : decode cX0_init 13 = .ok (.bipush 12, 2) := by decide +kernel
theorem dX0_init_15 : decode cX0_init 15 = .ok (.newarray .int, 2) := by decide +kernel
theorem dX0_init_17 : decode cX0_init 17 = .ok (.putfield 15, 3) := by decide +kernel
theorem dX0_init_20 : decode cX0_init 20 = .ok (.aload_n 0, 1) := by decide +kernel
theorem dX0_init_21 : decode cX0_init 21 = .ok (.bipush 12, 2) := by decide +kernel
theorem dX0_init_23 : decode cX0_init 23 = .ok (.newarray .int, 2) := by decide +kernel
theorem dX0_init_25 : decode cX0_init 25 = .ok (.putfield 18, 3) := by decide +kernel
theorem dX0_init_28 : decode cX0_init 28 = .ok (.return_, 1) := by decide +kernel
theorem dX0_begin_0 : decode cX0_begin 0 = .ok (.aload_n 1, 1) := by decide +kernel
theorem dX0_begin_1 : decode cX0_begin 1 = .ok (.getfield 21, 3) := by decide +kernel
theorem dX0_begin_4 : decode cX0_begin 4 = .ok (.aload_n 0, 1) := by decide +kernel
theorem dX0_begin_5 : decode cX0_begin 5 = .ok (.getfield 9, 3) := by decide +kernel
theorem dX0_begin_8 : decode cX0_begin 8 = .ok (.invokestatic 26, 3) := by decide +kernel
theorem dX0_begin_11 : decode cX0_begin 11 = .ok (.aload_n 1, 1) := by decide +kernel
theorem dX0_begin_12 : decode cX0_begin 12 = .ok (.getfield 21, 3) := by decide +kernel
theorem dX0_begin_15 : decode cX0_begin 15 = .ok (.aload_n 0, 1) := by decide +kernel
theorem dX0_begin_16 : decode cX0_begin 16 = .ok (.getfield 18, 3) := by decide +kernel
theorem dX0_begin_19 : decode cX0_begin 19 = .ok (.invokestatic 26, 3) := by decide +kernel
theorem dX0_begin_22 : decode cX0_begin 22 = .ok (.aload_n 0, 1) := by decide +kernel
theorem dX0_begin_23 : decode cX0_begin 23 = .ok (.getfield 15, 3) := by decide +kernel
theorem dX0_begin_26 : decode cX0_begin 26 = .ok (.invokestatic 30, 3) := by decide +kernel
theorem dX0_begin_29 : decode cX0_begin 29 = .ok (.return_, 1) := by decide +kernel
theorem dX0_copyFrom_0 : decode cX0_copyFrom 0 = .ok (.aload_n 1, 1) := by decide +kernel
theorem dX0_copyFrom_1 : decode cX0_copyFrom 1 = .ok (.getfield 9, 3) := by decide +kernel
theorem dX0_copyFrom_4 : decode cX0_copyFrom 4 = .ok (.aload_n 0, 1) := by decide +kernel
theorem dX0_copyFrom_5 : decode cX0_copyFrom 5 = .ok (.getfield 9, 3) := by decide +kernel
theorem dX0_copyFrom_8 : decode cX0_copyFrom 8 = .ok (.invokestatic 26, 3) := by decide +kernel
theorem dX0_copyFrom_11 : decode cX0_copyFrom 11 = .ok (.aload_n 1, 1) := by decide +kernel
theorem dX0_copyFrom_12 : decode cX0_copyFrom 12 = .ok (.getfield 15, 3) := by decide +kernel
theorem dX0_copyFrom_15 : decode cX0_copyFrom 15 = .ok (.aload_n 0, 1) := by decide +kernel
theorem dX0_copyFrom_16 : decode cX0_copyFrom 16 = .ok (.getfield 15, 3) := by decide +kernel
theorem dX0_copyFrom_19 : decode cX0_copyFrom 19 = .ok (.invokestatic 26, 3) := by decide +kernel
theorem dX0_copyFrom_22 : decode cX0_copyFrom 22 = .ok (.aload_n 1, 1) := by decide +kernel
theorem dX0_copyFrom_23 : decode cX0_copyFrom 23 = .ok (.getfield 18, 3) := by decide +kernel
theorem dX0_copyFrom_26 : decode cX0_copyFrom 26 = .ok (.aload_n 0, 1) := by decide +kernel
theorem dX0_copyFrom_27 : decode cX0_copyFrom 27 = .ok (.getfield 18, 3) := by decide +kernel
theorem dX0_copyFrom_30 : decode cX0_copyFrom 30 = .ok (.invokestatic 26, 3) := by decide +kernel
theorem dX0_copyFrom_33 : decode cX0_copyFrom 33 = .ok (.return_, 1) := by decide +kernel
theorem dX0_refill_0 : decode cX0_refill 0 = .ok (.aload_n 0, 1) := by decide +kernel
theorem dX0_refill_1 : decode cX0_refill 1 = .ok (.getfield 9, 3) := by decide +kernel
theorem dX0_refill_4 : decode cX0_refill 4 = .ok (.iload_n 2, 1) := by decide +kernel
theorem dX0_refill_5 : decode cX0_refill 5 = .ok (.iaload, 1) := by decide +kernel
theorem dX0_refill_6 : decode cX0_refill 6 = .ok (.iload_n 3, 1) := by decide +kernel
theorem dX0_refill_7 : decode cX0_refill 7 = .ok (.iadd, 1) := by decide +kernel
theorem dX0_refill_8 : decode cX0_refill 8 = .ok (.istore 5, 2) := by decide +kernel
theorem dX0_refill_10 : decode cX0_refill 10 = .ok (.iconst 0, 1) := by decide +kernel
theorem dX0_refill_11 : decode cX0_refill 11 = .ok (.iload 5, 2) := by decide +kernel
theorem dX0_refill_13 : decode cX0_refill 13 = .ok (.aload_n 1, 1) := by decide +kernel
theorem dX0_refill_14 : decode cX0_refill 14 = .ok (.getfield 21, 3) := by decide +kernel
theorem dX0_refill_17 : decode cX0_refill 17 = .ok (.iload_n 2, 1) := by decide +kernel
theorem dX0_refill_18 : decode cX0_refill 18 = .ok (.iaload, 1) := by decide +kernel
theorem dX0_refill_19 : decode cX0_refill 19 = .ok (.isub, 1) := by decide +kernel
theorem dX0_refill_20 : decode cX0_refill 20 = .ok (.invokestatic 34, 3) := by decide +kernel
theorem dX0_refill_23 : decode cX0_refill 23 = .ok (.istore 6, 2) := by decide +kernel
theorem dX0_refill_25 : decode cX0_refill 25 = .ok (.aload_n 0, 1) := by decide +kernel
theorem dX0_refill_26 : decode cX0_refill 26 = .ok (.getfield 9, 3) := by decide +kernel
theorem dX0_refill_29 : decode cX0_refill 29 = .ok (.iload_n 2, 1) := by decide +kernel
theorem dX0_refill_30 : decode cX0_refill 30 = .ok (.iload 5, 2) := by decide +kernel
theorem dX0_refill_32 : decode cX0_refill 32 = .ok (.iload 6, 2) := by decide +kernel
theorem dX0_refill_34 : decode cX0_refill 34 = .ok (.isub, 1) := by decide +kernel
theorem dX0_refill_35 : decode cX0_refill 35 = .ok (.iastore, 1) := by decide +kernel
theorem dX0_refill_36 : decode cX0_refill 36 = .ok (.aload_n 0, 1) := by decide +kernel
theorem dX0_refill_37 : decode cX0_refill 37 = .ok (.getfield 15, 3) := by decide +kernel
theorem dX0_refill_40 : decode cX0_refill 40 = .ok (.iload_n 2, 1) := by decide +kernel
theorem dX0_refill_41 : decode cX0_refill 41 = .ok (.aload_n 1, 1) := by decide +kernel
theorem dX0_refill_42 : decode cX0_refill 42 = .ok (.getfield 40, 3) := by decide +kernel
theorem dX0_refill_45 : decode cX0_refill 45 = .ok (.iload_n 2, 1) := by decide +kernel
theorem dX0_refill_46 : decode cX0_refill 46 = .ok (.iaload, 1) := by decide +kernel
theorem dX0_refill_47 : decode cX0_refill 47 = .ok (.aload_n 0, 1) := by decide +kernel
theorem dX0_refill_48 : decode cX0_refill 48 = .ok (.getfield 15, 3) := by decide +kernel
theorem dX0_refill_51 : decode cX0_refill 51 = .ok (.iload_n 2, 1) := by decide +kernel
theorem dX0_refill_52 : decode cX0_refill 52 = .ok (.iaload, 1) := by decide +kernel
theorem dX0_refill_53 : decode cX0_refill 53 = .ok (.iload 6, 2) := by decide +kernel
theorem dX0_refill_55 : decode cX0_refill 55 = .ok (.iadd, 1) := by decide +kernel
theorem dX0_refill_56 : decode cX0_refill 56 = .ok (.invokestatic 43, 3) := by decide +kernel
theorem dX0_refill_59 : decode cX0_refill 59 = .ok (.iastore, 1) := by decide +kernel
theorem dX0_refill_60 : decode cX0_refill 60 = .ok (.aload_n 0, 1) := by decide +kernel
theorem dX0_refill_61 : decode cX0_refill 61 = .ok (.getfield 18, 3) := by decide +kernel
theorem dX0_refill_64 : decode cX0_refill 64 = .ok (.iload_n 2, 1) := by decide +kernel
theorem dX0_refill_65 : decode cX0_refill 65 = .ok (.aload_n 1, 1) := by decide +kernel
theorem dX0_refill_66 : decode cX0_refill 66 = .ok (.getfield 21, 3) := by decide +kernel
theorem dX0_refill_69 : decode cX0_refill 69 = .ok (.iload_n 2, 1) := by decide +kernel
theorem dX0_refill_70 : decode cX0_refill 70 = .ok (.iaload, 1) := by decide +kernel
theorem dX0_refill_71 : decode cX0_refill 71 = .ok (.aload_n 0, 1) := by decide +kernel
theorem dX0_refill_72 : decode cX0_refill 72 = .ok (.getfield 18, 3) := by decide +kernel
theorem dX0_refill_75 : decode cX0_refill 75 = .ok (.iload_n 2, 1) := by decide +kernel
theorem dX0_refill_76 : decode cX0_refill 76 = .ok (.iaload, 1) := by decide +kernel
theorem dX0_refill_77 : decode cX0_refill 77 = .ok (.iload 4, 2) := by decide +kernel
theorem dX0_refill_79 : decode cX0_refill 79 = .ok (.iadd, 1) := by decide +kernel
theorem dX0_refill_80 : decode cX0_refill 80 = .ok (.invokestatic 43, 3) := by decide +kernel
theorem dX0_refill_83 : decode cX0_refill 83 = .ok (.iastore, 1) := by decide +kernel
theorem dX0_refill_84 : decode cX0_refill 84 = .ok (.return_, 1) := by decide +kernel
theorem dX0_findBlocking_0 : decode cX0_findBlocking 0 = .ok (.iload_n 2, 1) := by decide +kernel
theorem dX0_findBlocking_1 : decode cX0_findBlocking 1 = .ok (.istore 4, 2) := by decide +kernel
theorem dX0_findBlocking_3 : decode cX0_findBlocking 3 = .ok (.iconst 0, 1) := by decide +kernel
theorem dX0_findBlocking_4 : decode cX0_findBlocking 4 = .ok (.istore 5, 2) := by decide +kernel
theorem dX0_findBlocking_6 : decode cX0_findBlocking 6 = .ok (.iload 5, 2) := by decide +kernel
theorem dX0_findBlocking_8 : decode cX0_findBlocking 8 = .ok (.bipush 12, 2) := by decide +kernel
theorem dX0_findBlocking_10 : decode cX0_findBlocking 10 = .ok (.if_icmp .ge 41, 3) := by decide +kernel
theorem dX0_findBlocking_13 : decode cX0_findBlocking 13 = .ok (.aload_n 1, 1) := by decide +kernel
theorem dX0_findBlocking_14 : decode cX0_findBlocking 14 = .ok (.iload 4, 2) := by decide +kernel
theorem dX0_findBlocking_16 : decode cX0_findBlocking 16 = .ok (.invokevirtual 46, 3) := by decide +kernel
theorem dX0_findBlocking_19 : decode cX0_findBlocking 19 = .ok (.ifCond .eq 32, 3) := by decide +kernel
theorem dX0_findBlocking_22 : decode cX0_findBlocking 22 = .ok (.aload_n 0, 1) := by decide +kernel
theorem dX0_findBlocking_23 : decode cX0_findBlocking 23 = .ok (.getfield 18, 3) := by decide +kernel
theorem dX0_findBlocking_26 : decode cX0_findBlocking 26 = .ok (.iload 4, 2) := by decide +kernel
theorem dX0_findBlocking_28 : decode cX0_findBlocking 28 = .ok (.iaload, 1) := by decide +kernel
theorem dX0_findBlocking_29 : decode cX0_findBlocking 29 = .ok (.iload_n 3, 1) := by decide +kernel
theorem dX0_findBlocking_30 : decode cX0_findBlocking 30 = .ok (.if_icmp .ge 6, 3) := by decide +kernel
theorem dX0_findBlocking_33 : decode cX0_findBlocking 33 = .ok (.iload 4, 2) := by decide +kernel
theorem dX0_findBlocking_35 : decode cX0_findBlocking 35 = .ok (.ireturn, 1) := by decide +kernel
theorem dX0_findBlocking_36 : decode cX0_findBlocking 36 = .ok (.aload_n 1, 1) := by decide +kernel
theorem dX0_findBlocking_37 : decode cX0_findBlocking 37 = .ok (.getfield 50, 3) := by decide +kernel
theorem dX0_findBlocking_40 : decode cX0_findBlocking 40 = .ok (.iload 4, 2) := by decide +kernel
theorem dX0_findBlocking_42 : decode cX0_findBlocking 42 = .ok (.iaload, 1) := by decide +kernel
theorem dX0_findBlocking_43 : decode cX0_findBlocking 43 = .ok (.istore 4, 2) := by decide +kernel
theorem dX0_findBlocking_45 : decode cX0_findBlocking 45 = .ok (.iinc 5 1, 3) := by decide +kernel
theorem dX0_findBlocking_48 : decode cX0_findBlocking 48 = .ok (.goto (-42), 3) := by decide +kernel
theorem dX0_findBlocking_51 : decode cX0_findBlocking 51 = .ok (.bipush (-2), 2) := by decide +kernel
theorem dX0_findBlocking_53 : decode cX0_findBlocking 53 = .ok (.ireturn, 1) := by decide +kernel
theorem dX0_findLender_0 : decode cX0_findLender 0 = .ok (.bipush (-2), 2) := by decide +kernel
theorem dX0_findLender_2 : decode cX0_findLender 2 = .ok (.istore 4, 2) := by decide +kernel
theorem dX0_findLender_4 : decode cX0_findLender 4 = .ok (.iconst 1, 1) := by decide +kernel
theorem dX0_findLender_5 : decode cX0_findLender 5 = .ok (.istore 5, 2) := by decide +kernel
theorem dX0_findLender_7 : decode cX0_findLender 7 = .ok (.iload_n 2, 1) := by decide +kernel
theorem dX0_findLender_8 : decode cX0_findLender 8 = .ok (.istore 6, 2) := by decide +kernel
theorem dX0_findLender_10 : decode cX0_findLender 10 = .ok (.iconst 0, 1) := by decide +kernel
theorem dX0_findLender_11 : decode cX0_findLender 11 = .ok (.istore 7, 2) := by decide +kernel
theorem dX0_findLender_13 : decode cX0_findLender 13 = .ok (.iload 7, 2) := by decide +kernel
theorem dX0_findLender_15 : decode cX0_findLender 15 = .ok (.bipush 12, 2) := by decide +kernel
theorem dX0_findLender_17 : decode cX0_findLender 17 = .ok (.if_icmp .ge 98, 3) := by decide +kernel
theorem dX0_findLender_20 : decode cX0_findLender 20 = .ok (.aload_n 1, 1) := by decide +kernel
theorem dX0_findLender_21 : decode cX0_findLender 21 = .ok (.iload 6, 2) := by decide +kernel
theorem dX0_findLender_23 : decode cX0_findLender 23 = .ok (.invokevirtual 46, 3) := by decide +kernel
theorem dX0_findLender_26 : decode cX0_findLender 26 = .ok (.ifCond .eq 89, 3) := by decide +kernel
theorem dX0_findLender_29 : decode cX0_findLender 29 = .ok (.aload_n 0, 1) := by decide +kernel
theorem dX0_findLender_30 : decode cX0_findLender 30 = .ok (.getfield 18, 3) := by decide +kernel
theorem dX0_findLender_33 : decode cX0_findLender 33 = .ok (.iload 6, 2) := by decide +kernel
theorem dX0_findLender_35 : decode cX0_findLender 35 = .ok (.iaload, 1) := by decide +kernel
theorem dX0_findLender_36 : decode cX0_findLender 36 = .ok (.iload_n 3, 1) := by decide +kernel
theorem dX0_findLender_37 : decode cX0_findLender 37 = .ok (.if_icmp .ge 6, 3) := by decide +kernel
theorem dX0_findLender_40 : decode cX0_findLender 40 = .ok (.bipush (-2), 2) := by decide +kernel
theorem dX0_findLender_42 : decode cX0_findLender 42 = .ok (.ireturn, 1) := by decide +kernel
theorem dX0_findLender_43 : decode cX0_findLender 43 = .ok (.iload 5, 2) := by decide +kernel
theorem dX0_findLender_45 : decode cX0_findLender 45 = .ok (.ifCond .eq 26, 3) := by decide +kernel
theorem dX0_findLender_48 : decode cX0_findLender 48 = .ok (.aload_n 0, 1) := by decide +kernel
theorem dX0_findLender_49 : decode cX0_findLender 49 = .ok (.getfield 9, 3) := by decide +kernel
theorem dX0_findLender_52 : decode cX0_findLender 52 = .ok (.iload 6, 2) := by decide +kernel
theorem dX0_findLender_54 : decode cX0_findLender 54 = .ok (.iaload, 1) := by decide +kernel
theorem dX0_findLender_55 : decode cX0_findLender 55 = .ok (.aload_n 0, 1) := by decide +kernel
theorem dX0_findLender_56 : decode cX0_findLender 56 = .ok (.getfield 15, 3) := by decide +kernel
theorem dX0_findLender_59 : decode cX0_findLender 59 = .ok (.iload 6, 2) := by decide +kernel
theorem dX0_findLender_61 : decode cX0_findLender 61 = .ok (.iaload, 1) := by decide +kernel
theorem dX0_findLender_62 : decode cX0_findLender 62 = .ok (.iadd, 1) := by decide +kernel
theorem dX0_findLender_63 : decode cX0_findLender 63 = .ok (.iload_n 3, 1) := by decide +kernel
theorem dX0_findLender_64 : decode cX0_findLender 64 = .ok (.if_icmp .lt 7, 3) := by decide +kernel
theorem dX0_findLender_67 : decode cX0_findLender 67 = .ok (.iload 6, 2) := by decide +kernel
theorem dX0_findLender_69 : decode cX0_findLender 69 = .ok (.istore 4, 2) := by decide +kernel
theorem dX0_findLender_71 : decode cX0_findLender 71 = .ok (.iload 5, 2) := by decide +kernel
theorem dX0_findLender_73 : decode cX0_findLender 73 = .ok (.ifCond .eq 24, 3) := by decide +kernel
theorem dX0_findLender_76 : decode cX0_findLender 76 = .ok (.iload 4, 2) := by decide +kernel
theorem dX0_findLender_78 : decode cX0_findLender 78 = .ok (.bipush (-2), 2) := by decide +kernel
theorem dX0_findLender_80 : decode cX0_findLender 80 = .ok (.if_icmp .ne 17, 3) := by decide +kernel
theorem dX0_findLender_83 : decode cX0_findLender 83 = .ok (.aload_n 1, 1) := by decide +kernel
theorem dX0_findLender_84 : decode cX0_findLender 84 = .ok (.getfield 53, 3) := by decide +kernel
theorem dX0_findLender_87 : decode cX0_findLender 87 = .ok (.iload 6, 2) := by decide +kernel
theorem dX0_findLender_89 : decode cX0_findLender 89 = .ok (.baload, 1) := by decide +kernel
theorem dX0_findLender_90 : decode cX0_findLender 90 = .ok (.ifCond .ne 7, 3) := by decide +kernel
theorem dX0_findLender_93 : decode cX0_findLender 93 = .ok (.iconst 1, 1) := by decide +kernel
theorem dX0_findLender_94 : decode cX0_findLender 94 = .ok (.goto 4, 3) := by decide +kernel
theorem dX0_findLender_97 : decode cX0_findLender 97 = .ok (.iconst 0, 1) := by decide +kernel
theorem dX0_findLender_98 : decode cX0_findLender 98 = .ok (.istore 5, 2) := by decide +kernel
theorem dX0_findLender_100 : decode cX0_findLender 100 = .ok (.aload_n 1, 1) := by decide +kernel
theorem dX0_findLender_101 : decode cX0_findLender 101 = .ok (.getfield 50, 3) := by decide +kernel
theorem dX0_findLender_104 : decode cX0_findLender 104 = .ok (.iload 6, 2) := by decide +kernel
theorem dX0_findLender_106 : decode cX0_findLender 106 = .ok (.iaload, 1) := by decide +kernel
theorem dX0_findLender_107 : decode cX0_findLender 107 = .ok (.istore 6, 2) := by decide +kernel
theorem dX0_findLender_109 : decode cX0_findLender 109 = .ok (.iinc 7 1, 3) := by decide +kernel
theorem dX0_findLender_112 : decode cX0_findLender 112 = .ok (.goto (-99), 3) := by decide +kernel
theorem dX0_findLender_115 : decode cX0_findLender 115 = .ok (.iload 4, 2) := by decide +kernel
theorem dX0_findLender_117 : decode cX0_findLender 117 = .ok (.ireturn, 1) := by decide +kernel
theorem dX0_pay_0 : decode cX0_pay 0 = .ok (.iconst 0, 1) := by decide +kernel
theorem dX0_pay_1 : decode cX0_pay 1 = .ok (.istore 5, 2) := by decide +kernel
theorem dX0_pay_3 : decode cX0_pay 3 = .ok (.iload_n 2, 1) := by decide +kernel
theorem dX0_pay_4 : decode cX0_pay 4 = .ok (.istore 6, 2) := by decide +kernel
theorem dX0_pay_6 : decode cX0_pay 6 = .ok (.iconst 0, 1) := by decide +kernel
theorem dX0_pay_7 : decode cX0_pay 7 = .ok (.istore 7, 2) := by decide +kernel
theorem dX0_pay_9 : decode cX0_pay 9 = .ok (.iload 7, 2) := by decide +kernel
theorem dX0_pay_11 : decode cX0_pay 11 = .ok (.bipush 12, 2) := by decide +kernel
theorem dX0_pay_13 : decode cX0_pay 13 = .ok (.if_icmp .ge 103, 3) := by decide +kernel
theorem dX0_pay_16 : decode cX0_pay 16 = .ok (.aload_n 1, 1) := by decide +kernel
theorem dX0_pay_17 : decode cX0_pay 17 = .ok (.iload 6, 2) := by decide +kernel
theorem dX0_pay_19 : decode cX0_pay 19 = .ok (.invokevirtual 46, 3) := by decide +kernel
theorem dX0_pay_22 : decode cX0_pay 22 = .ok (.ifCond .eq 94, 3) := by decide +kernel
theorem dX0_pay_25 : decode cX0_pay 25 = .ok (.aload_n 0, 1) := by decide +kernel
theorem dX0_pay_26 : decode cX0_pay 26 = .ok (.getfield 18, 3) := by decide +kernel
theorem dX0_pay_29 : decode cX0_pay 29 = .ok (.iload 6, 2) := by decide +kernel
theorem dX0_pay_31 : decode cX0_pay 31 = .ok (.dup2, 1) := by decide +kernel
theorem dX0_pay_32 : decode cX0_pay 32 = .ok (.iaload, 1) := by decide +kernel
theorem dX0_pay_33 : decode cX0_pay 33 = .ok (.iload 4, 2) := by decide +kernel
theorem dX0_pay_35 : decode cX0_pay 35 = .ok (.isub, 1) := by decide +kernel
theorem dX0_pay_36 : decode cX0_pay 36 = .ok (.iastore, 1) := by decide +kernel
theorem dX0_pay_37 : decode cX0_pay 37 = .ok (.iload 5, 2) := by decide +kernel
theorem dX0_pay_39 : decode cX0_pay 39 = .ok (.ifCond .ne 9, 3) := by decide +kernel
theorem dX0_pay_42 : decode cX0_pay 42 = .ok (.iload 6, 2) := by decide +kernel
theorem dX0_pay_44 : decode cX0_pay 44 = .ok (.iload_n 3, 1) := by decide +kernel
theorem dX0_pay_45 : decode cX0_pay 45 = .ok (.if_icmp .ne 56, 3) := by decide +kernel
theorem dX0_pay_48 : decode cX0_pay 48 = .ok (.aload_n 0, 1) := by decide +kernel
theorem dX0_pay_49 : decode cX0_pay 49 = .ok (.getfield 9, 3) := by decide +kernel
theorem dX0_pay_52 : decode cX0_pay 52 = .ok (.iload 6, 2) := by decide +kernel
theorem dX0_pay_54 : decode cX0_pay 54 = .ok (.iaload, 1) := by decide +kernel
theorem dX0_pay_55 : decode cX0_pay 55 = .ok (.iload 4, 2) := by decide +kernel
theorem dX0_pay_57 : decode cX0_pay 57 = .ok (.invokestatic 43, 3) := by decide +kernel
theorem dX0_pay_60 : decode cX0_pay 60 = .ok (.istore 8, 2) := by decide +kernel
theorem dX0_pay_62 : decode cX0_pay 62 = .ok (.aload_n 0, 1) := by decide +kernel
theorem dX0_pay_63 : decode cX0_pay 63 = .ok (.getfield 9, 3) := by decide +kernel
theorem dX0_pay_66 : decode cX0_pay 66 = .ok (.iload 6, 2) := by decide +kernel
theorem dX0_pay_68 : decode cX0_pay 68 = .ok (.dup2, 1) := by decide +kernel
theorem dX0_pay_69 : decode cX0_pay 69 = .ok (.iaload, 1) := by decide +kernel
theorem dX0_pay_70 : decode cX0_pay 70 = .ok (.iload 8, 2) := by decide +kernel
theorem dX0_pay_72 : decode cX0_pay 72 = .ok (.isub, 1) := by decide +kernel
theorem dX0_pay_73 : decode cX0_pay 73 = .ok (.iastore, 1) := by decide +kernel
theorem dX0_pay_74 : decode cX0_pay 74 = .ok (.aload_n 0, 1) := by decide +kernel
theorem dX0_pay_75 : decode cX0_pay 75 = .ok (.getfield 15, 3) := by decide +kernel
theorem dX0_pay_78 : decode cX0_pay 78 = .ok (.iload 6, 2) := by decide +kernel
theorem dX0_pay_80 : decode cX0_pay 80 = .ok (.dup2, 1) := by decide +kernel
theorem dX0_pay_81 : decode cX0_pay 81 = .ok (.iaload, 1) := by decide +kernel
theorem dX0_pay_82 : decode cX0_pay 82 = .ok (.iload 5, 2) := by decide +kernel
theorem dX0_pay_84 : decode cX0_pay 84 = .ok (.ifCond .eq 7, 3) := by decide +kernel
theorem dX0_pay_87 : decode cX0_pay 87 = .ok (.iconst 0, 1) := by decide +kernel
theorem dX0_pay_88 : decode cX0_pay 88 = .ok (.goto 8, 3) := by decide +kernel
theorem dX0_pay_91 : decode cX0_pay 91 = .ok (.iload 4, 2) := by decide +kernel
theorem dX0_pay_93 : decode cX0_pay 93 = .ok (.iload 8, 2) := by decide +kernel
theorem dX0_pay_95 : decode cX0_pay 95 = .ok (.isub, 1) := by decide +kernel
theorem dX0_pay_96 : decode cX0_pay 96 = .ok (.isub, 1) := by decide +kernel
theorem dX0_pay_97 : decode cX0_pay 97 = .ok (.iastore, 1) := by decide +kernel
theorem dX0_pay_98 : decode cX0_pay 98 = .ok (.iconst 1, 1) := by decide +kernel
theorem dX0_pay_99 : decode cX0_pay 99 = .ok (.istore 5, 2) := by decide +kernel
theorem dX0_pay_101 : decode cX0_pay 101 = .ok (.aload_n 1, 1) := by decide +kernel
theorem dX0_pay_102 : decode cX0_pay 102 = .ok (.getfield 50, 3) := by decide +kernel
theorem dX0_pay_105 : decode cX0_pay 105 = .ok (.iload 6, 2) := by decide +kernel
theorem dX0_pay_107 : decode cX0_pay 107 = .ok (.iaload, 1) := by decide +kernel
theorem dX0_pay_108 : decode cX0_pay 108 = .ok (.istore 6, 2) := by decide +kernel
theorem dX0_pay_110 : decode cX0_pay 110 = .ok (.iinc 7 1, 3) := by decide +kernel
theorem dX0_pay_113 : decode cX0_pay 113 = .ok (.goto (-104), 3) := by decide +kernel
theorem dX0_pay_116 : decode cX0_pay 116 = .ok (.return_, 1) := by decide +kernel
theorem dX0_payOften_0 : decode cX0_payOften 0 = .ok (.iconst 0, 1) := by decide +kernel
theorem dX0_payOften_1 : decode cX0_payOften 1 = .ok (.istore 4, 2) := by decide +kernel
theorem dX0_payOften_3 : decode cX0_payOften 3 = .ok (.iload 4, 2) := by decide +kernel
theorem dX0_payOften_5 : decode cX0_payOften 5 = .ok (.sipush 999, 3) := by decide +kernel
theorem dX0_payOften_8 : decode cX0_payOften 8 = .ok (.if_icmp .ge 37, 3) := by decide +kernel
theorem dX0_payOften_11 : decode cX0_payOften 11 = .ok (.aload_n 0, 1) := by decide +kernel
theorem dX0_payOften_12 : decode cX0_payOften 12 = .ok (.aload_n 1, 1) := by decide +kernel
theorem dX0_payOften_13 : decode cX0_payOften 13 = .ok (.iload_n 2, 1) := by decide +kernel
theorem dX0_payOften_14 : decode cX0_payOften 14 = .ok (.iload_n 3, 1) := by decide +kernel
theorem dX0_payOften_15 : decode cX0_payOften 15 = .ok (.invokevirtual 57, 3) := by decide +kernel
theorem dX0_payOften_18 : decode cX0_payOften 18 = .ok (.istore 5, 2) := by decide +kernel
theorem dX0_payOften_20 : decode cX0_payOften 20 = .ok (.iload 5, 2) := by decide +kernel
theorem dX0_payOften_22 : decode cX0_payOften 22 = .ok (.bipush (-2), 2) := by decide +kernel
theorem dX0_payOften_24 : decode cX0_payOften 24 = .ok (.if_icmp .ne 6, 3) := by decide +kernel
theorem dX0_payOften_27 : decode cX0_payOften 27 = .ok (.iload 4, 2) := by decide +kernel
theorem dX0_payOften_29 : decode cX0_payOften 29 = .ok (.ireturn, 1) := by decide +kernel
theorem dX0_payOften_30 : decode cX0_payOften 30 = .ok (.aload_n 0, 1) := by decide +kernel
theorem dX0_payOften_31 : decode cX0_payOften 31 = .ok (.aload_n 1, 1) := by decide +kernel
theorem dX0_payOften_32 : decode cX0_payOften 32 = .ok (.iload_n 2, 1) := by decide +kernel
theorem dX0_payOften_33 : decode cX0_payOften 33 = .ok (.iload 5, 2) := by decide +kernel
theorem dX0_payOften_35 : decode cX0_payOften 35 = .ok (.iload_n 3, 1) := by decide +kernel
theorem dX0_payOften_36 : decode cX0_payOften 36 = .ok (.invokevirtual 61, 3) := by decide +kernel
theorem dX0_payOften_39 : decode cX0_payOften 39 = .ok (.iinc 4 1, 3) := by decide +kernel
theorem dX0_payOften_42 : decode cX0_payOften 42 = .ok (.goto (-39), 3) := by decide +kernel
theorem dX0_payOften_45 : decode cX0_payOften 45 = .ok (.sipush 999, 3) := by decide +kernel
theorem dX0_payOften_48 : decode cX0_payOften 48 = .ok (.ireturn, 1) := by decide +kernel
theorem dX1_init_0 : decode cX1_init 0 = .ok (.aload_n 0, 1) := by decide +kernel
theorem dX1_init_1 : decode cX1_init 1 = .ok (.invokespecial 3, 3) := by decide +kernel
theorem dX1_init_4 : decode cX1_init 4 = .ok (.aload_n 0, 1) := by decide +kernel
theorem dX1_init_5 : decode cX1_init 5 = .ok (.bipush 12, 2) := by decide +kernel
theorem dX1_init_7 : decode cX1_init 7 = .ok (.newarray .int, 2) := by decide +kernel
theorem dX1_init_9 : decode cX1_init 9 = .ok (.putfield 9, 3) := by decide +kernel
theorem dX1_init_12 : decode cX1_init 12 = .ok (.aload_n 0, 1) := by decide +kernel
theorem dX1_init_13 : decode cX1_init 13 = .ok (.bipush 12, 2) := by decide +kernel
theorem dX1_init_15 : decode cX1_init 15 = .ok (.newarray .int, 2) := by decide +kernel
theorem dX1_init_17 : decode cX1_init 17 = .ok (.putfield 15, 3) := by decide +kernel
theorem dX1_init_20 : decode cX1_init 20 = .ok (.aload_n 0, 1) := by decide +kernel
theorem dX1_init_21 : decode cX1_init 21 = .ok (.bipush 12, 2) := by decide +kernel
theorem dX1_init_23 : decode cX1_init 23 = .ok (.newarray .int, 2) := by decide +kernel
theorem dX1_init_25 : decode cX1_init 25 = .ok (.putfield 18, 3) := by decide +kernel
theorem dX1_init_28 : decode cX1_init 28 = .ok (.aload_n 0, 1) := by decide +kernel
theorem dX1_init_29 : decode cX1_init 29 = .ok (.bipush 12, 2) := by decide +kernel
theorem dX1_init_31 : decode cX1_init 31 = .ok (.newarray .int, 2) := by decide +kernel
theorem dX1_init_33 : decode cX1_init 33 = .ok (.putfield 21, 3) := by decide +kernel
theorem dX1_init_36 : decode cX1_init 36 = .ok (.return_, 1) := by decide +kernel
theorem dX1_add_0 : decode cX1_add 0 = .ok (.aload_n 0, 1) := by decide +kernel
theorem dX1_add_1 : decode cX1_add 1 = .ok (.getfield 24, 3) := by decide +kernel
theorem dX1_add_4 : decode cX1_add 4 = .ok (.bipush 12, 2) := by decide +kernel
theorem dX1_add_6 : decode cX1_add 6 = .ok (.if_icmp .lt 4, 3) := by decide +kernel
theorem dX1_add_9 : decode cX1_add 9 = .ok (.return_, 1) := by decide +kernel
theorem dX1_add_10 : decode cX1_add 10 = .ok (.aload_n 0, 1) := by decide +kernel
theorem dX1_add_11 : decode cX1_add 11 = .ok (.getfield 9, 3) := by decide +kernel
theorem dX1_add_14 : decode cX1_add 14 = .ok (.aload_n 0, 1) := by decide +kernel
theorem dX1_add_15 : decode cX1_add 15 = .ok (.getfield 24, 3) := by decide +kernel
theorem dX1_add_18 : decode cX1_add 18 = .ok (.iload_n 1, 1) := by decide +kernel
theorem dX1_add_19 : decode cX1_add 19 = .ok (.iastore, 1) := by decide +kernel
theorem dX1_add_20 : decode cX1_add 20 = .ok (.aload_n 0, 1) := by decide +kernel
theorem dX1_add_21 : decode cX1_add 21 = .ok (.getfield 15, 3) := by decide +kernel
theorem dX1_add_24 : decode cX1_add 24 = .ok (.aload_n 0, 1) := by decide +kernel
theorem dX1_add_25 : decode cX1_add 25 = .ok (.getfield 24, 3) := by decide +kernel
theorem dX1_add_28 : decode cX1_add 28 = .ok (.iload_n 2, 1) := by decide +kernel
theorem dX1_add_29 : decode cX1_add 29 = .ok (.iastore, 1) := by decide +kernel
theorem dX1_add_30 : decode cX1_add 30 = .ok (.aload_n 0, 1) := by decide +kernel
theorem dX1_add_31 : decode cX1_add 31 = .ok (.getfield 18, 3) := by decide +kernel
theorem dX1_add_34 : decode cX1_add 34 = .ok (.aload_n 0, 1) := by decide +kernel
theorem dX1_add_35 : decode cX1_add 35 = .ok (.getfield 24, 3) := by decide +kernel
theorem dX1_add_38 : decode cX1_add 38 = .ok (.iload_n 3, 1) := by decide +kernel
theorem dX1_add_39 : decode cX1_add 39 = .ok (.iastore, 1) := by decide +kernel
theorem dX1_add_40 : decode cX1_add 40 = .ok (.aload_n 0, 1) := by decide +kernel
theorem dX1_add_41 : decode cX1_add 41 = .ok (.getfield 21, 3) := by decide +kernel
theorem dX1_add_44 : decode cX1_add 44 = .ok (.aload_n 0, 1) := by decide +kernel
theorem dX1_add_45 : decode cX1_add 45 = .ok (.getfield 24, 3) := by decide +kernel
theorem dX1_add_48 : decode cX1_add 48 = .ok (.iload 4, 2) := by decide +kernel
theorem dX1_add_50 : decode cX1_add 50 = .ok (.iastore, 1) := by decide +kernel
theorem dX1_add_51 : decode cX1_add 51 = .ok (.aload_n 0, 1) := by decide +kernel
theorem dX1_add_52 : decode cX1_add 52 = .ok (.dup, 1) := by decide +kernel
theorem dX1_add_53 : decode cX1_add 53 = .ok (.getfield 24, 3) := by decide +kernel
theorem dX1_add_56 : decode cX1_add 56 = .ok (.iconst 1, 1) := by decide +kernel
theorem dX1_add_57 : decode cX1_add 57 = .ok (.iadd, 1) := by decide +kernel
theorem dX1_add_58 : decode cX1_add 58 = .ok (.putfield 24, 3) := by decide +kernel
theorem dX1_add_61 : decode cX1_add 61 = .ok (.return_, 1) := by decide +kernel
theorem dX2_init_0 : decode cX2_init 0 = .ok (.aload_n 0, 1) := by decide +kernel
theorem dX2_init_1 : decode cX2_init 1 = .ok (.invokespecial 3, 3) := by decide +kernel
theorem dX2_init_4 : decode cX2_init 4 = .ok (.aload_n 0, 1) := by decide +kernel
theorem dX2_init_5 : decode cX2_init 5 = .ok (.bipush 12, 2) := by decide +kernel
theorem dX2_init_7 : decode cX2_init 7 = .ok (.newarray .int, 2) := by decide +kernel
theorem dX2_init_9 : decode cX2_init 9 = .ok (.putfield 9, 3) := by decide +kernel
theorem dX2_init_12 : decode cX2_init 12 = .ok (.aload_n 0, 1) := by decide +kernel
theorem dX2_init_13 : decode cX2_init 13 = .ok (.bipush 12, 2) := by decide +kernel
theorem dX2_init_15 : decode cX2_init 15 = .ok (.newarray .int, 2) := by decide +kernel
theorem dX2_init_17 : decode cX2_init 17 = .ok (.putfield 15, 3) := by decide +kernel
theorem dX2_init_20 : decode cX2_init 20 = .ok (.aload_n 0, 1) := by decide +kernel
theorem dX2_init_21 : decode cX2_init 21 = .ok (.bipush 12, 2) := by decide +kernel
theorem dX2_init_23 : decode cX2_init 23 = .ok (.newarray .int, 2) := by decide +kernel
theorem dX2_init_25 : decode cX2_init 25 = .ok (.putfield 18, 3) := by decide +kernel
theorem dX2_init_28 : decode cX2_init 28 = .ok (.aload_n 0, 1) := by decide +kernel
theorem dX2_init_29 : decode cX2_init 29 = .ok (.bipush 12, 2) := by decide +kernel
theorem dX2_init_31 : decode cX2_init 31 = .ok (.newarray .int, 2) := by decide +kernel
theorem dX2_init_33 : decode cX2_init 33 = .ok (.putfield 21, 3) := by decide +kernel
theorem dX2_init_36 : decode cX2_init 36 = .ok (.aload_n 0, 1) := by decide +kernel
theorem dX2_init_37 : decode cX2_init 37 = .ok (.bipush 12, 2) := by decide +kernel
theorem dX2_init_39 : decode cX2_init 39 = .ok (.newarray .int, 2) := by decide +kernel
theorem dX2_init_41 : decode cX2_init 41 = .ok (.putfield 24, 3) := by decide +kernel
theorem dX2_init_44 : decode cX2_init 44 = .ok (.return_, 1) := by decide +kernel
theorem dX2_begin_0 : decode cX2_begin 0 = .ok (.aload_n 0, 1) := by decide +kernel
theorem dX2_begin_1 : decode cX2_begin 1 = .ok (.getfield 9, 3) := by decide +kernel
theorem dX2_begin_4 : decode cX2_begin 4 = .ok (.invokestatic 27, 3) := by decide +kernel
theorem dX2_begin_7 : decode cX2_begin 7 = .ok (.aload_n 0, 1) := by decide +kernel
theorem dX2_begin_8 : decode cX2_begin 8 = .ok (.getfield 15, 3) := by decide +kernel
theorem dX2_begin_11 : decode cX2_begin 11 = .ok (.invokestatic 27, 3) := by decide +kernel
theorem dX2_begin_14 : decode cX2_begin 14 = .ok (.aload_n 0, 1) := by decide +kernel
theorem dX2_begin_15 : decode cX2_begin 15 = .ok (.getfield 18, 3) := by decide +kernel
theorem dX2_begin_18 : decode cX2_begin 18 = .ok (.invokestatic 27, 3) := by decide +kernel
theorem dX2_begin_21 : decode cX2_begin 21 = .ok (.aload_n 0, 1) := by decide +kernel
theorem dX2_begin_22 : decode cX2_begin 22 = .ok (.getfield 21, 3) := by decide +kernel
theorem dX2_begin_25 : decode cX2_begin 25 = .ok (.invokestatic 27, 3) := by decide +kernel
theorem dX2_begin_28 : decode cX2_begin 28 = .ok (.aload_n 0, 1) := by decide +kernel
theorem dX2_begin_29 : decode cX2_begin 29 = .ok (.getfield 24, 3) := by decide +kernel
theorem dX2_begin_32 : decode cX2_begin 32 = .ok (.invokestatic 27, 3) := by decide +kernel
theorem dX2_begin_35 : decode cX2_begin 35 = .ok (.return_, 1) := by decide +kernel
theorem dX2_countSent_0 : decode cX2_countSent 0 = .ok (.aload_n 0, 1) := by decide +kernel
theorem dX2_countSent_1 : decode cX2_countSent 1 = .ok (.getfield 9, 3) := by decide +kernel
theorem dX2_countSent_4 : decode cX2_countSent 4 = .ok (.iload_n 1, 1) := by decide +kernel
theorem dX2_countSent_5 : decode cX2_countSent 5 = .ok (.dup2, 1) := by decide +kernel
theorem dX2_countSent_6 : decode cX2_countSent 6 = .ok (.iaload, 1) := by decide +kernel
theorem dX2_countSent_7 : decode cX2_countSent 7 = .ok (.iload_n 3, 1) := by decide +kernel
theorem dX2_countSent_8 : decode cX2_countSent 8 = .ok (.iadd, 1) := by decide +kernel
theorem dX2_countSent_9 : decode cX2_countSent 9 = .ok (.iastore, 1) := by decide +kernel
theorem dX2_countSent_10 : decode cX2_countSent 10 = .ok (.aload_n 0, 1) := by decide +kernel
theorem dX2_countSent_11 : decode cX2_countSent 11 = .ok (.getfield 15, 3) := by decide +kernel
theorem dX2_countSent_14 : decode cX2_countSent 14 = .ok (.iload_n 1, 1) := by decide +kernel
theorem dX2_countSent_15 : decode cX2_countSent 15 = .ok (.dup2, 1) := by decide +kernel
theorem dX2_countSent_16 : decode cX2_countSent 16 = .ok (.iaload, 1) := by decide +kernel
theorem dX2_countSent_17 : decode cX2_countSent 17 = .ok (.iconst 1, 1) := by decide +kernel
theorem dX2_countSent_18 : decode cX2_countSent 18 = .ok (.iadd, 1) := by decide +kernel
theorem dX2_countSent_19 : decode cX2_countSent 19 = .ok (.iastore, 1) := by decide +kernel
theorem dX2_countSent_20 : decode cX2_countSent 20 = .ok (.iload_n 2, 1) := by decide +kernel
theorem dX2_countSent_21 : decode cX2_countSent 21 = .ok (.iload_n 1, 1) := by decide +kernel
theorem dX2_countSent_22 : decode cX2_countSent 22 = .ok (.if_icmp .eq 23, 3) := by decide +kernel
theorem dX2_countSent_25 : decode cX2_countSent 25 = .ok (.aload_n 0, 1) := by decide +kernel
theorem dX2_countSent_26 : decode cX2_countSent 26 = .ok (.getfield 18, 3) := by decide +kernel
theorem dX2_countSent_29 : decode cX2_countSent 29 = .ok (.iload_n 1, 1) := by decide +kernel
theorem dX2_countSent_30 : decode cX2_countSent 30 = .ok (.dup2, 1) := by decide +kernel
theorem dX2_countSent_31 : decode cX2_countSent 31 = .ok (.iaload, 1) := by decide +kernel
theorem dX2_countSent_32 : decode cX2_countSent 32 = .ok (.iload_n 3, 1) := by decide +kernel
theorem dX2_countSent_33 : decode cX2_countSent 33 = .ok (.iadd, 1) := by decide +kernel
theorem dX2_countSent_34 : decode cX2_countSent 34 = .ok (.iastore, 1) := by decide +kernel
theorem dX2_countSent_35 : decode cX2_countSent 35 = .ok (.aload_n 0, 1) := by decide +kernel
theorem dX2_countSent_36 : decode cX2_countSent 36 = .ok (.getfield 21, 3) := by decide +kernel
theorem dX2_countSent_39 : decode cX2_countSent 39 = .ok (.iload_n 2, 1) := by decide +kernel
theorem dX2_countSent_40 : decode cX2_countSent 40 = .ok (.dup2, 1) := by decide +kernel
theorem dX2_countSent_41 : decode cX2_countSent 41 = .ok (.iaload, 1) := by decide +kernel
theorem dX2_countSent_42 : decode cX2_countSent 42 = .ok (.iload_n 3, 1) := by decide +kernel
theorem dX2_countSent_43 : decode cX2_countSent 43 = .ok (.iadd, 1) := by decide +kernel
theorem dX2_countSent_44 : decode cX2_countSent 44 = .ok (.iastore, 1) := by decide +kernel
theorem dX2_countSent_45 : decode cX2_countSent 45 = .ok (.return_, 1) := by decide +kernel
theorem dX3_init_0 : decode cX3_init 0 = .ok (.aload_n 0, 1) := by decide +kernel
theorem dX3_init_1 : decode cX3_init 1 = .ok (.invokespecial 3, 3) := by decide +kernel
theorem dX3_init_4 : decode cX3_init 4 = .ok (.aload_n 0, 1) := by decide +kernel
theorem dX3_init_5 : decode cX3_init 5 = .ok (.bipush 24, 2) := by decide +kernel
theorem dX3_init_7 : decode cX3_init 7 = .ok (.newarray .int, 2) := by decide +kernel
theorem dX3_init_9 : decode cX3_init 9 = .ok (.putfield 9, 3) := by decide +kernel
theorem dX3_init_12 : decode cX3_init 12 = .ok (.aload_n 0, 1) := by decide +kernel
theorem dX3_init_13 : decode cX3_init 13 = .ok (.bipush 24, 2) := by decide +kernel
theorem dX3_init_15 : decode cX3_init 15 = .ok (.newarray .int, 2) := by decide +kernel
theorem dX3_init_17 : decode cX3_init 17 = .ok (.putfield 15, 3) := by decide +kernel
theorem dX3_init_20 : decode cX3_init 20 = .ok (.aload_n 0, 1) := by decide +kernel
theorem dX3_init_21 : decode cX3_init 21 = .ok (.bipush 24, 2) := by decide +kernel
theorem dX3_init_23 : decode cX3_init 23 = .ok (.newarray .int, 2) := by decide +kernel
theorem dX3_init_25 : decode cX3_init 25 = .ok (.putfield 18, 3) := by decide +kernel
theorem dX3_init_28 : decode cX3_init 28 = .ok (.aload_n 0, 1) := by decide +kernel
theorem dX3_init_29 : decode cX3_init 29 = .ok (.bipush 24, 2) := by decide +kernel
theorem dX3_init_31 : decode cX3_init 31 = .ok (.newarray .int, 2) := by decide +kernel
theorem dX3_init_33 : decode cX3_init 33 = .ok (.putfield 21, 3) := by decide +kernel
theorem dX3_init_36 : decode cX3_init 36 = .ok (.return_, 1) := by decide +kernel
theorem dX3_add_0 : decode cX3_add 0 = .ok (.aload_n 0, 1) := by decide +kernel
theorem dX3_add_1 : decode cX3_add 1 = .ok (.getfield 9, 3) := by decide +kernel
theorem dX3_add_4 : decode cX3_add 4 = .ok (.iload_n 1, 1) := by decide +kernel
theorem dX3_add_5 : decode cX3_add 5 = .ok (.invokestatic 32, 3) := by decide +kernel
theorem dX3_add_8 : decode cX3_add 8 = .ok (.aload_n 0, 1) := by decide +kernel
theorem dX3_add_9 : decode cX3_add 9 = .ok (.getfield 15, 3) := by decide +kernel
theorem dX3_add_12 : decode cX3_add 12 = .ok (.iload_n 2, 1) := by decide +kernel
theorem dX3_add_13 : decode cX3_add 13 = .ok (.invokestatic 32, 3) := by decide +kernel
theorem dX3_add_16 : decode cX3_add 16 = .ok (.aload_n 0, 1) := by decide +kernel
theorem dX3_add_17 : decode cX3_add 17 = .ok (.getfield 18, 3) := by decide +kernel
theorem dX3_add_20 : decode cX3_add 20 = .ok (.iload_n 3, 1) := by decide +kernel
theorem dX3_add_21 : decode cX3_add 21 = .ok (.invokestatic 32, 3) := by decide +kernel
theorem dX3_add_24 : decode cX3_add 24 = .ok (.aload_n 0, 1) := by decide +kernel
theorem dX3_add_25 : decode cX3_add 25 = .ok (.getfield 21, 3) := by decide +kernel
theorem dX3_add_28 : decode cX3_add 28 = .ok (.iload 4, 2) := by decide +kernel
theorem dX3_add_30 : decode cX3_add 30 = .ok (.invokestatic 32, 3) := by decide +kernel
theorem dX3_add_33 : decode cX3_add 33 = .ok (.aload_n 0, 1) := by decide +kernel
theorem dX3_add_34 : decode cX3_add 34 = .ok (.bipush 24, 2) := by decide +kernel
theorem dX3_add_36 : decode cX3_add 36 = .ok (.aload_n 0, 1) := by decide +kernel
theorem dX3_add_37 : decode cX3_add 37 = .ok (.getfield 24, 3) := by decide +kernel
theorem dX3_add_40 : decode cX3_add 40 = .ok (.iconst 1, 1) := by decide +kernel
theorem dX3_add_41 : decode cX3_add 41 = .ok (.iadd, 1) := by decide +kernel
theorem dX3_add_42 : decode cX3_add 42 = .ok (.invokestatic 36, 3) := by decide +kernel
theorem dX3_add_45 : decode cX3_add 45 = .ok (.putfield 24, 3) := by decide +kernel
theorem dX3_add_48 : decode cX3_add 48 = .ok (.return_, 1) := by decide +kernel
theorem dX3_putFirst_0 : decode cX3_putFirst 0 = .ok (.aload_n 0, 1) := by decide +kernel
theorem dX3_putFirst_1 : decode cX3_putFirst 1 = .ok (.iconst 0, 1) := by decide +kernel
theorem dX3_putFirst_2 : decode cX3_putFirst 2 = .ok (.aload_n 0, 1) := by decide +kernel
theorem dX3_putFirst_3 : decode cX3_putFirst 3 = .ok (.iconst 1, 1) := by decide +kernel
theorem dX3_putFirst_4 : decode cX3_putFirst 4 = .ok (.bipush 23, 2) := by decide +kernel
theorem dX3_putFirst_6 : decode cX3_putFirst 6 = .ok (.invokestatic 42, 3) := by decide +kernel
theorem dX3_putFirst_9 : decode cX3_putFirst 9 = .ok (.aload_n 0, 1) := by decide +kernel
theorem dX3_putFirst_10 : decode cX3_putFirst 10 = .ok (.iconst 0, 1) := by decide +kernel
theorem dX3_putFirst_11 : decode cX3_putFirst 11 = .ok (.iload_n 1, 1) := by decide +kernel
theorem dX3_putFirst_12 : decode cX3_putFirst 12 = .ok (.iastore, 1) := by decide +kernel
theorem dX3_putFirst_13 : decode cX3_putFirst 13 = .ok (.return_, 1) := by decide +kernel
theorem dX4_init_0 : decode cX4_init 0 = .ok (.aload_n 0, 1) := by decide +kernel
theorem dX4_init_1 : decode cX4_init 1 = .ok (.invokespecial 3, 3) := by decide +kernel
theorem dX4_init_4 : decode cX4_init 4 = .ok (.aload_n 0, 1) := by decide +kernel
theorem dX4_init_5 : decode cX4_init 5 = .ok (.bipush 12, 2) := by decide +kernel
theorem dX4_init_7 : decode cX4_init 7 = .ok (.newarray .int, 2) := by decide +kernel
theorem dX4_init_9 : decode cX4_init 9 = .ok (.putfield 9, 3) := by decide +kernel
theorem dX4_init_12 : decode cX4_init 12 = .ok (.aload_n 0, 1) := by decide +kernel
theorem dX4_init_13 : decode cX4_init 13 = .ok (.sipush 192, 3) := by decide +kernel
theorem dX4_init_16 : decode cX4_init 16 = .ok (.newarray .int, 2) := by decide +kernel
theorem dX4_init_18 : decode cX4_init 18 = .ok (.putfield 15, 3) := by decide +kernel
theorem dX4_init_21 : decode cX4_init 21 = .ok (.aload_n 0, 1) := by decide +kernel
theorem dX4_init_22 : decode cX4_init 22 = .ok (.sipush 192, 3) := by decide +kernel
theorem dX4_init_25 : decode cX4_init 25 = .ok (.newarray .int, 2) := by decide +kernel
theorem dX4_init_27 : decode cX4_init 27 = .ok (.putfield 18, 3) := by decide +kernel
theorem dX4_init_30 : decode cX4_init 30 = .ok (.aload_n 0, 1) := by decide +kernel
theorem dX4_init_31 : decode cX4_init 31 = .ok (.sipush 192, 3) := by decide +kernel
theorem dX4_init_34 : decode cX4_init 34 = .ok (.newarray .int, 2) := by decide +kernel
theorem dX4_init_36 : decode cX4_init 36 = .ok (.putfield 21, 3) := by decide +kernel
theorem dX4_init_39 : decode cX4_init 39 = .ok (.return_, 1) := by decide +kernel
theorem dX4_begin_0 : decode cX4_begin 0 = .ok (.aload_n 0, 1) := by decide +kernel
theorem dX4_begin_1 : decode cX4_begin 1 = .ok (.getfield 9, 3) := by decide +kernel
theorem dX4_begin_4 : decode cX4_begin 4 = .ok (.invokestatic 24, 3) := by decide +kernel
theorem dX4_begin_7 : decode cX4_begin 7 = .ok (.aload_n 0, 1) := by decide +kernel
theorem dX4_begin_8 : decode cX4_begin 8 = .ok (.iconst 0, 1) := by decide +kernel
theorem dX4_begin_9 : decode cX4_begin 9 = .ok (.putfield 28, 3) := by decide +kernel
theorem dX4_begin_12 : decode cX4_begin 12 = .ok (.return_, 1) := by decide +kernel
theorem dX4_removeFront_0 : decode cX4_removeFront 0 = .ok (.aload_n 0, 1) := by decide +kernel
theorem dX4_removeFront_1 : decode cX4_removeFront 1 = .ok (.getfield 9, 3) := by decide +kernel
theorem dX4_removeFront_4 : decode cX4_removeFront 4 = .ok (.iload_n 1, 1) := by decide +kernel
theorem dX4_removeFront_5 : decode cX4_removeFront 5 = .ok (.iaload, 1) := by decide +kernel
theorem dX4_removeFront_6 : decode cX4_removeFront 6 = .ok (.iconst 1, 1) := by decide +kernel
theorem dX4_removeFront_7 : decode cX4_removeFront 7 = .ok (.if_icmp .ge 4, 3) := by decide +kernel
theorem dX4_removeFront_10 : decode cX4_removeFront 10 = .ok (.return_, 1) := by decide +kernel
theorem dX4_removeFront_11 : decode cX4_removeFront 11 = .ok (.aload_n 0, 1) := by decide +kernel
theorem dX4_removeFront_12 : decode cX4_removeFront 12 = .ok (.getfield 9, 3) := by decide +kernel
theorem dX4_removeFront_15 : decode cX4_removeFront 15 = .ok (.iload_n 1, 1) := by decide +kernel
theorem dX4_removeFront_16 : decode cX4_removeFront 16 = .ok (.dup2, 1) := by decide +kernel
theorem dX4_removeFront_17 : decode cX4_removeFront 17 = .ok (.iaload, 1) := by decide +kernel
theorem dX4_removeFront_18 : decode cX4_removeFront 18 = .ok (.iconst 1, 1) := by decide +kernel
theorem dX4_removeFront_19 : decode cX4_removeFront 19 = .ok (.isub, 1) := by decide +kernel
theorem dX4_removeFront_20 : decode cX4_removeFront 20 = .ok (.iastore, 1) := by decide +kernel
theorem dX4_removeFront_21 : decode cX4_removeFront 21 = .ok (.aload_n 0, 1) := by decide +kernel
theorem dX4_removeFront_22 : decode cX4_removeFront 22 = .ok (.aload_n 0, 1) := by decide +kernel
theorem dX4_removeFront_23 : decode cX4_removeFront 23 = .ok (.getfield 15, 3) := by decide +kernel
theorem dX4_removeFront_26 : decode cX4_removeFront 26 = .ok (.iload_n 1, 1) := by decide +kernel
theorem dX4_removeFront_27 : decode cX4_removeFront 27 = .ok (.invokevirtual 36, 3) := by decide +kernel
theorem dX4_removeFront_30 : decode cX4_removeFront 30 = .ok (.aload_n 0, 1) := by decide +kernel
theorem dX4_removeFront_31 : decode cX4_removeFront 31 = .ok (.aload_n 0, 1) := by decide +kernel
theorem dX4_removeFront_32 : decode cX4_removeFront 32 = .ok (.getfield 18, 3) := by decide +kernel
theorem dX4_removeFront_35 : decode cX4_removeFront 35 = .ok (.iload_n 1, 1) := by decide +kernel
theorem dX4_removeFront_36 : decode cX4_removeFront 36 = .ok (.invokevirtual 36, 3) := by decide +kernel
theorem dX4_removeFront_39 : decode cX4_removeFront 39 = .ok (.aload_n 0, 1) := by decide +kernel
theorem dX4_removeFront_40 : decode cX4_removeFront 40 = .ok (.aload_n 0, 1) := by decide +kernel
theorem dX4_removeFront_41 : decode cX4_removeFront 41 = .ok (.getfield 21, 3) := by decide +kernel
theorem dX4_removeFront_44 : decode cX4_removeFront 44 = .ok (.iload_n 1, 1) := by decide +kernel
theorem dX4_removeFront_45 : decode cX4_removeFront 45 = .ok (.invokevirtual 36, 3) := by decide +kernel
theorem dX4_removeFront_48 : decode cX4_removeFront 48 = .ok (.return_, 1) := by decide +kernel
theorem dX4_moveUp_0 : decode cX4_moveUp 0 = .ok (.iload_n 2, 1) := by decide +kernel
theorem dX4_moveUp_1 : decode cX4_moveUp 1 = .ok (.bipush 16, 2) := by decide +kernel
theorem dX4_moveUp_3 : decode cX4_moveUp 3 = .ok (.imul, 1) := by decide +kernel
theorem dX4_moveUp_4 : decode cX4_moveUp 4 = .ok (.istore_n 3, 1) := by decide +kernel
theorem dX4_moveUp_5 : decode cX4_moveUp 5 = .ok (.aload_n 1, 1) := by decide +kernel
theorem dX4_moveUp_6 : decode cX4_moveUp 6 = .ok (.iload_n 3, 1) := by decide +kernel
theorem dX4_moveUp_7 : decode cX4_moveUp 7 = .ok (.iconst 1, 1) := by decide +kernel
theorem dX4_moveUp_8 : decode cX4_moveUp 8 = .ok (.iadd, 1) := by decide +kernel
theorem dX4_moveUp_9 : decode cX4_moveUp 9 = .ok (.aload_n 1, 1) := by decide +kernel
theorem dX4_moveUp_10 : decode cX4_moveUp 10 = .ok (.iload_n 3, 1) := by decide +kernel
theorem dX4_moveUp_11 : decode cX4_moveUp 11 = .ok (.bipush 15, 2) := by decide +kernel
theorem dX4_moveUp_13 : decode cX4_moveUp 13 = .ok (.invokestatic 40, 3) := by decide +kernel
theorem dX4_moveUp_16 : decode cX4_moveUp 16 = .ok (.return_, 1) := by decide +kernel
theorem dX5_init_0 : decode cX5_init 0 = .ok (.aload_n 0, 1) := by decide +kernel
theorem dX5_init_1 : decode cX5_init 1 = .ok (.invokespecial 3, 3) := by decide +kernel
theorem dX5_init_4 : decode cX5_init 4 = .ok (.aload_n 0, 1) := by decide +kernel
theorem dX5_init_5 : decode cX5_init 5 = .ok (.bipush (-2), 2) := by decide +kernel
theorem dX5_init_7 : decode cX5_init 7 = .ok (.putfield 9, 3) := by decide +kernel
theorem dX5_init_10 : decode cX5_init 10 = .ok (.aload_n 0, 1) := by decide +kernel
theorem dX5_init_11 : decode cX5_init 11 = .ok (.new 15, 3) := by decide +kernel
theorem dX5_init_14 : decode cX5_init 14 = .ok (.dup, 1) := by decide +kernel
theorem dX5_init_15 : decode cX5_init 15 = .ok (.invokespecial 17, 3) := by decide +kernel
theorem dX5_init_18 : decode cX5_init 18 = .ok (.putfield 18, 3) := by decide +kernel
theorem dX5_init_21 : decode cX5_init 21 = .ok (.aload_n 0, 1) := by decide +kernel
theorem dX5_init_22 : decode cX5_init 22 = .ok (.new 22, 3) := by decide +kernel
theorem dX5_init_25 : decode cX5_init 25 = .ok (.dup, 1) := by decide +kernel
theorem dX5_init_26 : decode cX5_init 26 = .ok (.invokespecial 24, 3) := by decide +kernel
theorem dX5_init_29 : decode cX5_init 29 = .ok (.putfield 25, 3) := by decide +kernel
theorem dX5_init_32 : decode cX5_init 32 = .ok (.return_, 1) := by decide +kernel
theorem dX5_read_0 : decode cX5_read 0 = .ok (.aload_n 0, 1) := by decide +kernel
theorem dX5_read_1 : decode cX5_read 1 = .ok (.invokevirtual 29, 3) := by decide +kernel
theorem dX5_read_4 : decode cX5_read 4 = .ok (.iconst 0, 1) := by decide +kernel
theorem dX5_read_5 : decode cX5_read 5 = .ok (.istore_n 2, 1) := by decide +kernel
theorem dX5_read_6 : decode cX5_read 6 = .ok (.iload_n 2, 1) := by decide +kernel
theorem dX5_read_7 : decode cX5_read 7 = .ok (.sipush 900, 3) := by decide +kernel
theorem dX5_read_10 : decode cX5_read 10 = .ok (.if_icmp .gt 62, 3) := by decide +kernel
theorem dX5_read_13 : decode cX5_read 13 = .ok (.aload_n 0, 1) := by decide +kernel
theorem dX5_read_14 : decode cX5_read 14 = .ok (.getfield 25, 3) := by decide +kernel
theorem dX5_read_17 : decode cX5_read 17 = .ok (.aload_n 1, 1) := by decide +kernel
theorem dX5_read_18 : decode cX5_read 18 = .ok (.invokevirtual 32, 3) := by decide +kernel
theorem dX5_read_21 : decode cX5_read 21 = .ok (.aload_n 0, 1) := by decide +kernel
theorem dX5_read_22 : decode cX5_read 22 = .ok (.getfield 25, 3) := by decide +kernel
theorem dX5_read_25 : decode cX5_read 25 = .ok (.getfield 36, 3) := by decide +kernel
theorem dX5_read_28 : decode cX5_read 28 = .ok (.ifCond .ne 11, 3) := by decide +kernel
theorem dX5_read_31 : decode cX5_read 31 = .ok (.aload_n 0, 1) := by decide +kernel
theorem dX5_read_32 : decode cX5_read 32 = .ok (.getfield 39, 3) := by decide +kernel
theorem dX5_read_35 : decode cX5_read 35 = .ok (.ifCond .ne 4, 3) := by decide +kernel
theorem dX5_read_38 : decode cX5_read 38 = .ok (.return_, 1) := by decide +kernel
theorem dX5_read_39 : decode cX5_read 39 = .ok (.aload_n 0, 1) := by decide +kernel
theorem dX5_read_40 : decode cX5_read 40 = .ok (.aload_n 0, 1) := by decide +kernel
theorem dX5_read_41 : decode cX5_read 41 = .ok (.invokevirtual 42, 3) := by decide +kernel
theorem dX5_read_44 : decode cX5_read 44 = .ok (.putfield 46, 3) := by decide +kernel
theorem dX5_read_47 : decode cX5_read 47 = .ok (.aload_n 0, 1) := by decide +kernel
theorem dX5_read_48 : decode cX5_read 48 = .ok (.getfield 46, 3) := by decide +kernel
theorem dX5_read_51 : decode cX5_read 51 = .ok (.ifCond .eq 15, 3) := by decide +kernel
theorem dX5_read_54 : decode cX5_read 54 = .ok (.aload_n 0, 1) := by decide +kernel
theorem dX5_read_55 : decode cX5_read 55 = .ok (.aload_n 0, 1) := by decide +kernel
theorem dX5_read_56 : decode cX5_read 56 = .ok (.getfield 25, 3) := by decide +kernel
theorem dX5_read_59 : decode cX5_read 59 = .ok (.getfield 49, 3) := by decide +kernel
theorem dX5_read_62 : decode cX5_read 62 = .ok (.putfield 9, 3) := by decide +kernel
theorem dX5_read_65 : decode cX5_read 65 = .ok (.return_, 1) := by decide +kernel
theorem dX5_read_66 : decode cX5_read 66 = .ok (.iinc 2 1, 3) := by decide +kernel
theorem dX5_read_69 : decode cX5_read 69 = .ok (.goto (-63), 3) := by decide +kernel
theorem dX5_read_72 : decode cX5_read 72 = .ok (.return_, 1) := by decide +kernel
theorem dX5_begin_0 : decode cX5_begin 0 = .ok (.aload_n 0, 1) := by decide +kernel
theorem dX5_begin_1 : decode cX5_begin 1 = .ok (.iconst 0, 1) := by decide +kernel
theorem dX5_begin_2 : decode cX5_begin 2 = .ok (.putfield 46, 3) := by decide +kernel
theorem dX5_begin_5 : decode cX5_begin 5 = .ok (.aload_n 0, 1) := by decide +kernel
theorem dX5_begin_6 : decode cX5_begin 6 = .ok (.bipush (-2), 2) := by decide +kernel
theorem dX5_begin_8 : decode cX5_begin 8 = .ok (.putfield 9, 3) := by decide +kernel
theorem dX5_begin_11 : decode cX5_begin 11 = .ok (.aload_n 0, 1) := by decide +kernel
theorem dX5_begin_12 : decode cX5_begin 12 = .ok (.getfield 18, 3) := by decide +kernel
theorem dX5_begin_15 : decode cX5_begin 15 = .ok (.invokevirtual 52, 3) := by decide +kernel
theorem dX5_begin_18 : decode cX5_begin 18 = .ok (.aload_n 0, 1) := by decide +kernel
theorem dX5_begin_19 : decode cX5_begin 19 = .ok (.getfield 25, 3) := by decide +kernel
theorem dX5_begin_22 : decode cX5_begin 22 = .ok (.invokevirtual 55, 3) := by decide +kernel
theorem dX5_begin_25 : decode cX5_begin 25 = .ok (.aload_n 0, 1) := by decide +kernel
theorem dX5_begin_26 : decode cX5_begin 26 = .ok (.iconst 0, 1) := by decide +kernel
theorem dX5_begin_27 : decode cX5_begin 27 = .ok (.putfield 39, 3) := by decide +kernel
theorem dX5_begin_30 : decode cX5_begin 30 = .ok (.aload_n 0, 1) := by decide +kernel
theorem dX5_begin_31 : decode cX5_begin 31 = .ok (.iconst 0, 1) := by decide +kernel
theorem dX5_begin_32 : decode cX5_begin 32 = .ok (.putfield 56, 3) := by decide +kernel
theorem dX5_begin_35 : decode cX5_begin 35 = .ok (.return_, 1) := by decide +kernel
theorem dX5_take_0 : decode cX5_take 0 = .ok (.aload_n 0, 1) := by decide +kernel
theorem dX5_take_1 : decode cX5_take 1 = .ok (.getfield 39, 3) := by decide +kernel
theorem dX5_take_4 : decode cX5_take 4 = .ok (.tableswitch 124 0 11 #[64, 69, 74, 79, 84, 89, 94, 99, 104, 109, 114, 119], 64) := by decide +kernel
theorem dX5_take_68 : decode cX5_take 68 = .ok (.aload_n 0, 1) := by decide +kernel
theorem dX5_take_69 : decode cX5_take 69 = .ok (.invokevirtual 60, 3) := by decide +kernel
theorem dX5_take_72 : decode cX5_take 72 = .ok (.ireturn, 1) := by decide +kernel
theorem dX5_take_73 : decode cX5_take 73 = .ok (.aload_n 0, 1) := by decide +kernel
theorem dX5_take_74 : decode cX5_take 74 = .ok (.invokevirtual 63, 3) := by decide +kernel
theorem dX5_take_77 : decode cX5_take 77 = .ok (.ireturn, 1) := by decide +kernel
theorem dX5_take_78 : decode cX5_take 78 = .ok (.aload_n 0, 1) := by decide +kernel
theorem dX5_take_79 : decode cX5_take 79 = .ok (.invokevirtual 66, 3) := by decide +kernel
theorem dX5_take_82 : decode cX5_take 82 = .ok (.ireturn, 1) := by decide +kernel
theorem dX5_take_83 : decode cX5_take 83 = .ok (.aload_n 0, 1) := by decide +kernel
theorem dX5_take_84 : decode cX5_take 84 = .ok (.invokevirtual 69, 3) := by decide +kernel
theorem dX5_take_87 : decode cX5_take 87 = .ok (.ireturn, 1) := by decide +kernel
theorem dX5_take_88 : decode cX5_take 88 = .ok (.aload_n 0, 1) := by decide +kernel
theorem dX5_take_89 : decode cX5_take 89 = .ok (.invokevirtual 72, 3) := by decide +kernel
theorem dX5_take_92 : decode cX5_take 92 = .ok (.ireturn, 1) := by decide +kernel
theorem dX5_take_93 : decode cX5_take 93 = .ok (.aload_n 0, 1) := by decide +kernel
theorem dX5_take_94 : decode cX5_take 94 = .ok (.invokevirtual 75, 3) := by decide +kernel
theorem dX5_take_97 : decode cX5_take 97 = .ok (.ireturn, 1) := by decide +kernel
theorem dX5_take_98 : decode cX5_take 98 = .ok (.aload_n 0, 1) := by decide +kernel
theorem dX5_take_99 : decode cX5_take 99 = .ok (.invokevirtual 78, 3) := by decide +kernel
theorem dX5_take_102 : decode cX5_take 102 = .ok (.ireturn, 1) := by decide +kernel
theorem dX5_take_103 : decode cX5_take 103 = .ok (.aload_n 0, 1) := by decide +kernel
theorem dX5_take_104 : decode cX5_take 104 = .ok (.invokevirtual 81, 3) := by decide +kernel
theorem dX5_take_107 : decode cX5_take 107 = .ok (.ireturn, 1) := by decide +kernel
theorem dX5_take_108 : decode cX5_take 108 = .ok (.aload_n 0, 1) := by decide +kernel
theorem dX5_take_109 : decode cX5_take 109 = .ok (.invokevirtual 84, 3) := by decide +kernel
theorem dX5_take_112 : decode cX5_take 112 = .ok (.ireturn, 1) := by decide +kernel
theorem dX5_take_113 : decode cX5_take 113 = .ok (.aload_n 0, 1) := by decide +kernel
theorem dX5_take_114 : decode cX5_take 114 = .ok (.invokevirtual 87, 3) := by decide +kernel
theorem dX5_take_117 : decode cX5_take 117 = .ok (.ireturn, 1) := by decide +kernel
theorem dX5_take_118 : decode cX5_take 118 = .ok (.aload_n 0, 1) := by decide +kernel
theorem dX5_take_119 : decode cX5_take 119 = .ok (.invokevirtual 90, 3) := by decide +kernel
theorem dX5_take_122 : decode cX5_take 122 = .ok (.ireturn, 1) := by decide +kernel
theorem dX5_take_123 : decode cX5_take 123 = .ok (.aload_n 0, 1) := by decide +kernel
theorem dX5_take_124 : decode cX5_take 124 = .ok (.invokevirtual 93, 3) := by decide +kernel
theorem dX5_take_127 : decode cX5_take 127 = .ok (.ireturn, 1) := by decide +kernel
theorem dX5_take_128 : decode cX5_take 128 = .ok (.aload_n 0, 1) := by decide +kernel
theorem dX5_take_129 : decode cX5_take 129 = .ok (.invokevirtual 96, 3) := by decide +kernel
theorem dX5_take_132 : decode cX5_take 132 = .ok (.ireturn, 1) := by decide +kernel
theorem dX5_takeStatement_0 : decode cX5_takeStatement 0 = .ok (.aload_n 0, 1) := by decide +kernel
theorem dX5_takeStatement_1 : decode cX5_takeStatement 1 = .ok (.getfield 25, 3) := by decide +kernel
theorem dX5_takeStatement_4 : decode cX5_takeStatement 4 = .ok (.getfield 99, 3) := by decide +kernel
theorem dX5_takeStatement_7 : decode cX5_takeStatement 7 = .ok (.tableswitch 125 7 11 #[33, 125, 56, 75, 98], 33) := by decide +kernel
theorem dX5_takeStatement_40 : decode cX5_takeStatement 40 = .ok (.aload_n 0, 1) := by decide +kernel
theorem dX5_takeStatement_41 : decode cX5_takeStatement 41 = .ok (.iconst 1, 1) := by decide +kernel
theorem dX5_takeStatement_42 : decode cX5_takeStatement 42 = .ok (.putfield 39, 3) := by decide +kernel
theorem dX5_takeStatement_45 : decode cX5_takeStatement 45 = .ok (.aload_n 0, 1) := by decide +kernel
theorem dX5_takeStatement_46 : decode cX5_takeStatement 46 = .ok (.getfield 18, 3) := by decide +kernel
theorem dX5_takeStatement_49 : decode cX5_takeStatement 49 = .ok (.getfield 102, 3) := by decide +kernel
theorem dX5_takeStatement_52 : decode cX5_takeStatement 52 = .ok (.bipush 12, 2) := by decide +kernel
theorem dX5_takeStatement_54 : decode cX5_takeStatement 54 = .ok (.if_icmp .ne 7, 3) := by decide +kernel
theorem dX5_takeStatement_57 : decode cX5_takeStatement 57 = .ok (.iconst 5, 1) := by decide +kernel
theorem dX5_takeStatement_58 : decode cX5_takeStatement 58 = .ok (.goto 4, 3) := by decide +kernel
theorem dX5_takeStatement_61 : decode cX5_takeStatement 61 = .ok (.iconst 0, 1) := by decide +kernel
theorem dX5_takeStatement_62 : decode cX5_takeStatement 62 = .ok (.ireturn, 1) := by decide +kernel
theorem dX5_takeStatement_63 : decode cX5_takeStatement 63 = .ok (.aload_n 0, 1) := by decide +kernel
theorem dX5_takeStatement_64 : decode cX5_takeStatement 64 = .ok (.bipush 6, 2) := by decide +kernel
theorem dX5_takeStatement_66 : decode cX5_takeStatement 66 = .ok (.putfield 39, 3) := by decide +kernel
theorem dX5_takeStatement_69 : decode cX5_takeStatement 69 = .ok (.aload_n 0, 1) := by decide +kernel
theorem dX5_takeStatement_70 : decode cX5_takeStatement 70 = .ok (.getfield 56, 3) := by decide +kernel
theorem dX5_takeStatement_73 : decode cX5_takeStatement 73 = .ok (.ifCond .eq 7, 3) := by decide +kernel
theorem dX5_takeStatement_76 : decode cX5_takeStatement 76 = .ok (.iconst 4, 1) := by decide +kernel
theorem dX5_takeStatement_77 : decode cX5_takeStatement 77 = .ok (.goto 4, 3) := by decide +kernel
theorem dX5_takeStatement_80 : decode cX5_takeStatement 80 = .ok (.iconst 0, 1) := by decide +kernel
theorem dX5_takeStatement_81 : decode cX5_takeStatement 81 = .ok (.ireturn, 1) := by decide +kernel
theorem dX5_takeStatement_82 : decode cX5_takeStatement 82 = .ok (.aload_n 0, 1) := by decide +kernel
theorem dX5_takeStatement_83 : decode cX5_takeStatement 83 = .ok (.bipush 7, 2) := by decide +kernel
theorem dX5_takeStatement_85 : decode cX5_takeStatement 85 = .ok (.putfield 39, 3) := by decide +kernel
theorem dX5_takeStatement_88 : decode cX5_takeStatement 88 = .ok (.aload_n 0, 1) := by decide +kernel
theorem dX5_takeStatement_89 : decode cX5_takeStatement 89 = .ok (.getfield 18, 3) := by decide +kernel
theorem dX5_takeStatement_92 : decode cX5_takeStatement 92 = .ok (.getfield 105, 3) := by decide +kernel
theorem dX5_takeStatement_95 : decode cX5_takeStatement 95 = .ok (.iconst (-1), 1) := by decide +kernel
theorem dX5_takeStatement_96 : decode cX5_takeStatement 96 = .ok (.if_icmp .eq 7, 3) := by decide +kernel
theorem dX5_takeStatement_99 : decode cX5_takeStatement 99 = .ok (.iconst 4, 1) := by decide +kernel
theorem dX5_takeStatement_100 : decode cX5_takeStatement 100 = .ok (.goto 4, 3) := by decide +kernel
theorem dX5_takeStatement_103 : decode cX5_takeStatement 103 = .ok (.iconst 0, 1) := by decide +kernel
theorem dX5_takeStatement_104 : decode cX5_takeStatement 104 = .ok (.ireturn, 1) := by decide +kernel
theorem dX5_takeStatement_105 : decode cX5_takeStatement 105 = .ok (.aload_n 0, 1) := by decide +kernel
theorem dX5_takeStatement_106 : decode cX5_takeStatement 106 = .ok (.bipush 8, 2) := by decide +kernel
theorem dX5_takeStatement_108 : decode cX5_takeStatement 108 = .ok (.putfield 39, 3) := by decide +kernel
theorem dX5_takeStatement_111 : decode cX5_takeStatement 111 = .ok (.aload_n 0, 1) := by decide +kernel
theorem dX5_takeStatement_112 : decode cX5_takeStatement 112 = .ok (.getfield 18, 3) := by decide +kernel
theorem dX5_takeStatement_115 : decode cX5_takeStatement 115 = .ok (.getfield 108, 3) := by decide +kernel
theorem dX5_takeStatement_118 : decode cX5_takeStatement 118 = .ok (.getfield 112, 3) := by decide +kernel
theorem dX5_takeStatement_121 : decode cX5_takeStatement 121 = .ok (.bipush 12, 2) := by decide +kernel
theorem dX5_takeStatement_123 : decode cX5_takeStatement 123 = .ok (.if_icmp .ne 7, 3) := by decide +kernel
theorem dX5_takeStatement_126 : decode cX5_takeStatement 126 = .ok (.iconst 5, 1) := by decide +kernel
theorem dX5_takeStatement_127 : decode cX5_takeStatement 127 = .ok (.goto 4, 3) := by decide +kernel
theorem dX5_takeStatement_130 : decode cX5_takeStatement 130 = .ok (.iconst 0, 1) := by decide +kernel
theorem dX5_takeStatement_131 : decode cX5_takeStatement 131 = .ok (.ireturn, 1) := by decide +kernel
theorem dX5_takeStatement_132 : decode cX5_takeStatement 132 = .ok (.iconst 1, 1) := by decide +kernel
theorem dX5_takeStatement_133 : decode cX5_takeStatement 133 = .ok (.ireturn, 1) := by decide +kernel
theorem dX5_isName_0 : decode cX5_isName 0 = .ok (.aload_n 0, 1) := by decide +kernel
theorem dX5_isName_1 : decode cX5_isName 1 = .ok (.getfield 25, 3) := by decide +kernel
theorem dX5_isName_4 : decode cX5_isName 4 = .ok (.getfield 36, 3) := by decide +kernel
theorem dX5_isName_7 : decode cX5_isName 7 = .ok (.iconst 1, 1) := by decide +kernel
theorem dX5_isName_8 : decode cX5_isName 8 = .ok (.if_icmp .ne 18, 3) := by decide +kernel
theorem dX5_isName_11 : decode cX5_isName 11 = .ok (.aload_n 0, 1) := by decide +kernel
theorem dX5_isName_12 : decode cX5_isName 12 = .ok (.getfield 25, 3) := by decide +kernel
theorem dX5_isName_15 : decode cX5_isName 15 = .ok (.getfield 99, 3) := by decide +kernel
theorem dX5_isName_18 : decode cX5_isName 18 = .ok (.iconst (-1), 1) := by decide +kernel
theorem dX5_isName_19 : decode cX5_isName 19 = .ok (.if_icmp .ne 7, 3) := by decide +kernel
theorem dX5_isName_22 : decode cX5_isName 22 = .ok (.iconst 1, 1) := by decide +kernel
theorem dX5_isName_23 : decode cX5_isName 23 = .ok (.goto 4, 3) := by decide +kernel
theorem dX5_isName_26 : decode cX5_isName 26 = .ok (.iconst 0, 1) := by decide +kernel
theorem dX5_isName_27 : decode cX5_isName 27 = .ok (.ireturn, 1) := by decide +kernel
theorem dX5_takeNodeName_0 : decode cX5_takeNodeName 0 = .ok (.aload_n 0, 1) := by decide +kernel
theorem dX5_takeNodeName_1 : decode cX5_takeNodeName 1 = .ok (.invokevirtual 117, 3) := by decide +kernel
theorem dX5_takeNodeName_4 : decode cX5_takeNodeName 4 = .ok (.ifCond .ne 5, 3) := by decide +kernel
theorem dX5_takeNodeName_7 : decode cX5_takeNodeName 7 = .ok (.iconst 1, 1) := by decide +kernel
theorem dX5_takeNodeName_8 : decode cX5_takeNodeName 8 = .ok (.ireturn, 1) := by decide +kernel
theorem dX5_takeNodeName_9 : decode cX5_takeNodeName 9 = .ok (.aload_n 0, 1) := by decide +kernel
theorem dX5_takeNodeName_10 : decode cX5_takeNodeName 10 = .ok (.getfield 18, 3) := by decide +kernel
theorem dX5_takeNodeName_13 : decode cX5_takeNodeName 13 = .ok (.aload_n 0, 1) := by decide +kernel
theorem dX5_takeNodeName_14 : decode cX5_takeNodeName 14 = .ok (.getfield 25, 3) := by decide +kernel
theorem dX5_takeNodeName_17 : decode cX5_takeNodeName 17 = .ok (.getfield 121, 3) := by decide +kernel
theorem dX5_takeNodeName_20 : decode cX5_takeNodeName 20 = .ok (.invokevirtual 125, 3) := by decide +kernel
theorem dX5_takeNodeName_23 : decode cX5_takeNodeName 23 = .ok (.bipush (-2), 2) := by decide +kernel
theorem dX5_takeNodeName_25 : decode cX5_takeNodeName 25 = .ok (.if_icmp .eq 5, 3) := by decide +kernel
theorem dX5_takeNodeName_28 : decode cX5_takeNodeName 28 = .ok (.iconst 3, 1) := by decide +kernel
theorem dX5_takeNodeName_29 : decode cX5_takeNodeName 29 = .ok (.ireturn, 1) := by decide +kernel
theorem dX5_takeNodeName_30 : decode cX5_takeNodeName 30 = .ok (.aload_n 0, 1) := by decide +kernel
theorem dX5_takeNodeName_31 : decode cX5_takeNodeName 31 = .ok (.aload_n 0, 1) := by decide +kernel
theorem dX5_takeNodeName_32 : decode cX5_takeNodeName 32 = .ok (.getfield 25, 3) := by decide +kernel
theorem dX5_takeNodeName_35 : decode cX5_takeNodeName 35 = .ok (.getfield 121, 3) := by decide +kernel
theorem dX5_takeNodeName_38 : decode cX5_takeNodeName 38 = .ok (.putfield 129, 3) := by decide +kernel
theorem dX5_takeNodeName_41 : decode cX5_takeNodeName 41 = .ok (.aload_n 0, 1) := by decide +kernel
theorem dX5_takeNodeName_42 : decode cX5_takeNodeName 42 = .ok (.getfield 18, 3) := by decide +kernel
theorem dX5_takeNodeName_45 : decode cX5_takeNodeName 45 = .ok (.getfield 102, 3) := by decide +kernel
theorem dX5_takeNodeName_48 : decode cX5_takeNodeName 48 = .ok (.ifCond .ne 12, 3) := by decide +kernel
theorem dX5_takeNodeName_51 : decode cX5_takeNodeName 51 = .ok (.aload_n 0, 1) := by decide +kernel
theorem dX5_takeNodeName_52 : decode cX5_takeNodeName 52 = .ok (.bipush (-2), 2) := by decide +kernel
theorem dX5_takeNodeName_54 : decode cX5_takeNodeName 54 = .ok (.invokevirtual 132, 3) := by decide +kernel
theorem dX5_takeNodeName_57 : decode cX5_takeNodeName 57 = .ok (.goto 8, 3) := by decide +kernel
theorem dX5_takeNodeName_60 : decode cX5_takeNodeName 60 = .ok (.aload_n 0, 1) := by decide +kernel
theorem dX5_takeNodeName_61 : decode cX5_takeNodeName 61 = .ok (.iconst 2, 1) := by decide +kernel
theorem dX5_takeNodeName_62 : decode cX5_takeNodeName 62 = .ok (.putfield 39, 3) := by decide +kernel
theorem dX5_takeNodeName_65 : decode cX5_takeNodeName 65 = .ok (.iconst 0, 1) := by decide +kernel
theorem dX5_takeNodeName_66 : decode cX5_takeNodeName 66 = .ok (.ireturn, 1) := by decide +kernel
theorem dX5_takeIn_0 : decode cX5_takeIn 0 = .ok (.aload_n 0, 1) := by decide +kernel
theorem dX5_takeIn_1 : decode cX5_takeIn 1 = .ok (.iconst 3, 1) := by decide +kernel
theorem dX5_takeIn_2 : decode cX5_takeIn 2 = .ok (.putfield 39, 3) := by decide +kernel
theorem dX5_takeIn_5 : decode cX5_takeIn 5 = .ok (.aload_n 0, 1) := by decide +kernel
theorem dX5_takeIn_6 : decode cX5_takeIn 6 = .ok (.getfield 25, 3) := by decide +kernel
theorem dX5_takeIn_9 : decode cX5_takeIn 9 = .ok (.getfield 99, 3) := by decide +kernel
theorem dX5_takeIn_12 : decode cX5_takeIn 12 = .ok (.bipush 8, 2) := by decide +kernel
theorem dX5_takeIn_14 : decode cX5_takeIn 14 = .ok (.if_icmp .ne 7, 3) := by decide +kernel
theorem dX5_takeIn_17 : decode cX5_takeIn 17 = .ok (.iconst 0, 1) := by decide +kernel
theorem dX5_takeIn_18 : decode cX5_takeIn 18 = .ok (.goto 4, 3) := by decide +kernel
theorem dX5_takeIn_21 : decode cX5_takeIn 21 = .ok (.iconst 1, 1) := by decide +kernel
theorem dX5_takeIn_22 : decode cX5_takeIn 22 = .ok (.ireturn, 1) := by decide +kernel
theorem dX5_takeParentName_0 : decode cX5_takeParentName 0 = .ok (.aload_n 0, 1) := by decide +kernel
theorem dX5_takeParentName_1 : decode cX5_takeParentName 1 = .ok (.invokevirtual 117, 3) := by decide +kernel
theorem dX5_takeParentName_4 : decode cX5_takeParentName 4 = .ok (.ifCond .ne 5, 3) := by decide +kernel
theorem dX5_takeParentName_7 : decode cX5_takeParentName 7 = .ok (.iconst 1, 1) := by decide +kernel
theorem dX5_takeParentName_8 : decode cX5_takeParentName 8 = .ok (.ireturn, 1) := by decide +kernel
theorem dX5_takeParentName_9 : decode cX5_takeParentName 9 = .ok (.aload_n 0, 1) := by decide +kernel
theorem dX5_takeParentName_10 : decode cX5_takeParentName 10 = .ok (.getfield 18, 3) := by decide +kernel
theorem dX5_takeParentName_13 : decode cX5_takeParentName 13 = .ok (.aload_n 0, 1) := by decide +kernel
theorem dX5_takeParentName_14 : decode cX5_takeParentName 14 = .ok (.getfield 25, 3) := by decide +kernel
theorem dX5_takeParentName_17 : decode cX5_takeParentName 17 = .ok (.getfield 121, 3) := by decide +kernel
theorem dX5_takeParentName_20 : decode cX5_takeParentName 20 = .ok (.invokevirtual 125, 3) := by decide +kernel
theorem dX5_takeParentName_23 : decode cX5_takeParentName 23 = .ok (.istore_n 1, 1) := by decide +kernel
theorem dX5_takeParentName_24 : decode cX5_takeParentName 24 = .ok (.iload_n 1, 1) := by decide +kernel
theorem dX5_takeParentName_25 : decode cX5_takeParentName 25 = .ok (.bipush (-2), 2) := by decide +kernel
theorem dX5_takeParentName_27 : decode cX5_takeParentName 27 = .ok (.if_icmp .ne 5, 3) := by decide +kernel
theorem dX5_takeParentName_30 : decode cX5_takeParentName 30 = .ok (.iconst 3, 1) := by decide +kernel
theorem dX5_takeParentName_31 : decode cX5_takeParentName 31 = .ok (.ireturn, 1) := by decide +kernel
theorem dX5_takeParentName_32 : decode cX5_takeParentName 32 = .ok (.aload_n 0, 1) := by decide +kernel
theorem dX5_takeParentName_33 : decode cX5_takeParentName 33 = .ok (.iload_n 1, 1) := by decide +kernel
theorem dX5_takeParentName_34 : decode cX5_takeParentName 34 = .ok (.invokevirtual 132, 3) := by decide +kernel
theorem dX5_takeParentName_37 : decode cX5_takeParentName 37 = .ok (.iconst 0, 1) := by decide +kernel
theorem dX5_takeParentName_38 : decode cX5_takeParentName 38 = .ok (.ireturn, 1) := by decide +kernel
theorem dX5_addNode_0 : decode cX5_addNode 0 = .ok (.aload_n 0, 1) := by decide +kernel
theorem dX5_addNode_1 : decode cX5_addNode 1 = .ok (.getfield 18, 3) := by decide +kernel
theorem dX5_addNode_4 : decode cX5_addNode 4 = .ok (.aload_n 0, 1) := by decide +kernel
theorem dX5_addNode_5 : decode cX5_addNode 5 = .ok (.getfield 129, 3) := by decide +kernel
theorem dX5_addNode_8 : decode cX5_addNode 8 = .ok (.iload_n 1, 1) := by decide +kernel
theorem dX5_addNode_9 : decode cX5_addNode 9 = .ok (.invokevirtual 136, 3) := by decide +kernel
theorem dX5_addNode_12 : decode cX5_addNode 12 = .ok (.aload_n 0, 1) := by decide +kernel
theorem dX5_addNode_13 : decode cX5_addNode 13 = .ok (.iconst 0, 1) := by decide +kernel
theorem dX5_addNode_14 : decode cX5_addNode 14 = .ok (.putfield 139, 3) := by decide +kernel
theorem dX5_addNode_17 : decode cX5_addNode 17 = .ok (.aload_n 0, 1) := by decide +kernel
theorem dX5_addNode_18 : decode cX5_addNode 18 = .ok (.iconst 4, 1) := by decide +kernel
theorem dX5_addNode_19 : decode cX5_addNode 19 = .ok (.putfield 39, 3) := by decide +kernel
theorem dX5_addNode_22 : decode cX5_addNode 22 = .ok (.return_, 1) := by decide +kernel
theorem dX5_takeSetting_0 : decode cX5_takeSetting 0 = .ok (.aload_n 0, 1) := by decide +kernel
theorem dX5_takeSetting_1 : decode cX5_takeSetting 1 = .ok (.getfield 25, 3) := by decide +kernel
theorem dX5_takeSetting_4 : decode cX5_takeSetting 4 = .ok (.getfield 36, 3) := by decide +kernel
theorem dX5_takeSetting_7 : decode cX5_takeSetting 7 = .ok (.iconst 3, 1) := by decide +kernel
theorem dX5_takeSetting_8 : decode cX5_takeSetting 8 = .ok (.if_icmp .ne 9, 3) := by decide +kernel
theorem dX5_takeSetting_11 : decode cX5_takeSetting 11 = .ok (.aload_n 0, 1) := by decide +kernel
theorem dX5_takeSetting_12 : decode cX5_takeSetting 12 = .ok (.invokevirtual 142, 3) := by decide +kernel
theorem dX5_takeSetting_15 : decode cX5_takeSetting 15 = .ok (.iconst 0, 1) := by decide +kernel
theorem dX5_takeSetting_16 : decode cX5_takeSetting 16 = .ok (.ireturn, 1) := by decide +kernel
theorem dX5_takeSetting_17 : decode cX5_takeSetting 17 = .ok (.aload_n 0, 1) := by decide +kernel
theorem dX5_takeSetting_18 : decode cX5_takeSetting 18 = .ok (.aload_n 0, 1) := by decide +kernel
theorem dX5_takeSetting_19 : decode cX5_takeSetting 19 = .ok (.getfield 25, 3) := by decide +kernel
theorem dX5_takeSetting_22 : decode cX5_takeSetting 22 = .ok (.getfield 99, 3) := by decide +kernel
theorem dX5_takeSetting_25 : decode cX5_takeSetting 25 = .ok (.putfield 145, 3) := by decide +kernel
theorem dX5_takeSetting_28 : decode cX5_takeSetting 28 = .ok (.aload_n 0, 1) := by decide +kernel
theorem dX5_takeSetting_29 : decode cX5_takeSetting 29 = .ok (.getfield 145, 3) := by decide +kernel
theorem dX5_takeSetting_32 : decode cX5_takeSetting 32 = .ok (.ifCond .lt 12, 3) := by decide +kernel
theorem dX5_takeSetting_35 : decode cX5_takeSetting 35 = .ok (.aload_n 0, 1) := by decide +kernel
theorem dX5_takeSetting_36 : decode cX5_takeSetting 36 = .ok (.getfield 145, 3) := by decide +kernel
theorem dX5_takeSetting_39 : decode cX5_takeSetting 39 = .ok (.bipush 6, 2) := by decide +kernel
theorem dX5_takeSetting_41 : decode cX5_takeSetting 41 = .ok (.if_icmp .le 5, 3) := by decide +kernel
theorem dX5_takeSetting_44 : decode cX5_takeSetting 44 = .ok (.iconst 1, 1) := by decide +kernel
theorem dX5_takeSetting_45 : decode cX5_takeSetting 45 = .ok (.ireturn, 1) := by decide +kernel
theorem dX5_takeSetting_46 : decode cX5_takeSetting 46 = .ok (.aload_n 0, 1) := by decide +kernel
theorem dX5_takeSetting_47 : decode cX5_takeSetting 47 = .ok (.getfield 139, 3) := by decide +kernel
theorem dX5_takeSetting_50 : decode cX5_takeSetting 50 = .ok (.aload_n 0, 1) := by decide +kernel
theorem dX5_takeSetting_51 : decode cX5_takeSetting 51 = .ok (.getfield 145, 3) := by decide +kernel
theorem dX5_takeSetting_54 : decode cX5_takeSetting 54 = .ok (.ishr, 1) := by decide +kernel
theorem dX5_takeSetting_55 : decode cX5_takeSetting 55 = .ok (.iconst 1, 1) := by decide +kernel
theorem dX5_takeSetting_56 : decode cX5_takeSetting 56 = .ok (.iand, 1) := by decide +kernel
theorem dX5_takeSetting_57 : decode cX5_takeSetting 57 = .ok (.iconst 1, 1) := by decide +kernel
theorem dX5_takeSetting_58 : decode cX5_takeSetting 58 = .ok (.if_icmp .ne 5, 3) := by decide +kernel
theorem dX5_takeSetting_61 : decode cX5_takeSetting 61 = .ok (.iconst 4, 1) := by decide +kernel
theorem dX5_takeSetting_62 : decode cX5_takeSetting 62 = .ok (.ireturn, 1) := by decide +kernel
theorem dX5_takeSetting_63 : decode cX5_takeSetting 63 = .ok (.aload_n 0, 1) := by decide +kernel
theorem dX5_takeSetting_64 : decode cX5_takeSetting 64 = .ok (.dup, 1) := by decide +kernel
theorem dX5_takeSetting_65 : decode cX5_takeSetting 65 = .ok (.getfield 139, 3) := by decide +kernel
theorem dX5_takeSetting_68 : decode cX5_takeSetting 68 = .ok (.iconst 1, 1) := by decide +kernel
theorem dX5_takeSetting_69 : decode cX5_takeSetting 69 = .ok (.aload_n 0, 1) := by decide +kernel
theorem dX5_takeSetting_70 : decode cX5_takeSetting 70 = .ok (.getfield 145, 3) := by decide +kernel
theorem dX5_takeSetting_73 : decode cX5_takeSetting 73 = .ok (.ishl, 1) := by decide +kernel
theorem dX5_takeSetting_74 : decode cX5_takeSetting 74 = .ok (.ior, 1) := by decide +kernel
theorem dX5_takeSetting_75 : decode cX5_takeSetting 75 = .ok (.putfield 139, 3) := by decide +kernel
theorem dX5_takeSetting_78 : decode cX5_takeSetting 78 = .ok (.aload_n 0, 1) := by decide +kernel
theorem dX5_takeSetting_79 : decode cX5_takeSetting 79 = .ok (.getfield 18, 3) := by decide +kernel
theorem dX5_takeSetting_82 : decode cX5_takeSetting 82 = .ok (.getfield 102, 3) := by decide +kernel
theorem dX5_takeSetting_85 : decode cX5_takeSetting 85 = .ok (.iconst 1, 1) := by decide +kernel
theorem dX5_takeSetting_86 : decode cX5_takeSetting 86 = .ok (.isub, 1) := by decide +kernel
theorem dX5_takeSetting_87 : decode cX5_takeSetting 87 = .ok (.istore_n 1, 1) := by decide +kernel
theorem dX5_takeSetting_88 : decode cX5_takeSetting 88 = .ok (.aload_n 0, 1) := by decide +kernel
theorem dX5_takeSetting_89 : decode cX5_takeSetting 89 = .ok (.getfield 145, 3) := by decide +kernel
theorem dX5_takeSetting_92 : decode cX5_takeSetting 92 = .ok (.bipush 6, 2) := by decide +kernel
theorem dX5_takeSetting_94 : decode cX5_takeSetting 94 = .ok (.if_icmp .eq 11, 3) := by decide +kernel
theorem dX5_takeSetting_97 : decode cX5_takeSetting 97 = .ok (.aload_n 0, 1) := by decide +kernel
theorem dX5_takeSetting_98 : decode cX5_takeSetting 98 = .ok (.iconst 5, 1) := by decide +kernel
theorem dX5_takeSetting_99 : decode cX5_takeSetting 99 = .ok (.putfield 39, 3) := by decide +kernel
theorem dX5_takeSetting_102 : decode cX5_takeSetting 102 = .ok (.goto 24, 3) := by decide +kernel
theorem dX5_takeSetting_105 : decode cX5_takeSetting 105 = .ok (.aload_n 0, 1) := by decide +kernel
theorem dX5_takeSetting_106 : decode cX5_takeSetting 106 = .ok (.getfield 18, 3) := by decide +kernel
theorem dX5_takeSetting_109 : decode cX5_takeSetting 109 = .ok (.iload_n 1, 1) := by decide +kernel
theorem dX5_takeSetting_110 : decode cX5_takeSetting 110 = .ok (.invokevirtual 148, 3) := by decide +kernel
theorem dX5_takeSetting_113 : decode cX5_takeSetting 113 = .ok (.ifCond .eq 13, 3) := by decide +kernel
theorem dX5_takeSetting_116 : decode cX5_takeSetting 116 = .ok (.aload_n 0, 1) := by decide +kernel
theorem dX5_takeSetting_117 : decode cX5_takeSetting 117 = .ok (.getfield 18, 3) := by decide +kernel
theorem dX5_takeSetting_120 : decode cX5_takeSetting 120 = .ok (.getfield 152, 3) := by decide +kernel
theorem dX5_takeSetting_123 : decode cX5_takeSetting 123 = .ok (.iload_n 1, 1) := by decide +kernel
theorem dX5_takeSetting_124 : decode cX5_takeSetting 124 = .ok (.iconst 1, 1) := by decide +kernel
theorem dX5_takeSetting_125 : decode cX5_takeSetting 125 = .ok (.bastore, 1) := by decide +kernel
theorem dX5_takeSetting_126 : decode cX5_takeSetting 126 = .ok (.iconst 0, 1) := by decide +kernel
theorem dX5_takeSetting_127 : decode cX5_takeSetting 127 = .ok (.ireturn, 1) := by decide +kernel
theorem dX5_finishNode_0 : decode cX5_finishNode 0 = .ok (.aload_n 0, 1) := by decide +kernel
theorem dX5_finishNode_1 : decode cX5_finishNode 1 = .ok (.getfield 18, 3) := by decide +kernel
theorem dX5_finishNode_4 : decode cX5_finishNode 4 = .ok (.getfield 102, 3) := by decide +kernel
theorem dX5_finishNode_7 : decode cX5_finishNode 7 = .ok (.iconst 1, 1) := by decide +kernel
theorem dX5_finishNode_8 : decode cX5_finishNode 8 = .ok (.isub, 1) := by decide +kernel
theorem dX5_finishNode_9 : decode cX5_finishNode 9 = .ok (.istore_n 1, 1) := by decide +kernel
theorem dX5_finishNode_10 : decode cX5_finishNode 10 = .ok (.aload_n 0, 1) := by decide +kernel
theorem dX5_finishNode_11 : decode cX5_finishNode 11 = .ok (.getfield 18, 3) := by decide +kernel
theorem dX5_finishNode_14 : decode cX5_finishNode 14 = .ok (.iload_n 1, 1) := by decide +kernel
theorem dX5_finishNode_15 : decode cX5_finishNode 15 = .ok (.invokevirtual 148, 3) := by decide +kernel
theorem dX5_finishNode_18 : decode cX5_finishNode 18 = .ok (.ifCond .eq 32, 3) := by decide +kernel
theorem dX5_finishNode_21 : decode cX5_finishNode 21 = .ok (.aload_n 0, 1) := by decide +kernel
theorem dX5_finishNode_22 : decode cX5_finishNode 22 = .ok (.getfield 139, 3) := by decide +kernel
theorem dX5_finishNode_25 : decode cX5_finishNode 25 = .ok (.iconst 1, 1) := by decide +kernel
theorem dX5_finishNode_26 : decode cX5_finishNode 26 = .ok (.ishr, 1) := by decide +kernel
theorem dX5_finishNode_27 : decode cX5_finishNode 27 = .ok (.iconst 1, 1) := by decide +kernel
theorem dX5_finishNode_28 : decode cX5_finishNode 28 = .ok (.iand, 1) := by decide +kernel
theorem dX5_finishNode_29 : decode cX5_finishNode 29 = .ok (.ifCond .ne 21, 3) := by decide +kernel
theorem dX5_finishNode_32 : decode cX5_finishNode 32 = .ok (.aload_n 0, 1) := by decide +kernel
theorem dX5_finishNode_33 : decode cX5_finishNode 33 = .ok (.getfield 18, 3) := by decide +kernel
theorem dX5_finishNode_36 : decode cX5_finishNode 36 = .ok (.getfield 156, 3) := by decide +kernel
theorem dX5_finishNode_39 : decode cX5_finishNode 39 = .ok (.iload_n 1, 1) := by decide +kernel
theorem dX5_finishNode_40 : decode cX5_finishNode 40 = .ok (.aload_n 0, 1) := by decide +kernel
theorem dX5_finishNode_41 : decode cX5_finishNode 41 = .ok (.getfield 18, 3) := by decide +kernel
theorem dX5_finishNode_44 : decode cX5_finishNode 44 = .ok (.getfield 160, 3) := by decide +kernel
theorem dX5_finishNode_47 : decode cX5_finishNode 47 = .ok (.iload_n 1, 1) := by decide +kernel
theorem dX5_finishNode_48 : decode cX5_finishNode 48 = .ok (.iaload, 1) := by decide +kernel
theorem dX5_finishNode_49 : decode cX5_finishNode 49 = .ok (.iastore, 1) := by decide +kernel
theorem dX5_finishNode_50 : decode cX5_finishNode 50 = .ok (.aload_n 0, 1) := by decide +kernel
theorem dX5_finishNode_51 : decode cX5_finishNode 51 = .ok (.iconst 0, 1) := by decide +kernel
theorem dX5_finishNode_52 : decode cX5_finishNode 52 = .ok (.putfield 39, 3) := by decide +kernel
theorem dX5_finishNode_55 : decode cX5_finishNode 55 = .ok (.return_, 1) := by decide +kernel
theorem dX5_takeSettingValue_0 : decode cX5_takeSettingValue 0 = .ok (.aload_n 0, 1) := by decide +kernel
theorem dX5_takeSettingValue_1 : decode cX5_takeSettingValue 1 = .ok (.aload_n 0, 1) := by decide +kernel
theorem dX5_takeSettingValue_2 : decode cX5_takeSettingValue 2 = .ok (.getfield 145, 3) := by decide +kernel
theorem dX5_takeSettingValue_5 : decode cX5_takeSettingValue 5 = .ok (.invokevirtual 163, 3) := by decide +kernel
theorem dX5_takeSettingValue_8 : decode cX5_takeSettingValue 8 = .ok (.istore_n 1, 1) := by decide +kernel
theorem dX5_takeSettingValue_9 : decode cX5_takeSettingValue 9 = .ok (.aload_n 0, 1) := by decide +kernel
theorem dX5_takeSettingValue_10 : decode cX5_takeSettingValue 10 = .ok (.getfield 18, 3) := by decide +kernel
theorem dX5_takeSettingValue_13 : decode cX5_takeSettingValue 13 = .ok (.getfield 102, 3) := by decide +kernel
theorem dX5_takeSettingValue_16 : decode cX5_takeSettingValue 16 = .ok (.iconst 1, 1) := by decide +kernel
theorem dX5_takeSettingValue_17 : decode cX5_takeSettingValue 17 = .ok (.isub, 1) := by decide +kernel
theorem dX5_takeSettingValue_18 : decode cX5_takeSettingValue 18 = .ok (.istore_n 2, 1) := by decide +kernel
theorem dX5_takeSettingValue_19 : decode cX5_takeSettingValue 19 = .ok (.iload_n 1, 1) := by decide +kernel
theorem dX5_takeSettingValue_20 : decode cX5_takeSettingValue 20 = .ok (.ifCond .ne 34, 3) := by decide +kernel
theorem dX5_takeSettingValue_23 : decode cX5_takeSettingValue 23 = .ok (.aload_n 0, 1) := by decide +kernel
theorem dX5_takeSettingValue_24 : decode cX5_takeSettingValue 24 = .ok (.getfield 18, 3) := by decide +kernel
theorem dX5_takeSettingValue_27 : decode cX5_takeSettingValue 27 = .ok (.iload_n 2, 1) := by decide +kernel
theorem dX5_takeSettingValue_28 : decode cX5_takeSettingValue 28 = .ok (.invokevirtual 148, 3) := by decide +kernel
theorem dX5_takeSettingValue_31 : decode cX5_takeSettingValue 31 = .ok (.ifCond .eq 23, 3) := by decide +kernel
theorem dX5_takeSettingValue_34 : decode cX5_takeSettingValue 34 = .ok (.aload_n 0, 1) := by decide +kernel
theorem dX5_takeSettingValue_35 : decode cX5_takeSettingValue 35 = .ok (.getfield 18, 3) := by decide +kernel
theorem dX5_takeSettingValue_38 : decode cX5_takeSettingValue 38 = .ok (.aload_n 0, 1) := by decide +kernel
theorem dX5_takeSettingValue_39 : decode cX5_takeSettingValue 39 = .ok (.getfield 145, 3) := by decide +kernel
theorem dX5_takeSettingValue_42 : decode cX5_takeSettingValue 42 = .ok (.invokevirtual 167, 3) := by decide +kernel
theorem dX5_takeSettingValue_45 : decode cX5_takeSettingValue 45 = .ok (.iload_n 2, 1) := by decide +kernel
theorem dX5_takeSettingValue_46 : decode cX5_takeSettingValue 46 = .ok (.aload_n 0, 1) := by decide +kernel
theorem dX5_takeSettingValue_47 : decode cX5_takeSettingValue 47 = .ok (.getfield 25, 3) := by decide +kernel
theorem dX5_takeSettingValue_50 : decode cX5_takeSettingValue 50 = .ok (.getfield 171, 3) := by decide +kernel
theorem dX5_takeSettingValue_53 : decode cX5_takeSettingValue 53 = .ok (.iastore, 1) := by decide +kernel
theorem dX5_takeSettingValue_54 : decode cX5_takeSettingValue 54 = .ok (.aload_n 0, 1) := by decide +kernel
theorem dX5_takeSettingValue_55 : decode cX5_takeSettingValue 55 = .ok (.iconst 4, 1) := by decide +kernel
theorem dX5_takeSettingValue_56 : decode cX5_takeSettingValue 56 = .ok (.putfield 39, 3) := by decide +kernel
theorem dX5_takeSettingValue_59 : decode cX5_takeSettingValue 59 = .ok (.iload_n 1, 1) := by decide +kernel
theorem dX5_takeSettingValue_60 : decode cX5_takeSettingValue 60 = .ok (.ireturn, 1) := by decide +kernel
theorem dX5_numberFault_0 : decode cX5_numberFault 0 = .ok (.aload_n 0, 1) := by decide +kernel
theorem dX5_numberFault_1 : decode cX5_numberFault 1 = .ok (.getfield 25, 3) := by decide +kernel
theorem dX5_numberFault_4 : decode cX5_numberFault 4 = .ok (.getfield 36, 3) := by decide +kernel
theorem dX5_numberFault_7 : decode cX5_numberFault 7 = .ok (.iconst 2, 1) := by decide +kernel
theorem dX5_numberFault_8 : decode cX5_numberFault 8 = .ok (.if_icmp .eq 5, 3) := by decide +kernel
theorem dX5_numberFault_11 : decode cX5_numberFault 11 = .ok (.iconst 1, 1) := by decide +kernel
theorem dX5_numberFault_12 : decode cX5_numberFault 12 = .ok (.ireturn, 1) := by decide +kernel
theorem dX5_numberFault_13 : decode cX5_numberFault 13 = .ok (.iload_n 1, 1) := by decide +kernel
theorem dX5_numberFault_14 : decode cX5_numberFault 14 = .ok (.aload_n 0, 1) := by decide +kernel
theorem dX5_numberFault_15 : decode cX5_numberFault 15 = .ok (.getfield 25, 3) := by decide +kernel
theorem dX5_numberFault_18 : decode cX5_numberFault 18 = .ok (.getfield 171, 3) := by decide +kernel
theorem dX5_numberFault_21 : decode cX5_numberFault 21 = .ok (.invokestatic 174, 3) := by decide +kernel
theorem dX5_numberFault_24 : decode cX5_numberFault 24 = .ok (.ifCond .eq 7, 3) := by decide +kernel
theorem dX5_numberFault_27 : decode cX5_numberFault 27 = .ok (.iconst 0, 1) := by decide +kernel
theorem dX5_numberFault_28 : decode cX5_numberFault 28 = .ok (.goto 4, 3) := by decide +kernel
theorem dX5_numberFault_31 : decode cX5_numberFault 31 = .ok (.iconst 2, 1) := by decide +kernel
theorem dX5_numberFault_32 : decode cX5_numberFault 32 = .ok (.ireturn, 1) := by decide +kernel
theorem dX5_numberFault__0 : decode cX5_numberFault_ 0 = .ok (.aload_n 0, 1) := by decide +kernel
theorem dX5_numberFault__1 : decode cX5_numberFault_ 1 = .ok (.getfield 25, 3) := by decide +kernel
theorem dX5_numberFault__4 : decode cX5_numberFault_ 4 = .ok (.getfield 36, 3) := by decide +kernel
theorem dX5_numberFault__7 : decode cX5_numberFault_ 7 = .ok (.iconst 2, 1) := by decide +kernel
theorem dX5_numberFault__8 : decode cX5_numberFault_ 8 = .ok (.if_icmp .eq 5, 3) := by decide +kernel
theorem dX5_numberFault__11 : decode cX5_numberFault_ 11 = .ok (.iconst 1, 1) := by decide +kernel
theorem dX5_numberFault__12 : decode cX5_numberFault_ 12 = .ok (.ireturn, 1) := by decide +kernel
theorem dX5_numberFault__13 : decode cX5_numberFault_ 13 = .ok (.aload_n 0, 1) := by decide +kernel
theorem dX5_numberFault__14 : decode cX5_numberFault_ 14 = .ok (.getfield 25, 3) := by decide +kernel
theorem dX5_numberFault__17 : decode cX5_numberFault_ 17 = .ok (.getfield 171, 3) := by decide +kernel
theorem dX5_numberFault__20 : decode cX5_numberFault_ 20 = .ok (.iload_n 1, 1) := by decide +kernel
theorem dX5_numberFault__21 : decode cX5_numberFault_ 21 = .ok (.if_icmp .lt 18, 3) := by decide +kernel
theorem dX5_numberFault__24 : decode cX5_numberFault_ 24 = .ok (.aload_n 0, 1) := by decide +kernel
theorem dX5_numberFault__25 : decode cX5_numberFault_ 25 = .ok (.getfield 25, 3) := by decide +kernel
theorem dX5_numberFault__28 : decode cX5_numberFault_ 28 = .ok (.getfield 171, 3) := by decide +kernel
theorem dX5_numberFault__31 : decode cX5_numberFault_ 31 = .ok (.iload_n 2, 1) := by decide +kernel
theorem dX5_numberFault__32 : decode cX5_numberFault_ 32 = .ok (.if_icmp .gt 7, 3) := by decide +kernel
theorem dX5_numberFault__35 : decode cX5_numberFault_ 35 = .ok (.iconst 0, 1) := by decide +kernel
theorem dX5_numberFault__36 : decode cX5_numberFault_ 36 = .ok (.goto 4, 3) := by decide +kernel
theorem dX5_numberFault__39 : decode cX5_numberFault_ 39 = .ok (.iconst 2, 1) := by decide +kernel
theorem dX5_numberFault__40 : decode cX5_numberFault_ 40 = .ok (.ireturn, 1) := by decide +kernel
theorem dX5_takeLimit_0 : decode cX5_takeLimit 0 = .ok (.aload_n 0, 1) := by decide +kernel
theorem dX5_takeLimit_1 : decode cX5_takeLimit 1 = .ok (.getfield 18, 3) := by decide +kernel
theorem dX5_takeLimit_4 : decode cX5_takeLimit 4 = .ok (.aload_n 0, 1) := by decide +kernel
theorem dX5_takeLimit_5 : decode cX5_takeLimit 5 = .ok (.getfield 25, 3) := by decide +kernel
theorem dX5_takeLimit_8 : decode cX5_takeLimit 8 = .ok (.getfield 171, 3) := by decide +kernel
theorem dX5_takeLimit_11 : decode cX5_takeLimit 11 = .ok (.putfield 178, 3) := by decide +kernel
theorem dX5_takeLimit_14 : decode cX5_takeLimit 14 = .ok (.aload_n 0, 1) := by decide +kernel
theorem dX5_takeLimit_15 : decode cX5_takeLimit 15 = .ok (.iconst 1, 1) := by decide +kernel
theorem dX5_takeLimit_16 : decode cX5_takeLimit 16 = .ok (.putfield 56, 3) := by decide +kernel
theorem dX5_takeLimit_19 : decode cX5_takeLimit 19 = .ok (.aload_n 0, 1) := by decide +kernel
theorem dX5_takeLimit_20 : decode cX5_takeLimit 20 = .ok (.bipush 12, 2) := by decide +kernel
theorem dX5_takeLimit_22 : decode cX5_takeLimit 22 = .ok (.putfield 39, 3) := by decide +kernel
theorem dX5_takeLimit_25 : decode cX5_takeLimit 25 = .ok (.aload_n 0, 1) := by decide +kernel
theorem dX5_takeLimit_26 : decode cX5_takeLimit 26 = .ok (.iconst 0, 1) := by decide +kernel
theorem dX5_takeLimit_27 : decode cX5_takeLimit 27 = .ok (.bipush 99, 2) := by decide +kernel
theorem dX5_takeLimit_29 : decode cX5_takeLimit 29 = .ok (.invokevirtual 181, 3) := by decide +kernel
