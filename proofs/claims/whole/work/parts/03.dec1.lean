theorem dX0_init_0 : decode cX0_init 0 = .ok (.aload_n 0, 1) := by decide +kernel
theorem dX0_init_1 : decode cX0_init 1 = .ok (.invokespecial 3, 3) := by decide +kernel
theorem dX0_init_4 : decode cX0_init 4 = .ok (.aload_n 0, 1) := by decide +kernel
theorem dX0_init_5 : decode cX0_init 5 = .ok (.bipush 12, 2) := by decide +kernel
theorem dX0_init_7 : decode cX0_init 7 = .ok (.newarray .int, 2) := by decide +kernel
theorem dX0_init_9 : decode cX0_init 9 = .ok (.putfield 9, 3) := by decide +kernel
theorem dX0_init_12 : decode cX0_init 12 = .ok (.aload_n 0, 1) := by decide +kernel
theorem dX0_init_13 : decode cX0_init 13 = .ok (.bipush 12, 2) := by decide +kernel
theorem dX0_init_15 : decode cX0_init 15 = .ok (.newarray .int, 2) := by decide +kernel
theorem dX0_init_17 : decode cX0_init 17 = .ok (.putfield 15, 3) := by decide +kernel
theorem dX0_init_20 : decode cX0_init 20 = .ok (.aload_n 0, 1) := by decide +kernel
theorem dX0_init_21 : decode cX0_init 21 = .ok (.bipush 12, 2) := by decide +kernel
theorem dX0_init_23 : decode cX0_init 23 = .ok (.newarray .int, 2) := by decide +kernel
theorem dX0_init_25 : decode cX0_init 25 = .ok (.putfield 18, 3) := by decide +kernel
theorem dX0_init_28 : decode cX0_init 28 = .ok (.return_, 1) := by decide +kernel
theorem dX0_begin_0 : decode cX0_begin 0 = .ok (.aload_n 1, 1) := by decide +kernel
theorem dX0_begin_1 : decode cX0_begin 1 = .ok (.getfield 21, 3) := by decide +kernel
theorem dX0_begin_4 : decode cX0_begin 4 = .ok (.aload_n 0, 1) := by decide +kernel
theorem dX0_begin_5 : decode cX0_begin 5 = .ok (.getfield 9, 3) := by decide +kernel
theorem dX0_begin_8 : decode cX0_begin 8 = .ok (.invokestatic 26, 3) := by decide +kernel
theorem dX0_begin_11 : decode cX0_begin 11 = .ok (.aload_n 1, 1) := by decide +kernel
theorem dX0_begin_12 : decode cX0_begin 12 = .ok (.getfield 21, 3) := by decide +kernel
theorem dX0_begin_15 : decode cX0_begin 15 = .ok (.aload_n 0, 1) := by decide +kernel
theorem dX0_begin_16 : decode cX0_begin 16 = .ok (.getfield 18, 3) := by decide +kernel
theorem dX0_begin_19 : decode cX0_begin 19 = .ok (.invokestatic 26, 3) := by decide +kernel
theorem dX0_begin_22 : decode cX0_begin 22 = .ok (.aload_n 0, 1) := by decide +kernel
theorem dX0_begin_23 : decode cX0_begin 23 = .ok (.getfield 15, 3) := by decide +kernel
theorem dX0_begin_26 : decode cX0_begin 26 = .ok (.invokestatic 30, 3) := by decide +kernel
theorem dX0_begin_29 : decode cX0_begin 29 = .ok (.return_, 1) := by decide +kernel
theorem dX0_copyFrom_0 : decode cX0_copyFrom 0 = .ok (.aload_n 1, 1) := by decide +kernel
theorem dX0_copyFrom_1 : decode cX0_copyFrom 1 = .ok (.getfield 9, 3) := by decide +kernel
theorem dX0_copyFrom_4 : decode cX0_copyFrom 4 = .ok (.aload_n 0, 1) := by decide +kernel
theorem dX0_copyFrom_5 : decode cX0_copyFrom 5 = .ok (.getfield 9, 3) := by decide +kernel
theorem dX0_copyFrom_8 : decode cX0_copyFrom 8 = .ok (.invokestatic 26, 3) := by decide +kernel
theorem dX0_copyFrom_11 : decode cX0_copyFrom 11 = .ok (.aload_n 1, 1) := by decide +kernel
theorem dX0_copyFrom_12 : decode cX0_copyFrom 12 = .ok (.getfield 15, 3) := by decide +kernel
theorem dX0_copyFrom_15 : decode cX0_copyFrom 15 = .ok (.aload_n 0, 1) := by decide +kernel
theorem dX0_copyFrom_16 : decode cX0_copyFrom 16 = .ok (.getfield 15, 3) := by decide +kernel
theorem dX0_copyFrom_19 : decode cX0_copyFrom 19 = .ok (.invokestatic 26, 3) := by decide +kernel
theorem dX0_copyFrom_22 : decode cX0_copyFrom 22 = .ok (.aload_n 1, 1) := by decide +kernel
theorem dX0_copyFrom_23 : decode cX0_copyFrom 23 = .ok (.getfield 18, 3) := by decide +kernel
theorem dX0_copyFrom_26 : decode cX0_copyFrom 26 = .ok (.aload_n 0, 1) := by decide +kernel
theorem dX0_copyFrom_27 : decode cX0_copyFrom 27 = .ok (.getfield 18, 3) := by decide +kernel
theorem dX0_copyFrom_30 : decode cX0_copyFrom 30 = .ok (.invokestatic 26, 3) := by decide +kernel
theorem dX0_copyFrom_33 : decode cX0_copyFrom 33 = .ok (.return_, 1) := by decide +kernel
theorem dX0_refill_0 : decode cX0_refill 0 = .ok (.aload_n 0, 1) := by decide +kernel
theorem dX0_refill_1 : decode cX0_refill 1 = .ok (.getfield 9, 3) := by decide +kernel
theorem dX0_refill_4 : decode cX0_refill 4 = .ok (.iload_n 2, 1) := by decide +kernel
theorem dX0_refill_5 : decode cX0_refill 5 = .ok (.iaload, 1) := by decide +kernel
theorem dX0_refill_6 : decode cX0_refill 6 = .ok (.iload_n 3, 1) := by decide +kernel
theorem dX0_refill_7 : decode cX0_refill 7 = .ok (.iadd, 1) := by decide +kernel
theorem dX0_refill_8 : decode cX0_refill 8 = .ok (.istore 5, 2) := by decide +kernel
theorem dX0_refill_10 : decode cX0_refill 10 = .ok (.iconst 0, 1) := by decide +kernel
theorem dX0_refill_11 : decode cX0_refill 11 = .ok (.iload 5, 2) := by decide +kernel
theorem dX0_refill_13 : decode cX0_refill 13 = .ok (.aload_n 1, 1) := by decide +kernel
theorem dX0_refill_14 : decode cX0_refill 14 = .ok (.getfield 21, 3) := by decide +kernel
theorem dX0_refill_17 : decode cX0_refill 17 = .ok (.iload_n 2, 1) := by decide +kernel
theorem dX0_refill_18 : decode cX0_refill 18 = .ok (.iaload, 1) := by decide +kernel
theorem dX0_refill_19 : decode cX0_refill 19 = .ok (.isub, 1) := by decide +kernel
theorem dX0_refill_20 : decode cX0_refill 20 = .ok (.invokestatic 34, 3) := by decide +kernel
theorem dX0_refill_23 : decode cX0_refill 23 = .ok (.istore 6, 2) := by decide +kernel
theorem dX0_refill_25 : decode cX0_refill 25 = .ok (.aload_n 0, 1) := by decide +kernel
theorem dX0_refill_26 : decode cX0_refill 26 = .ok (.getfield 9, 3) := by decide +kernel
theorem dX0_refill_29 : decode cX0_refill 29 = .ok (.iload_n 2, 1) := by decide +kernel
theorem dX0_refill_30 : decode cX0_refill 30 = .ok (.iload 5, 2) := by decide +kernel
theorem dX0_refill_32 : decode cX0_refill 32 = .ok (.iload 6, 2) := by decide +kernel
theorem dX0_refill_34 : decode cX0_refill 34 = .ok (.isub, 1) := by decide +kernel
theorem dX0_refill_35 : decode cX0_refill 35 = .ok (.iastore, 1) := by decide +kernel
theorem dX0_refill_36 : decode cX0_refill 36 = .ok (.aload_n 0, 1) := by decide +kernel
theorem dX0_refill_37 : decode cX0_refill 37 = .ok (.getfield 15, 3) := by decide +kernel
theorem dX0_refill_40 : decode cX0_refill 40 = .ok (.iload_n 2, 1) := by decide +kernel
theorem dX0_refill_41 : decode cX0_refill 41 = .ok (.aload_n 1, 1) := by decide +kernel
theorem dX0_refill_42 : decode cX0_refill 42 = .ok (.getfield 40, 3) := by decide +kernel
theorem dX0_refill_45 : decode cX0_refill 45 = .ok (.iload_n 2, 1) := by decide +kernel
theorem dX0_refill_46 : decode cX0_refill 46 = .ok (.iaload, 1) := by decide +kernel
theorem dX0_refill_47 : decode cX0_refill 47 = .ok (.aload_n 0, 1) := by decide +kernel
theorem dX0_refill_48 : decode cX0_refill 48 = .ok (.getfield 15, 3) := by decide +kernel
theorem dX0_refill_51 : decode cX0_refill 51 = .ok (.iload_n 2, 1) := by decide +kernel
theorem dX0_refill_52 : decode cX0_refill 52 = .ok (.iaload, 1) := by decide +kernel
theorem dX0_refill_53 : decode cX0_refill 53 = .ok (.iload 6, 2) := by decide +kernel
theorem dX0_refill_55 : decode cX0_refill 55 = .ok (.iadd, 1) := by decide +kernel
theorem dX0_refill_56 : decode cX0_refill 56 = .ok (.invokestatic 43, 3) := by decide +kernel
theorem dX0_refill_59 : decode cX0_refill 59 = .ok (.iastore, 1) := by decide +kernel
theorem dX0_refill_60 : decode cX0_refill 60 = .ok (.aload_n 0, 1) := by decide +kernel
theorem dX0_refill_61 : decode cX0_refill 61 = .ok (.getfield 18, 3) := by decide +kernel
theorem dX0_refill_64 : decode cX0_refill 64 = .ok (.iload_n 2, 1) := by decide +kernel
theorem dX0_refill_65 : decode cX0_refill 65 = .ok (.aload_n 1, 1) := by decide +kernel
theorem dX0_refill_66 : decode cX0_refill 66 = .ok (.getfield 21, 3) := by decide +kernel
theorem dX0_refill_69 : decode cX0_refill 69 = .ok (.iload_n 2, 1) := by decide +kernel
theorem dX0_refill_70 : decode cX0_refill 70 = .ok (.iaload, 1) := by decide +kernel
theorem dX0_refill_71 : decode cX0_refill 71 = .ok (.aload_n 0, 1) := by decide +kernel
theorem dX0_refill_72 : decode cX0_refill 72 = .ok (.getfield 18, 3) := by decide +kernel
theorem dX0_refill_75 : decode cX0_refill 75 = .ok (.iload_n 2, 1) := by decide +kernel
theorem dX0_refill_76 : decode cX0_refill 76 = .ok (.iaload, 1) := by decide +kernel
theorem dX0_refill_77 : decode cX0_refill 77 = .ok (.iload 4, 2) := by decide +kernel
theorem dX0_refill_79 : decode cX0_refill 79 = .ok (.iadd, 1) := by decide +kernel
theorem dX0_refill_80 : decode cX0_refill 80 = .ok (.invokestatic 43, 3) := by decide +kernel
theorem dX0_refill_83 : decode cX0_refill 83 = .ok (.iastore, 1) := by decide +kernel
theorem dX0_refill_84 : decode cX0_refill 84 = .ok (.return_, 1) := by decide +kernel
theorem dX0_findBlocking_0 : decode cX0_findBlocking 0 = .ok (.iload_n 2, 1) := by decide +kernel
theorem dX0_findBlocking_1 : decode cX0_findBlocking 1 = .ok (.istore 4, 2) := by decide +kernel
theorem dX0_findBlocking_3 : decode cX0_findBlocking 3 = .ok (.iconst 0, 1) := by decide +kernel
theorem dX0_findBlocking_4 : decode cX0_findBlocking 4 = .ok (.istore 5, 2) := by decide +kernel
theorem dX0_findBlocking_6 : decode cX0_findBlocking 6 = .ok (.iload 5, 2) := by decide +kernel
theorem dX0_findBlocking_8 : decode cX0_findBlocking 8 = .ok (.bipush 12, 2) := by decide +kernel
theorem dX0_findBlocking_10 : decode cX0_findBlocking 10 = .ok (.if_icmp .ge 41, 3) := by decide +kernel
theorem dX0_findBlocking_13 : decode cX0_findBlocking 13 = .ok (.aload_n 1, 1) := by decide +kernel
theorem dX0_findBlocking_14 : decode cX0_findBlocking 14 = .ok (.iload 4, 2) := by decide +kernel
theorem dX0_findBlocking_16 : decode cX0_findBlocking 16 = .ok (.invokevirtual 46, 3) := by decide +kernel
theorem dX0_findBlocking_19 : decode cX0_findBlocking 19 = .ok (.ifCond .eq 32, 3) := by decide +kernel
theorem dX0_findBlocking_22 : decode cX0_findBlocking 22 = .ok (.aload_n 0, 1) := by decide +kernel
theorem dX0_findBlocking_23 : decode cX0_findBlocking 23 = .ok (.getfield 18, 3) := by decide +kernel
theorem dX0_findBlocking_26 : decode cX0_findBlocking 26 = .ok (.iload 4, 2) := by decide +kernel
theorem dX0_findBlocking_28 : decode cX0_findBlocking 28 = .ok (.iaload, 1) := by decide +kernel
theorem dX0_findBlocking_29 : decode cX0_findBlocking 29 = .ok (.iload_n 3, 1) := by decide +kernel
theorem dX0_findBlocking_30 : decode cX0_findBlocking 30 = .ok (.if_icmp .ge 6, 3) := by decide +kernel
theorem dX0_findBlocking_33 : decode cX0_findBlocking 33 = .ok (.iload 4, 2) := by decide +kernel
theorem dX0_findBlocking_35 : decode cX0_findBlocking 35 = .ok (.ireturn, 1) := by decide +kernel
theorem dX0_findBlocking_36 : decode cX0_findBlocking 36 = .ok (.aload_n 1, 1) := by decide +kernel
theorem dX0_findBlocking_37 : decode cX0_findBlocking 37 = .ok (.getfield 50, 3) := by decide +kernel
theorem dX0_findBlocking_40 : decode cX0_findBlocking 40 = .ok (.iload 4, 2) := by decide +kernel
theorem dX0_findBlocking_42 : decode cX0_findBlocking 42 = .ok (.iaload, 1) := by decide +kernel
theorem dX0_findBlocking_43 : decode cX0_findBlocking 43 = .ok (.istore 4, 2) := by decide +kernel
theorem dX0_findBlocking_45 : decode cX0_findBlocking 45 = .ok (.iinc 5 1, 3) := by decide +kernel
theorem dX0_findBlocking_48 : decode cX0_findBlocking 48 = .ok (.goto (-42), 3) := by decide +kernel
theorem dX0_findBlocking_51 : decode cX0_findBlocking 51 = .ok (.bipush (-2), 2) := by decide +kernel
theorem dX0_findBlocking_53 : decode cX0_findBlocking 53 = .ok (.ireturn, 1) := by decide +kernel
theorem dX0_findLender_0 : decode cX0_findLender 0 = .ok (.bipush (-2), 2) := by decide +kernel
theorem dX0_findLender_2 : decode cX0_findLender 2 = .ok (.istore 4, 2) := by decide +kernel
theorem dX0_findLender_4 : decode cX0_findLender 4 = .ok (.iconst 1, 1) := by decide +kernel
theorem dX0_findLender_5 : decode cX0_findLender 5 = .ok (.istore 5, 2) := by decide +kernel
theorem dX0_findLender_7 : decode cX0_findLender 7 = .ok (.iload_n 2, 1) := by decide +kernel
theorem dX0_findLender_8 : decode cX0_findLender 8 = .ok (.istore 6, 2) := by decide +kernel
theorem dX0_findLender_10 : decode cX0_findLender 10 = .ok (.iconst 0, 1) := by decide +kernel
theorem dX0_findLender_11 : decode cX0_findLender 11 = .ok (.istore 7, 2) := by decide +kernel
theorem dX0_findLender_13 : decode cX0_findLender 13 = .ok (.iload 7, 2) := by decide +kernel
theorem dX0_findLender_15 : decode cX0_findLender 15 = .ok (.bipush 12, 2) := by decide +kernel
theorem dX0_findLender_17 : decode cX0_findLender 17 = .ok (.if_icmp .ge 98, 3) := by decide +kernel
theorem dX0_findLender_20 : decode cX0_findLender 20 = .ok (.aload_n 1, 1) := by decide +kernel
theorem dX0_findLender_21 : decode cX0_findLender 21 = .ok (.iload 6, 2) := by decide +kernel
theorem dX0_findLender_23 : decode cX0_findLender 23 = .ok (.invokevirtual 46, 3) := by decide +kernel
theorem dX0_findLender_26 : decode cX0_findLender 26 = .ok (.ifCond .eq 89, 3) := by decide +kernel
theorem dX0_findLender_29 : decode cX0_findLender 29 = .ok (.aload_n 0, 1) := by decide +kernel
theorem dX0_findLender_30 : decode cX0_findLender 30 = .ok (.getfield 18, 3) := by decide +kernel
theorem dX0_findLender_33 : decode cX0_findLender 33 = .ok (.iload 6, 2) := by decide +kernel
theorem dX0_findLender_35 : decode cX0_findLender 35 = .ok (.iaload, 1) := by decide +kernel
theorem dX0_findLender_36 : decode cX0_findLender 36 = .ok (.iload_n 3, 1) := by decide +kernel
theorem dX0_findLender_37 : decode cX0_findLender 37 = .ok (.if_icmp .ge 6, 3) := by decide +kernel
theorem dX0_findLender_40 : decode cX0_findLender 40 = .ok (.bipush (-2), 2) := by decide +kernel
theorem dX0_findLender_42 : decode cX0_findLender 42 = .ok (.ireturn, 1) := by decide +kernel
theorem dX0_findLender_43 : decode cX0_findLender 43 = .ok (.iload 5, 2) := by decide +kernel
theorem dX0_findLender_45 : decode cX0_findLender 45 = .ok (.ifCond .eq 26, 3) := by decide +kernel
theorem dX0_findLender_48 : decode cX0_findLender 48 = .ok (.aload_n 0, 1) := by decide +kernel
theorem dX0_findLender_49 : decode cX0_findLender 49 = .ok (.getfield 9, 3) := by decide +kernel
theorem dX0_findLender_52 : decode cX0_findLender 52 = .ok (.iload 6, 2) := by decide +kernel
theorem dX0_findLender_54 : decode cX0_findLender 54 = .ok (.iaload, 1) := by decide +kernel
theorem dX0_findLender_55 : decode cX0_findLender 55 = .ok (.aload_n 0, 1) := by decide +kernel
theorem dX0_findLender_56 : decode cX0_findLender 56 = .ok (.getfield 15, 3) := by decide +kernel
theorem dX0_findLender_59 : decode cX0_findLender 59 = .ok (.iload 6, 2) := by decide +kernel
theorem dX0_findLender_61 : decode cX0_findLender 61 = .ok (.iaload, 1) := by decide +kernel
theorem dX0_findLender_62 : decode cX0_findLender 62 = .ok (.iadd, 1) := by decide +kernel
theorem dX0_findLender_63 : decode cX0_findLender 63 = .ok (.iload_n 3, 1) := by decide +kernel
theorem dX0_findLender_64 : decode cX0_findLender 64 = .ok (.if_icmp .lt 7, 3) := by decide +kernel
theorem dX0_findLender_67 : decode cX0_findLender 67 = .ok (.iload 6, 2) := by decide +kernel
theorem dX0_findLender_69 : decode cX0_findLender 69 = .ok (.istore 4, 2) := by decide +kernel
theorem dX0_findLender_71 : decode cX0_findLender 71 = .ok (.iload 5, 2) := by decide +kernel
theorem dX0_findLender_73 : decode cX0_findLender 73 = .ok (.ifCond .eq 24, 3) := by decide +kernel
theorem dX0_findLender_76 : decode cX0_findLender 76 = .ok (.iload 4, 2) := by decide +kernel
theorem dX0_findLender_78 : decode cX0_findLender 78 = .ok (.bipush (-2), 2) := by decide +kernel
theorem dX0_findLender_80 : decode cX0_findLender 80 = .ok (.if_icmp .ne 17, 3) := by decide +kernel
theorem dX0_findLender_83 : decode cX0_findLender 83 = .ok (.aload_n 1, 1) := by decide +kernel
theorem dX0_findLender_84 : decode cX0_findLender 84 = .ok (.getfield 53, 3) := by decide +kernel
theorem dX0_findLender_87 : decode cX0_findLender 87 = .ok (.iload 6, 2) := by decide +kernel
theorem dX0_findLender_89 : decode cX0_findLender 89 = .ok (.baload, 1) := by decide +kernel
theorem dX0_findLender_90 : decode cX0_findLender 90 = .ok (.ifCond .ne 7, 3) := by decide +kernel
theorem dX0_findLender_93 : decode cX0_findLender 93 = .ok (.iconst 1, 1) := by decide +kernel
theorem dX0_findLender_94 : decode cX0_findLender 94 = .ok (.goto 4, 3) := by decide +kernel
theorem dX0_findLender_97 : decode cX0_findLender 97 = .ok (.iconst 0, 1) := by decide +kernel
theorem dX0_findLender_98 : decode cX0_findLender 98 = .ok (.istore 5, 2) := by decide +kernel
theorem dX0_findLender_100 : decode cX0_findLender 100 = .ok (.aload_n 1, 1) := by decide +kernel
theorem dX0_findLender_101 : decode cX0_findLender 101 = .ok (.getfield 50, 3) := by decide +kernel
theorem dX0_findLender_104 : decode cX0_findLender 104 = .ok (.iload 6, 2) := by decide +kernel
theorem dX0_findLender_106 : decode cX0_findLender 106 = .ok (.iaload, 1) := by decide +kernel
theorem dX0_findLender_107 : decode cX0_findLender 107 = .ok (.istore 6, 2) := by decide +kernel
theorem dX0_findLender_109 : decode cX0_findLender 109 = .ok (.iinc 7 1, 3) := by decide +kernel
theorem dX0_findLender_112 : decode cX0_findLender 112 = .ok (.goto (-99), 3) := by decide +kernel
theorem dX0_findLender_115 : decode cX0_findLender 115 = .ok (.iload 4, 2) := by decide +kernel
theorem dX0_findLender_117 : decode cX0_findLender 117 = .ok (.ireturn, 1) := by decide +kernel
theorem dX0_pay_0 : decode cX0_pay 0 = .ok (.iconst 0, 1) := by decide +kernel
theorem dX0_pay_1 : decode cX0_pay 1 = .ok (.istore 5, 2) := by decide +kernel
theorem dX0_pay_3 : decode cX0_pay 3 = .ok (.iload_n 2, 1) := by decide +kernel
theorem dX0_pay_4 : decode cX0_pay 4 = .ok (.istore 6, 2) := by decide +kernel
theorem dX0_pay_6 : decode cX0_pay 6 = .ok (.iconst 0, 1) := by decide +kernel
theorem dX0_pay_7 : decode cX0_pay 7 = .ok (.istore 7, 2) := by decide +kernel
theorem dX0_pay_9 : decode cX0_pay 9 = .ok (.iload 7, 2) := by decide +kernel
theorem dX0_pay_11 : decode cX0_pay 11 = .ok (.bipush 12, 2) := by decide +kernel
theorem dX0_pay_13 : decode cX0_pay 13 = .ok (.if_icmp .ge 103, 3) := by decide +kernel
theorem dX0_pay_16 : decode cX0_pay 16 = .ok (.aload_n 1, 1) := by decide +kernel
theorem dX0_pay_17 : decode cX0_pay 17 = .ok (.iload 6, 2) := by decide +kernel
theorem dX0_pay_19 : decode cX0_pay 19 = .ok (.invokevirtual 46, 3) := by decide +kernel
theorem dX0_pay_22 : decode cX0_pay 22 = .ok (.ifCond .eq 94, 3) := by decide +kernel
theorem dX0_pay_25 : decode cX0_pay 25 = .ok (.aload_n 0, 1) := by decide +kernel
theorem dX0_pay_26 : decode cX0_pay 26 = .ok (.getfield 18, 3) := by decide +kernel
theorem dX0_pay_29 : decode cX0_pay 29 = .ok (.iload 6, 2) := by decide +kernel
theorem dX0_pay_31 : decode cX0_pay 31 = .ok (.dup2, 1) := by decide +kernel
theorem dX0_pay_32 : decode cX0_pay 32 = .ok (.iaload, 1) := by decide +kernel
theorem dX0_pay_33 : decode cX0_pay 33 = .ok (.iload 4, 2) := by decide +kernel
theorem dX0_pay_35 : decode cX0_pay 35 = .ok (.isub, 1) := by decide +kernel
theorem dX0_pay_36 : decode cX0_pay 36 = .ok (.iastore, 1) := by decide +kernel
theorem dX0_pay_37 : decode cX0_pay 37 = .ok (.iload 5, 2) := by decide +kernel
theorem dX0_pay_39 : decode cX0_pay 39 = .ok (.ifCond .ne 9, 3) := by decide +kernel
theorem dX0_pay_42 : decode cX0_pay 42 = .ok (.iload 6, 2) := by decide +kernel
theorem dX0_pay_44 : decode cX0_pay 44 = .ok (.iload_n 3, 1) := by decide +kernel
theorem dX0_pay_45 : decode cX0_pay 45 = .ok (.if_icmp .ne 56, 3) := by decide +kernel
theorem dX0_pay_48 : decode cX0_pay 48 = .ok (.aload_n 0, 1) := by decide +kernel
theorem dX0_pay_49 : decode cX0_pay 49 = .ok (.getfield 9, 3) := by decide +kernel
theorem dX0_pay_52 : decode cX0_pay 52 = .ok (.iload 6, 2) := by decide +kernel
theorem dX0_pay_54 : decode cX0_pay 54 = .ok (.iaload, 1) := by decide +kernel
theorem dX0_pay_55 : decode cX0_pay 55 = .ok (.iload 4, 2) := by decide +kernel
theorem dX0_pay_57 : decode cX0_pay 57 = .ok (.invokestatic 43, 3) := by decide +kernel
theorem dX0_pay_60 : decode cX0_pay 60 = .ok (.istore 8, 2) := by decide +kernel
theorem dX0_pay_62 : decode cX0_pay 62 = .ok (.aload_n 0, 1) := by decide +kernel
theorem dX0_pay_63 : decode cX0_pay 63 = .ok (.getfield 9, 3) := by decide +kernel
theorem dX0_pay_66 : decode cX0_pay 66 = .ok (.iload 6, 2) := by decide +kernel
theorem dX0_pay_68 : decode cX0_pay 68 = .ok (.dup2, 1) := by decide +kernel
theorem dX0_pay_69 : decode cX0_pay 69 = .ok (.iaload, 1) := by decide +kernel
theorem dX0_pay_70 : decode cX0_pay 70 = .ok (.iload 8, 2) := by decide +kernel
theorem dX0_pay_72 : decode cX0_pay 72 = .ok (.isub, 1) := by decide +kernel
theorem dX0_pay_73 : decode cX0_pay 73 = .ok (.iastore, 1) := by decide +kernel
theorem dX0_pay_74 : decode cX0_pay 74 = .ok (.aload_n 0, 1) := by decide +kernel
theorem dX0_pay_75 : decode cX0_pay 75 = .ok (.getfield 15, 3) := by decide +kernel
theorem dX0_pay_78 : decode cX0_pay 78 = .ok (.iload 6, 2) := by decide +kernel
theorem dX0_pay_80 : decode cX0_pay 80 = .ok (.dup2, 1) := by decide +kernel
theorem dX0_pay_81 : decode cX0_pay 81 = .ok (.iaload, 1) := by decide +kernel
theorem dX0_pay_82 : decode cX0_pay 82 = .ok (.iload 5, 2) := by decide +kernel
theorem dX0_pay_84 : decode cX0_pay 84 = .ok (.ifCond .eq 7, 3) := by decide +kernel
theorem dX0_pay_87 : decode cX0_pay 87 = .ok (.iconst 0, 1) := by decide +kernel
theorem dX0_pay_88 : decode cX0_pay 88 = .ok (.goto 8, 3) := by decide +kernel
theorem dX0_pay_91 : decode cX0_pay 91 = .ok (.iload 4, 2) := by decide +kernel
theorem dX0_pay_93 : decode cX0_pay 93 = .ok (.iload 8, 2) := by decide +kernel
theorem dX0_pay_95 : decode cX0_pay 95 = .ok (.isub, 1) := by decide +kernel
theorem dX0_pay_96 : decode cX0_pay 96 = .ok (.isub, 1) := by decide +kernel
theorem dX0_pay_97 : decode cX0_pay 97 = .ok (.iastore, 1) := by decide +kernel
theorem dX0_pay_98 : decode cX0_pay 98 = .ok (.iconst 1, 1) := by decide +kernel
theorem dX0_pay_99 : decode cX0_pay 99 = .ok (.istore 5, 2) := by decide +kernel
theorem dX0_pay_101 : decode cX0_pay 101 = .ok (.aload_n 1, 1) := by decide +kernel
theorem dX0_pay_102 : decode cX0_pay 102 = .ok (.getfield 50, 3) := by decide +kernel
theorem dX0_pay_105 : decode cX0_pay 105 = .ok (.iload 6, 2) := by decide +kernel
theorem dX0_pay_107 : decode cX0_pay 107 = .ok (.iaload, 1) := by decide +kernel
theorem dX0_pay_108 : decode cX0_pay 108 = .ok (.istore 6, 2) := by decide +kernel
theorem dX0_pay_110 : decode cX0_pay 110 = .ok (.iinc 7 1, 3) := by decide +kernel
theorem dX0_pay_113 : decode cX0_pay 113 = .ok (.goto (-104), 3) := by decide +kernel
theorem dX0_pay_116 : decode cX0_pay 116 = .ok (.return_, 1) := by decide +kernel
theorem dX0_payOften_0 : decode cX0_payOften 0 = .ok (.iconst 0, 1) := by decide +kernel
theorem dX0_payOften_1 : decode cX0_payOften 1 = .ok (.istore 4, 2) := by decide +kernel
theorem dX0_payOften_3 : decode cX0_payOften 3 = .ok (.iload 4, 2) := by decide +kernel
theorem dX0_payOften_5 : decode cX0_payOften 5 = .ok (.sipush 999, 3) := by decide +kernel
theorem dX0_payOften_8 : decode cX0_payOften 8 = .ok (.if_icmp .ge 37, 3) := by decide +kernel
theorem dX0_payOften_11 : decode cX0_payOften 11 = .ok (.aload_n 0, 1) := by decide +kernel
theorem dX0_payOften_12 : decode cX0_payOften 12 = .ok (.aload_n 1, 1) := by decide +kernel
theorem dX0_payOften_13 : decode cX0_payOften 13 = .ok (.iload_n 2, 1) := by decide +kernel
theorem dX0_payOften_14 : decode cX0_payOften 14 = .ok (.iload_n 3, 1) := by decide +kernel
theorem dX0_payOften_15 : decode cX0_payOften 15 = .ok (.invokevirtual 57, 3) := by decide +kernel
theorem dX0_payOften_18 : decode cX0_payOften 18 = .ok (.istore 5, 2) := by decide +kernel
theorem dX0_payOften_20 : decode cX0_payOften 20 = .ok (.iload 5, 2) := by decide +kernel
theorem dX0_payOften_22 : decode cX0_payOften 22 = .ok (.bipush (-2), 2) := by decide +kernel
theorem dX0_payOften_24 : decode cX0_payOften 24 = .ok (.if_icmp .ne 6, 3) := by decide +kernel
theorem dX0_payOften_27 : decode cX0_payOften 27 = .ok (.iload 4, 2) := by decide +kernel
theorem dX0_payOften_29 : decode cX0_payOften 29 = .ok (.ireturn, 1) := by decide +kernel
theorem dX0_payOften_30 : decode cX0_payOften 30 = .ok (.aload_n 0, 1) := by decide +kernel
theorem dX0_payOften_31 : decode cX0_payOften 31 = .ok (.aload_n 1, 1) := by decide +kernel
theorem dX0_payOften_32 : decode cX0_payOften 32 = .ok (.iload_n 2, 1) := by decide +kernel
theorem dX0_payOften_33 : decode cX0_payOften 33 = .ok (.iload 5, 2) := by decide +kernel
theorem dX0_payOften_35 : decode cX0_payOften 35 = .ok (.iload_n 3, 1) := by decide +kernel
theorem dX0_payOften_36 : decode cX0_payOften 36 = .ok (.invokevirtual 61, 3) := by decide +kernel
theorem dX0_payOften_39 : decode cX0_payOften 39 = .ok (.iinc 4 1, 3) := by decide +kernel
theorem dX0_payOften_42 : decode cX0_payOften 42 = .ok (.goto (-39), 3) := by decide +kernel
theorem dX0_payOften_45 : decode cX0_payOften 45 = .ok (.sipush 999, 3) := by decide +kernel
theorem dX0_payOften_48 : decode cX0_payOften 48 = .ok (.ireturn, 1) := by decide +kernel
theorem dX1_init_0 : decode cX1_init 0 = .ok (.aload_n 0, 1) := by decide +kernel
theorem dX1_init_1 : decode cX1_init 1 = .ok (.invokespecial 3, 3) := by decide +kernel
theorem dX1_init_4 : decode cX1_init 4 = .ok (.aload_n 0, 1) := by decide +kernel
theorem dX1_init_5 : decode cX1_init 5 = .ok (.bipush 12, 2) := by decide +kernel
theorem dX1_init_7 : decode cX1_init 7 = .ok (.newarray .int, 2) := by decide +kernel
theorem dX1_init_9 : decode cX1_init 9 = .ok (.putfield 9, 3) := by decide +kernel
theorem dX1_init_12 : decode cX1_init 12 = .ok (.aload_n 0, 1) := by decide +kernel
theorem dX1_init_13 : decode cX1_init 13 = .ok (.bipush 12, 2) := by decide +kernel
theorem dX1_init_15 : decode cX1_init 15 = .ok (.newarray .int, 2) := by decide +kernel
theorem dX1_init_17 : decode cX1_init 17 = .ok (.putfield 15, 3) := by decide +kernel
theorem dX1_init_20 : decode cX1_init 20 = .ok (.aload_n 0, 1) := by decide +kernel
theorem dX1_init_21 : decode cX1_init 21 = .ok (.bipush 12, 2) := by decide +kernel
theorem dX1_init_23 : decode cX1_init 23 = .ok (.newarray .int, 2) := by decide +kernel
theorem dX1_init_25 : decode cX1_init 25 = .ok (.putfield 18, 3) := by decide +kernel
theorem dX1_init_28 : decode cX1_init 28 = .ok (.aload_n 0, 1) := by decide +kernel
theorem dX1_init_29 : decode cX1_init 29 = .ok (.bipush 12, 2) := by decide +kernel
theorem dX1_init_31 : decode cX1_init 31 = .ok (.newarray .int, 2) := by decide +kernel
theorem dX1_init_33 : decode cX1_init 33 = .ok (.putfield 21, 3) := by decide +kernel
theorem dX1_init_36 : decode cX1_init 36 = .ok (.return_, 1) := by decide +kernel
theorem dX1_add_0 : decode cX1_add 0 = .ok (.aload_n 0, 1) := by decide +kernel
theorem dX1_add_1 : decode cX1_add 1 = .ok (.getfield 24, 3) := by decide +kernel
theorem dX1_add_4 : decode cX1_add 4 = .ok (.bipush 12, 2) := by decide +kernel
theorem dX1_add_6 : decode cX1_add 6 = .ok (.if_icmp .lt 4, 3) := by decide +kernel
theorem dX1_add_9 : decode cX1_add 9 = .ok (.return_, 1) := by decide +kernel
theorem dX1_add_10 : decode cX1_add 10 = .ok (.aload_n 0, 1) := by decide +kernel
theorem dX1_add_11 : decode cX1_add 11 = .ok (.getfield 9, 3) := by decide +kernel
theorem dX1_add_14 : decode cX1_add 14 = .ok (.aload_n 0, 1) := by decide +kernel
theorem dX1_add_15 : decode cX1_add 15 = .ok (.getfield 24, 3) := by decide +kernel
theorem dX1_add_18 : decode cX1_add 18 = .ok (.iload_n 1, 1) := by decide +kernel
theorem dX1_add_19 : decode cX1_add 19 = .ok (.iastore, 1) := by decide +kernel
theorem dX1_add_20 : decode cX1_add 20 = .ok (.aload_n 0, 1) := by decide +kernel
theorem dX1_add_21 : decode cX1_add 21 = .ok (.getfield 15, 3) := by decide +kernel
theorem dX1_add_24 : decode cX1_add 24 = .ok (.aload_n 0, 1) := by decide +kernel
theorem dX1_add_25 : decode cX1_add 25 = .ok (.getfield 24, 3) := by decide +kernel
theorem dX1_add_28 : decode cX1_add 28 = .ok (.iload_n 2, 1) := by decide +kernel
theorem dX1_add_29 : decode cX1_add 29 = .ok (.iastore, 1) := by decide +kernel
theorem dX1_add_30 : decode cX1_add 30 = .ok (.aload_n 0, 1) := by decide +kernel
theorem dX1_add_31 : decode cX1_add 31 = .ok (.getfield 18, 3) := by decide +kernel
theorem dX1_add_34 : decode cX1_add 34 = .ok (.aload_n 0, 1) := by decide +kernel
theorem dX1_add_35 : decode cX1_add 35 = .ok (.getfield 24, 3) := by decide +kernel
theorem dX1_add_38 : decode cX1_add 38 = .ok (.iload_n 3, 1) := by decide +kernel
theorem dX1_add_39 : decode cX1_add 39 = .ok (.iastore, 1) := by decide +kernel
theorem dX1_add_40 : decode cX1_add 40 = .ok (.aload_n 0, 1) := by decide +kernel
theorem dX1_add_41 : decode cX1_add 41 = .ok (.getfield 21, 3) := by decide +kernel
theorem dX1_add_44 : decode cX1_add 44 = .ok (.aload_n 0, 1) := by decide +kernel
theorem dX1_add_45 : decode cX1_add 45 = .ok (.getfield 24, 3) := by decide +kernel
theorem dX1_add_48 : decode cX1_add 48 = .ok (.iload 4, 2) := by decide +kernel
theorem dX1_add_50 : decode cX1_add 50 = .ok (.iastore, 1) := by decide +kernel
theorem dX1_add_51 : decode cX1_add 51 = .ok (.aload_n 0, 1) := by decide +kernel
theorem dX1_add_52 : decode cX1_add 52 = .ok (.dup, 1) := by decide +kernel
theorem dX1_add_53 : decode cX1_add 53 = .ok (.getfield 24, 3) := by decide +kernel
theorem dX1_add_56 : decode cX1_add 56 = .ok (.iconst 1, 1) := by decide +kernel
theorem dX1_add_57 : decode cX1_add 57 = .ok (.iadd, 1) := by decide +kernel
theorem dX1_add_58 : decode cX1_add 58 = .ok (.putfield 24, 3) := by decide +kernel
theorem dX1_add_61 : decode cX1_add 61 = .ok (.return_, 1) := by decide +kernel
theorem dX2_init_0 : decode cX2_init 0 = .ok (.aload_n 0, 1) := by decide +kernel
theorem dX2_init_1 : decode cX2_init 1 = .ok (.invokespecial 3, 3) := by decide +kernel
theorem dX2_init_4 : decode cX2_init 4 = .ok (.aload_n 0, 1) := by decide +kernel
theorem dX2_init_5 : decode cX2_init 5 = .ok (.bipush 12, 2) := by decide +kernel
theorem dX2_init_7 : decode cX2_init 7 = .ok (.newarray .int, 2) := by decide +kernel
theorem dX2_init_9 : decode cX2_init 9 = .ok (.putfield 9, 3) := by decide +kernel
theorem dX2_init_12 : decode cX2_init 12 = .ok (.aload_n 0, 1) := by decide +kernel
theorem dX2_init_13 : decode cX2_init 13 = .ok (.bipush 12, 2) := by decide +kernel
theorem dX2_init_15 : decode cX2_init 15 = .ok (.newarray .int, 2) := by decide +kernel
theorem dX2_init_17 : decode cX2_init 17 = .ok (.putfield 15, 3) := by decide +kernel
theorem dX2_init_20 : decode cX2_init 20 = .ok (.aload_n 0, 1) := by decide +kernel
theorem dX2_init_21 : decode cX2_init 21 = .ok (.bipush 12, 2) := by decide +kernel
theorem dX2_init_23 : decode cX2_init 23 = .ok (.newarray .int, 2) := by decide +kernel
theorem dX2_init_25 : decode cX2_init 25 = .ok (.putfield 18, 3) := by decide +kernel
theorem dX2_init_28 : decode cX2_init 28 = .ok (.aload_n 0, 1) := by decide +kernel
theorem dX2_init_29 : decode cX2_init 29 = .ok (.bipush 12, 2) := by decide +kernel
theorem dX2_init_31 : decode cX2_init 31 = .ok (.newarray .int, 2) := by decide +kernel
theorem dX2_init_33 : decode cX2_init 33 = .ok (.putfield 21, 3) := by decide +kernel
theorem dX2_init_36 : decode cX2_init 36 = .ok (.aload_n 0, 1) := by decide +kernel
theorem dX2_init_37 : decode cX2_init 37 = .ok (.bipush 12, 2) := by decide +kernel
theorem dX2_init_39 : decode cX2_init 39 = .ok (.newarray .int, 2) := by decide +kernel
theorem dX2_init_41 : decode cX2_init 41 = .ok (.putfield 24, 3) := by decide +kernel
theorem dX2_init_44 : decode cX2_init 44 = .ok (.return_, 1) := by decide +kernel
theorem dX2_begin_0 : decode cX2_begin 0 = .ok (.aload_n 0, 1) := by decide +kernel
theorem dX2_begin_1 : decode cX2_begin 1 = .ok (.getfield 9, 3) := by decide +kernel
theorem dX2_begin_4 : decode cX2_begin 4 = .ok (.invokestatic 27, 3) := by decide +kernel
theorem dX2_begin_7 : decode cX2_begin 7 = .ok (.aload_n 0, 1) := by decide +kernel
theorem dX2_begin_8 : decode cX2_begin 8 = .ok (.getfield 15, 3) := by decide +kernel
theorem dX2_begin_11 : decode cX2_begin 11 = .ok (.invokestatic 27, 3) := by decide +kernel
theorem dX2_begin_14 : decode cX2_begin 14 = .ok (.aload_n 0, 1) := by decide +kernel
theorem dX2_begin_15 : decode cX2_begin 15 = .ok (.getfield 18, 3) := by decide +kernel
theorem dX2_begin_18 : decode cX2_begin 18 = .ok (.invokestatic 27, 3) := by decide +kernel
theorem dX2_begin_21 : decode cX2_begin 21 = .ok (.aload_n 0, 1) := by decide +kernel
theorem dX2_begin_22 : decode cX2_begin 22 = .ok (.getfield 21, 3) := by decide +kernel
theorem dX2_begin_25 : decode cX2_begin 25 = .ok (.invokestatic 27, 3) := by decide +kernel
theorem dX2_begin_28 : decode cX2_begin 28 = .ok (.aload_n 0, 1) := by decide +kernel
theorem dX2_begin_29 : decode cX2_begin 29 = .ok (.getfield 24, 3) := by decide +kernel
theorem dX2_begin_32 : decode cX2_begin 32 = .ok (.invokestatic 27, 3) := by decide +kernel
theorem dX2_begin_35 : decode cX2_begin 35 = .ok (.return_, 1) := by decide +kernel
theorem dX2_copyFrom_0 : decode cX2_copyFrom 0 = .ok (.aload_n 1, 1) := by decide +kernel
theorem dX2_copyFrom_1 : decode cX2_copyFrom 1 = .ok (.getfield 9, 3) := by decide +kernel
theorem dX2_copyFrom_4 : decode cX2_copyFrom 4 = .ok (.aload_n 0, 1) := by decide +kernel
theorem dX2_copyFrom_5 : decode cX2_copyFrom 5 = .ok (.getfield 9, 3) := by decide +kernel
theorem dX2_copyFrom_8 : decode cX2_copyFrom 8 = .ok (.invokestatic 31, 3) := by decide +kernel
theorem dX2_copyFrom_11 : decode cX2_copyFrom 11 = .ok (.aload_n 1, 1) := by decide +kernel
theorem dX2_copyFrom_12 : decode cX2_copyFrom 12 = .ok (.getfield 15, 3) := by decide +kernel
theorem dX2_copyFrom_15 : decode cX2_copyFrom 15 = .ok (.aload_n 0, 1) := by decide +kernel
theorem dX2_copyFrom_16 : decode cX2_copyFrom 16 = .ok (.getfield 15, 3) := by decide +kernel
theorem dX2_copyFrom_19 : decode cX2_copyFrom 19 = .ok (.invokestatic 31, 3) := by decide +kernel
theorem dX2_copyFrom_22 : decode cX2_copyFrom 22 = .ok (.aload_n 1, 1) := by decide +kernel
theorem dX2_copyFrom_23 : decode cX2_copyFrom 23 = .ok (.getfield 18, 3) := by decide +kernel
theorem dX2_copyFrom_26 : decode cX2_copyFrom 26 = .ok (.aload_n 0, 1) := by decide +kernel
theorem dX2_copyFrom_27 : decode cX2_copyFrom 27 = .ok (.getfield 18, 3) := by decide +kernel
theorem dX2_copyFrom_30 : decode cX2_copyFrom 30 = .ok (.invokestatic 31, 3) := by decide +kernel
theorem dX2_copyFrom_33 : decode cX2_copyFrom 33 = .ok (.aload_n 1, 1) := by decide +kernel
theorem dX2_copyFrom_34 : decode cX2_copyFrom 34 = .ok (.getfield 21, 3) := by decide +kernel
theorem dX2_copyFrom_37 : decode cX2_copyFrom 37 = .ok (.aload_n 0, 1) := by decide +kernel
theorem dX2_copyFrom_38 : decode cX2_copyFrom 38 = .ok (.getfield 21, 3) := by decide +kernel
theorem dX2_copyFrom_41 : decode cX2_copyFrom 41 = .ok (.invokestatic 31, 3) := by decide +kernel
theorem dX2_copyFrom_44 : decode cX2_copyFrom 44 = .ok (.aload_n 1, 1) := by decide +kernel
theorem dX2_copyFrom_45 : decode cX2_copyFrom 45 = .ok (.getfield 24, 3) := by decide +kernel
theorem dX2_copyFrom_48 : decode cX2_copyFrom 48 = .ok (.aload_n 0, 1) := by decide +kernel
theorem dX2_copyFrom_49 : decode cX2_copyFrom 49 = .ok (.getfield 24, 3) := by decide +kernel
theorem dX2_copyFrom_52 : decode cX2_copyFrom 52 = .ok (.invokestatic 31, 3) := by decide +kernel
theorem dX2_copyFrom_55 : decode cX2_copyFrom 55 = .ok (.return_, 1) := by decide +kernel
theorem dX2_countSent_0 : decode cX2_countSent 0 = .ok (.aload_n 0, 1) := by decide +kernel
theorem dX2_countSent_1 : decode cX2_countSent 1 = .ok (.getfield 9, 3) := by decide +kernel
theorem dX2_countSent_4 : decode cX2_countSent 4 = .ok (.iload_n 1, 1) := by decide +kernel
theorem dX2_countSent_5 : decode cX2_countSent 5 = .ok (.dup2, 1) := by decide +kernel
theorem dX2_countSent_6 : decode cX2_countSent 6 = .ok (.iaload, 1) := by decide +kernel
theorem dX2_countSent_7 : decode cX2_countSent 7 = .ok (.iload_n 3, 1) := by decide +kernel
theorem dX2_countSent_8 : decode cX2_countSent 8 = .ok (.iadd, 1) := by decide +kernel
theorem dX2_countSent_9 : decode cX2_countSent 9 = .ok (.iastore, 1) := by decide +kernel
theorem dX2_countSent_10 : decode cX2_countSent 10 = .ok (.aload_n 0, 1) := by decide +kernel
theorem dX2_countSent_11 : decode cX2_countSent 11 = .ok (.getfield 15, 3) := by decide +kernel
theorem dX2_countSent_14 : decode cX2_countSent 14 = .ok (.iload_n 1, 1) := by decide +kernel
theorem dX2_countSent_15 : decode cX2_countSent 15 = .ok (.dup2, 1) := by decide +kernel
theorem dX2_countSent_16 : decode cX2_countSent 16 = .ok (.iaload, 1) := by decide +kernel
theorem dX2_countSent_17 : decode cX2_countSent 17 = .ok (.iconst 1, 1) := by decide +kernel
theorem dX2_countSent_18 : decode cX2_countSent 18 = .ok (.iadd, 1) := by decide +kernel
theorem dX2_countSent_19 : decode cX2_countSent 19 = .ok (.iastore, 1) := by decide +kernel
theorem dX2_countSent_20 : decode cX2_countSent 20 = .ok (.iload_n 2, 1) := by decide +kernel
theorem dX2_countSent_21 : decode cX2_countSent 21 = .ok (.iload_n 1, 1) := by decide +kernel
theorem dX2_countSent_22 : decode cX2_countSent 22 = .ok (.if_icmp .eq 23, 3) := by decide +kernel
theorem dX2_countSent_25 : decode cX2_countSent 25 = .ok (.aload_n 0, 1) := by decide +kernel
theorem dX2_countSent_26 : decode cX2_countSent 26 = .ok (.getfield 18, 3) := by decide +kernel
theorem dX2_countSent_29 : decode cX2_countSent 29 = .ok (.iload_n 1, 1) := by decide +kernel
theorem dX2_countSent_30 : decode cX2_countSent 30 = .ok (.dup2, 1) := by decide +kernel
theorem dX2_countSent_31 : decode cX2_countSent 31 = .ok (.iaload, 1) := by decide +kernel
theorem dX2_countSent_32 : decode cX2_countSent 32 = .ok (.iload_n 3, 1) := by decide +kernel
theorem dX2_countSent_33 : decode cX2_countSent 33 = .ok (.iadd, 1) := by decide +kernel
theorem dX2_countSent_34 : decode cX2_countSent 34 = .ok (.iastore, 1) := by decide +kernel
theorem dX2_countSent_35 : decode cX2_countSent 35 = .ok (.aload_n 0, 1) := by decide +kernel
theorem dX2_countSent_36 : decode cX2_countSent 36 = .ok (.getfield 21, 3) := by decide +kernel
theorem dX2_countSent_39 : decode cX2_countSent 39 = .ok (.iload_n 2, 1) := by decide +kernel
theorem dX2_countSent_40 : decode cX2_countSent 40 = .ok (.dup2, 1) := by decide +kernel
theorem dX2_countSent_41 : decode cX2_countSent 41 = .ok (.iaload, 1) := by decide +kernel
theorem dX2_countSent_42 : decode cX2_countSent 42 = .ok (.iload_n 3, 1) := by decide +kernel
theorem dX2_countSent_43 : decode cX2_countSent 43 = .ok (.iadd, 1) := by decide +kernel
theorem dX2_countSent_44 : decode cX2_countSent 44 = .ok (.iastore, 1) := by decide +kernel
theorem dX2_countSent_45 : decode cX2_countSent 45 = .ok (.return_, 1) := by decide +kernel
theorem dX3_init_0 : decode cX3_init 0 = .ok (.aload_n 0, 1) := by decide +kernel
theorem dX3_init_1 : decode cX3_init 1 = .ok (.invokespecial 3, 3) := by decide +kernel
theorem dX3_init_4 : decode cX3_init 4 = .ok (.aload_n 0, 1) := by decide +kernel
theorem dX3_init_5 : decode cX3_init 5 = .ok (.bipush 24, 2) := by decide +kernel
theorem dX3_init_7 : decode cX3_init 7 = .ok (.newarray .int, 2) := by decide +kernel
theorem dX3_init_9 : decode cX3_init 9 = .ok (.putfield 9, 3) := by decide +kernel
theorem dX3_init_12 : decode cX3_init 12 = .ok (.aload_n 0, 1) := by decide +kernel
theorem dX3_init_13 : decode cX3_init 13 = .ok (.bipush 24, 2) := by decide +kernel
theorem dX3_init_15 : decode cX3_init 15 = .ok (.newarray .int, 2) := by decide +kernel
theorem dX3_init_17 : decode cX3_init 17 = .ok (.putfield 15, 3) := by decide +kernel
theorem dX3_init_20 : decode cX3_init 20 = .ok (.aload_n 0, 1) := by decide +kernel
theorem dX3_init_21 : decode cX3_init 21 = .ok (.bipush 24, 2) := by decide +kernel
theorem dX3_init_23 : decode cX3_init 23 = .ok (.newarray .int, 2) := by decide +kernel
theorem dX3_init_25 : decode cX3_init 25 = .ok (.putfield 18, 3) := by decide +kernel
theorem dX3_init_28 : decode cX3_init 28 = .ok (.aload_n 0, 1) := by decide +kernel
theorem dX3_init_29 : decode cX3_init 29 = .ok (.bipush 24, 2) := by decide +kernel
theorem dX3_init_31 : decode cX3_init 31 = .ok (.newarray .int, 2) := by decide +kernel
theorem dX3_init_33 : decode cX3_init 33 = .ok (.putfield 21, 3) := by decide +kernel
theorem dX3_init_36 : decode cX3_init 36 = .ok (.return_, 1) := by decide +kernel
theorem dX3_copyFrom_0 : decode cX3_copyFrom 0 = .ok (.aload_n 0, 1) := by decide +kernel
theorem dX3_copyFrom_1 : decode cX3_copyFrom 1 = .ok (.aload_n 1, 1) := by decide +kernel
theorem dX3_copyFrom_2 : decode cX3_copyFrom 2 = .ok (.getfield 24, 3) := by decide +kernel
theorem dX3_copyFrom_5 : decode cX3_copyFrom 5 = .ok (.putfield 24, 3) := by decide +kernel
theorem dX3_copyFrom_8 : decode cX3_copyFrom 8 = .ok (.aload_n 1, 1) := by decide +kernel
theorem dX3_copyFrom_9 : decode cX3_copyFrom 9 = .ok (.getfield 9, 3) := by decide +kernel
theorem dX3_copyFrom_12 : decode cX3_copyFrom 12 = .ok (.aload_n 0, 1) := by decide +kernel
theorem dX3_copyFrom_13 : decode cX3_copyFrom 13 = .ok (.getfield 9, 3) := by decide +kernel
theorem dX3_copyFrom_16 : decode cX3_copyFrom 16 = .ok (.invokestatic 28, 3) := by decide +kernel
theorem dX3_copyFrom_19 : decode cX3_copyFrom 19 = .ok (.aload_n 1, 1) := by decide +kernel
theorem dX3_copyFrom_20 : decode cX3_copyFrom 20 = .ok (.getfield 15, 3) := by decide +kernel
theorem dX3_copyFrom_23 : decode cX3_copyFrom 23 = .ok (.aload_n 0, 1) := by decide +kernel
theorem dX3_copyFrom_24 : decode cX3_copyFrom 24 = .ok (.getfield 15, 3) := by decide +kernel
theorem dX3_copyFrom_27 : decode cX3_copyFrom 27 = .ok (.invokestatic 28, 3) := by decide +kernel
theorem dX3_copyFrom_30 : decode cX3_copyFrom 30 = .ok (.aload_n 1, 1) := by decide +kernel
theorem dX3_copyFrom_31 : decode cX3_copyFrom 31 = .ok (.getfield 18, 3) := by decide +kernel
theorem dX3_copyFrom_34 : decode cX3_copyFrom 34 = .ok (.aload_n 0, 1) := by decide +kernel
theorem dX3_copyFrom_35 : decode cX3_copyFrom 35 = .ok (.getfield 18, 3) := by decide +kernel
theorem dX3_copyFrom_38 : decode cX3_copyFrom 38 = .ok (.invokestatic 28, 3) := by decide +kernel
theorem dX3_copyFrom_41 : decode cX3_copyFrom 41 = .ok (.aload_n 1, 1) := by decide +kernel
theorem dX3_copyFrom_42 : decode cX3_copyFrom 42 = .ok (.getfield 21, 3) := by decide +kernel
theorem dX3_copyFrom_45 : decode cX3_copyFrom 45 = .ok (.aload_n 0, 1) := by decide +kernel
theorem dX3_copyFrom_46 : decode cX3_copyFrom 46 = .ok (.getfield 21, 3) := by decide +kernel
theorem dX3_copyFrom_49 : decode cX3_copyFrom 49 = .ok (.invokestatic 28, 3) := by decide +kernel
theorem dX3_copyFrom_52 : decode cX3_copyFrom 52 = .ok (.return_, 1) := by decide +kernel
theorem dX3_add_0 : decode cX3_add 0 = .ok (.aload_n 0, 1) := by decide +kernel
theorem dX3_add_1 : decode cX3_add 1 = .ok (.getfield 9, 3) := by decide +kernel
theorem dX3_add_4 : decode cX3_add 4 = .ok (.iload_n 1, 1) := by decide +kernel
theorem dX3_add_5 : decode cX3_add 5 = .ok (.invokestatic 32, 3) := by decide +kernel
theorem dX3_add_8 : decode cX3_add 8 = .ok (.aload_n 0, 1) := by decide +kernel
theorem dX3_add_9 : decode cX3_add 9 = .ok (.getfield 15, 3) := by decide +kernel
theorem dX3_add_12 : decode cX3_add 12 = .ok (.iload_n 2, 1) := by decide +kernel
theorem dX3_add_13 : decode cX3_add 13 = .ok (.invokestatic 32, 3) := by decide +kernel
theorem dX3_add_16 : decode cX3_add 16 = .ok (.aload_n 0, 1) := by decide +kernel
theorem dX3_add_17 : decode cX3_add 17 = .ok (.getfield 18, 3) := by decide +kernel
theorem dX3_add_20 : decode cX3_add 20 = .ok (.iload_n 3, 1) := by decide +kernel
theorem dX3_add_21 : decode cX3_add 21 = .ok (.invokestatic 32, 3) := by decide +kernel
theorem dX3_add_24 : decode cX3_add 24 = .ok (.aload_n 0, 1) := by decide +kernel
theorem dX3_add_25 : decode cX3_add 25 = .ok (.getfield 21, 3) := by decide +kernel
theorem dX3_add_28 : decode cX3_add 28 = .ok (.iload 4, 2) := by decide +kernel
theorem dX3_add_30 : decode cX3_add 30 = .ok (.invokestatic 32, 3) := by decide +kernel
theorem dX3_add_33 : decode cX3_add 33 = .ok (.aload_n 0, 1) := by decide +kernel
theorem dX3_add_34 : decode cX3_add 34 = .ok (.bipush 24, 2) := by decide +kernel
theorem dX3_add_36 : decode cX3_add 36 = .ok (.aload_n 0, 1) := by decide +kernel
theorem dX3_add_37 : decode cX3_add 37 = .ok (.getfield 24, 3) := by decide +kernel
theorem dX3_add_40 : decode cX3_add 40 = .ok (.iconst 1, 1) := by decide +kernel
theorem dX3_add_41 : decode cX3_add 41 = .ok (.iadd, 1) := by decide +kernel
theorem dX3_add_42 : decode cX3_add 42 = .ok (.invokestatic 36, 3) := by decide +kernel
theorem dX3_add_45 : decode cX3_add 45 = .ok (.putfield 24, 3) := by decide +kernel
theorem dX3_add_48 : decode cX3_add 48 = .ok (.return_, 1) := by decide +kernel
theorem dX3_putFirst_0 : decode cX3_putFirst 0 = .ok (.aload_n 0, 1) := by decide +kernel
theorem dX3_putFirst_1 : decode cX3_putFirst 1 = .ok (.iconst 0, 1) := by decide +kernel
theorem dX3_putFirst_2 : decode cX3_putFirst 2 = .ok (.aload_n 0, 1) := by decide +kernel
theorem dX3_putFirst_3 : decode cX3_putFirst 3 = .ok (.iconst 1, 1) := by decide +kernel
theorem dX3_putFirst_4 : decode cX3_putFirst 4 = .ok (.bipush 23, 2) := by decide +kernel
theorem dX3_putFirst_6 : decode cX3_putFirst 6 = .ok (.invokestatic 42, 3) := by decide +kernel
theorem dX3_putFirst_9 : decode cX3_putFirst 9 = .ok (.aload_n 0, 1) := by decide +kernel
theorem dX3_putFirst_10 : decode cX3_putFirst 10 = .ok (.iconst 0, 1) := by decide +kernel
theorem dX3_putFirst_11 : decode cX3_putFirst 11 = .ok (.iload_n 1, 1) := by decide +kernel
theorem dX3_putFirst_12 : decode cX3_putFirst 12 = .ok (.iastore, 1) := by decide +kernel
theorem dX3_putFirst_13 : decode cX3_putFirst 13 = .ok (.return_, 1) := by decide +kernel
theorem dX3_sumSince_0 : decode cX3_sumSince 0 = .ok (.iconst 0, 1) := by decide +kernel
theorem dX3_sumSince_1 : decode cX3_sumSince 1 = .ok (.istore_n 3, 1) := by decide +kernel
theorem dX3_sumSince_2 : decode cX3_sumSince 2 = .ok (.iconst 0, 1) := by decide +kernel
theorem dX3_sumSince_3 : decode cX3_sumSince 3 = .ok (.istore 4, 2) := by decide +kernel
theorem dX3_sumSince_5 : decode cX3_sumSince 5 = .ok (.iload 4, 2) := by decide +kernel
theorem dX3_sumSince_7 : decode cX3_sumSince 7 = .ok (.aload_n 0, 1) := by decide +kernel
theorem dX3_sumSince_8 : decode cX3_sumSince 8 = .ok (.getfield 24, 3) := by decide +kernel
theorem dX3_sumSince_11 : decode cX3_sumSince 11 = .ok (.if_icmp .ge 41, 3) := by decide +kernel
theorem dX3_sumSince_14 : decode cX3_sumSince 14 = .ok (.iload_n 1, 1) := by decide +kernel
theorem dX3_sumSince_15 : decode cX3_sumSince 15 = .ok (.aload_n 0, 1) := by decide +kernel
theorem dX3_sumSince_16 : decode cX3_sumSince 16 = .ok (.getfield 21, 3) := by decide +kernel
theorem dX3_sumSince_19 : decode cX3_sumSince 19 = .ok (.iload 4, 2) := by decide +kernel
theorem dX3_sumSince_21 : decode cX3_sumSince 21 = .ok (.iaload, 1) := by decide +kernel
theorem dX3_sumSince_22 : decode cX3_sumSince 22 = .ok (.isub, 1) := by decide +kernel
theorem dX3_sumSince_23 : decode cX3_sumSince 23 = .ok (.istore 5, 2) := by decide +kernel
theorem dX3_sumSince_25 : decode cX3_sumSince 25 = .ok (.iload 5, 2) := by decide +kernel
theorem dX3_sumSince_27 : decode cX3_sumSince 27 = .ok (.ifCond .lt 19, 3) := by decide +kernel
theorem dX3_sumSince_30 : decode cX3_sumSince 30 = .ok (.iload 5, 2) := by decide +kernel
theorem dX3_sumSince_32 : decode cX3_sumSince 32 = .ok (.iload_n 2, 1) := by decide +kernel
theorem dX3_sumSince_33 : decode cX3_sumSince 33 = .ok (.if_icmp .ge 13, 3) := by decide +kernel
theorem dX3_sumSince_36 : decode cX3_sumSince 36 = .ok (.iload_n 3, 1) := by decide +kernel
theorem dX3_sumSince_37 : decode cX3_sumSince 37 = .ok (.aload_n 0, 1) := by decide +kernel
theorem dX3_sumSince_38 : decode cX3_sumSince 38 = .ok (.getfield 15, 3) := by decide +kernel
theorem dX3_sumSince_41 : decode cX3_sumSince 41 = .ok (.iload 4, 2) := by decide +kernel
theorem dX3_sumSince_43 : decode cX3_sumSince 43 = .ok (.iaload, 1) := by decide +kernel
theorem dX3_sumSince_44 : decode cX3_sumSince 44 = .ok (.iadd, 1) := by decide +kernel
theorem dX3_sumSince_45 : decode cX3_sumSince 45 = .ok (.istore_n 3, 1) := by decide +kernel
theorem dX3_sumSince_46 : decode cX3_sumSince 46 = .ok (.iinc 4 1, 3) := by decide +kernel
theorem dX3_sumSince_49 : decode cX3_sumSince 49 = .ok (.goto (-44), 3) := by decide +kernel
theorem dX3_sumSince_52 : decode cX3_sumSince 52 = .ok (.iload_n 3, 1) := by decide +kernel
theorem dX3_sumSince_53 : decode cX3_sumSince 53 = .ok (.ireturn, 1) := by decide +kernel
theorem dX3_greatestSum_0 : decode cX3_greatestSum 0 = .ok (.iconst 0, 1) := by decide +kernel
theorem dX3_greatestSum_1 : decode cX3_greatestSum 1 = .ok (.istore_n 2, 1) := by decide +kernel
theorem dX3_greatestSum_2 : decode cX3_greatestSum 2 = .ok (.iconst 0, 1) := by decide +kernel
theorem dX3_greatestSum_3 : decode cX3_greatestSum 3 = .ok (.istore_n 3, 1) := by decide +kernel
theorem dX3_greatestSum_4 : decode cX3_greatestSum 4 = .ok (.iload_n 3, 1) := by decide +kernel
theorem dX3_greatestSum_5 : decode cX3_greatestSum 5 = .ok (.aload_n 0, 1) := by decide +kernel
theorem dX3_greatestSum_6 : decode cX3_greatestSum 6 = .ok (.getfield 24, 3) := by decide +kernel
theorem dX3_greatestSum_9 : decode cX3_greatestSum 9 = .ok (.if_icmp .ge 25, 3) := by decide +kernel
theorem dX3_greatestSum_12 : decode cX3_greatestSum 12 = .ok (.iload_n 2, 1) := by decide +kernel
theorem dX3_greatestSum_13 : decode cX3_greatestSum 13 = .ok (.aload_n 0, 1) := by decide +kernel
theorem dX3_greatestSum_14 : decode cX3_greatestSum 14 = .ok (.aload_n 0, 1) := by decide +kernel
theorem dX3_greatestSum_15 : decode cX3_greatestSum 15 = .ok (.getfield 21, 3) := by decide +kernel
theorem dX3_greatestSum_18 : decode cX3_greatestSum 18 = .ok (.iload_n 3, 1) := by decide +kernel
theorem dX3_greatestSum_19 : decode cX3_greatestSum 19 = .ok (.iaload, 1) := by decide +kernel
theorem dX3_greatestSum_20 : decode cX3_greatestSum 20 = .ok (.iload_n 1, 1) := by decide +kernel
theorem dX3_greatestSum_21 : decode cX3_greatestSum 21 = .ok (.invokevirtual 48, 3) := by decide +kernel
theorem dX3_greatestSum_24 : decode cX3_greatestSum 24 = .ok (.invokestatic 51, 3) := by decide +kernel
theorem dX3_greatestSum_27 : decode cX3_greatestSum 27 = .ok (.istore_n 2, 1) := by decide +kernel
theorem dX3_greatestSum_28 : decode cX3_greatestSum 28 = .ok (.iinc 3 1, 3) := by decide +kernel
theorem dX3_greatestSum_31 : decode cX3_greatestSum 31 = .ok (.goto (-27), 3) := by decide +kernel
theorem dX3_greatestSum_34 : decode cX3_greatestSum 34 = .ok (.iload_n 2, 1) := by decide +kernel
theorem dX3_greatestSum_35 : decode cX3_greatestSum 35 = .ok (.ireturn, 1) := by decide +kernel
theorem dX4_init_0 : decode cX4_init 0 = .ok (.aload_n 0, 1) := by decide +kernel
theorem dX4_init_1 : decode cX4_init 1 = .ok (.invokespecial 3, 3) := by decide +kernel
theorem dX4_init_4 : decode cX4_init 4 = .ok (.aload_n 0, 1) := by decide +kernel
theorem dX4_init_5 : decode cX4_init 5 = .ok (.bipush 12, 2) := by decide +kernel
theorem dX4_init_7 : decode cX4_init 7 = .ok (.newarray .int, 2) := by decide +kernel
theorem dX4_init_9 : decode cX4_init 9 = .ok (.putfield 9, 3) := by decide +kernel
theorem dX4_init_12 : decode cX4_init 12 = .ok (.aload_n 0, 1) := by decide +kernel
theorem dX4_init_13 : decode cX4_init 13 = .ok (.sipush 192, 3) := by decide +kernel
theorem dX4_init_16 : decode cX4_init 16 = .ok (.newarray .int, 2) := by decide +kernel
theorem dX4_init_18 : decode cX4_init 18 = .ok (.putfield 15, 3) := by decide +kernel
theorem dX4_init_21 : decode cX4_init 21 = .ok (.aload_n 0, 1) := by decide +kernel
theorem dX4_init_22 : decode cX4_init 22 = .ok (.sipush 192, 3) := by decide +kernel
theorem dX4_init_25 : decode cX4_init 25 = .ok (.newarray .int, 2) := by decide +kernel
theorem dX4_init_27 : decode cX4_init 27 = .ok (.putfield 18, 3) := by decide +kernel
theorem dX4_init_30 : decode cX4_init 30 = .ok (.aload_n 0, 1) := by decide +kernel
theorem dX4_init_31 : decode cX4_init 31 = .ok (.sipush 192, 3) := by decide +kernel
theorem dX4_init_34 : decode cX4_init 34 = .ok (.newarray .int, 2) := by decide +kernel
theorem dX4_init_36 : decode cX4_init 36 = .ok (.putfield 21, 3) := by decide +kernel
theorem dX4_init_39 : decode cX4_init 39 = .ok (.return_, 1) := by decide +kernel
theorem dX4_begin_0 : decode cX4_begin 0 = .ok (.aload_n 0, 1) := by decide +kernel
theorem dX4_begin_1 : decode cX4_begin 1 = .ok (.getfield 9, 3) := by decide +kernel
theorem dX4_begin_4 : decode cX4_begin 4 = .ok (.invokestatic 24, 3) := by decide +kernel
theorem dX4_begin_7 : decode cX4_begin 7 = .ok (.aload_n 0, 1) := by decide +kernel
theorem dX4_begin_8 : decode cX4_begin 8 = .ok (.iconst 0, 1) := by decide +kernel
theorem dX4_begin_9 : decode cX4_begin 9 = .ok (.putfield 28, 3) := by decide +kernel
theorem dX4_begin_12 : decode cX4_begin 12 = .ok (.return_, 1) := by decide +kernel
theorem dX4_copyFrom_0 : decode cX4_copyFrom 0 = .ok (.aload_n 1, 1) := by decide +kernel
theorem dX4_copyFrom_1 : decode cX4_copyFrom 1 = .ok (.getfield 9, 3) := by decide +kernel
theorem dX4_copyFrom_4 : decode cX4_copyFrom 4 = .ok (.aload_n 0, 1) := by decide +kernel
theorem dX4_copyFrom_5 : decode cX4_copyFrom 5 = .ok (.getfield 9, 3) := by decide +kernel
theorem dX4_copyFrom_8 : decode cX4_copyFrom 8 = .ok (.invokestatic 32, 3) := by decide +kernel
theorem dX4_copyFrom_11 : decode cX4_copyFrom 11 = .ok (.aload_n 1, 1) := by decide +kernel
theorem dX4_copyFrom_12 : decode cX4_copyFrom 12 = .ok (.getfield 15, 3) := by decide +kernel
theorem dX4_copyFrom_15 : decode cX4_copyFrom 15 = .ok (.aload_n 0, 1) := by decide +kernel
theorem dX4_copyFrom_16 : decode cX4_copyFrom 16 = .ok (.getfield 15, 3) := by decide +kernel
theorem dX4_copyFrom_19 : decode cX4_copyFrom 19 = .ok (.invokestatic 32, 3) := by decide +kernel
theorem dX4_copyFrom_22 : decode cX4_copyFrom 22 = .ok (.aload_n 1, 1) := by decide +kernel
theorem dX4_copyFrom_23 : decode cX4_copyFrom 23 = .ok (.getfield 18, 3) := by decide +kernel
theorem dX4_copyFrom_26 : decode cX4_copyFrom 26 = .ok (.aload_n 0, 1) := by decide +kernel
theorem dX4_copyFrom_27 : decode cX4_copyFrom 27 = .ok (.getfield 18, 3) := by decide +kernel
theorem dX4_copyFrom_30 : decode cX4_copyFrom 30 = .ok (.invokestatic 32, 3) := by decide +kernel
theorem dX4_copyFrom_33 : decode cX4_copyFrom 33 = .ok (.aload_n 1, 1) := by decide +kernel
theorem dX4_copyFrom_34 : decode cX4_copyFrom 34 = .ok (.getfield 21, 3) := by decide +kernel
theorem dX4_copyFrom_37 : decode cX4_copyFrom 37 = .ok (.aload_n 0, 1) := by decide +kernel
theorem dX4_copyFrom_38 : decode cX4_copyFrom 38 = .ok (.getfield 21, 3) := by decide +kernel
theorem dX4_copyFrom_41 : decode cX4_copyFrom 41 = .ok (.invokestatic 32, 3) := by decide +kernel
theorem dX4_copyFrom_44 : decode cX4_copyFrom 44 = .ok (.aload_n 0, 1) := by decide +kernel
theorem dX4_copyFrom_45 : decode cX4_copyFrom 45 = .ok (.aload_n 1, 1) := by decide +kernel
theorem dX4_copyFrom_46 : decode cX4_copyFrom 46 = .ok (.getfield 28, 3) := by decide +kernel
theorem dX4_copyFrom_49 : decode cX4_copyFrom 49 = .ok (.putfield 28, 3) := by decide +kernel
theorem dX4_copyFrom_52 : decode cX4_copyFrom 52 = .ok (.return_, 1) := by decide +kernel
theorem dX4_isFull_0 : decode cX4_isFull 0 = .ok (.aload_n 0, 1) := by decide +kernel
theorem dX4_isFull_1 : decode cX4_isFull 1 = .ok (.getfield 9, 3) := by decide +kernel
theorem dX4_isFull_4 : decode cX4_isFull 4 = .ok (.iload_n 1, 1) := by decide +kernel
theorem dX4_isFull_5 : decode cX4_isFull 5 = .ok (.iaload, 1) := by decide +kernel
theorem dX4_isFull_6 : decode cX4_isFull 6 = .ok (.bipush 16, 2) := by decide +kernel
theorem dX4_isFull_8 : decode cX4_isFull 8 = .ok (.if_icmp .lt 7, 3) := by decide +kernel
theorem dX4_isFull_11 : decode cX4_isFull 11 = .ok (.iconst 1, 1) := by decide +kernel
theorem dX4_isFull_12 : decode cX4_isFull 12 = .ok (.goto 4, 3) := by decide +kernel
theorem dX4_isFull_15 : decode cX4_isFull 15 = .ok (.iconst 0, 1) := by decide +kernel
theorem dX4_isFull_16 : decode cX4_isFull 16 = .ok (.ireturn, 1) := by decide +kernel
theorem dX4_put_0 : decode cX4_put 0 = .ok (.iload_n 1, 1) := by decide +kernel
theorem dX4_put_1 : decode cX4_put 1 = .ok (.bipush 16, 2) := by decide +kernel
theorem dX4_put_3 : decode cX4_put 3 = .ok (.imul, 1) := by decide +kernel
theorem dX4_put_4 : decode cX4_put 4 = .ok (.aload_n 0, 1) := by decide +kernel
theorem dX4_put_5 : decode cX4_put 5 = .ok (.getfield 9, 3) := by decide +kernel
theorem dX4_put_8 : decode cX4_put 8 = .ok (.iload_n 1, 1) := by decide +kernel
theorem dX4_put_9 : decode cX4_put 9 = .ok (.iaload, 1) := by decide +kernel
theorem dX4_put_10 : decode cX4_put 10 = .ok (.iadd, 1) := by decide +kernel
theorem dX4_put_11 : decode cX4_put 11 = .ok (.istore 4, 2) := by decide +kernel
theorem dX4_put_13 : decode cX4_put 13 = .ok (.aload_n 0, 1) := by decide +kernel
theorem dX4_put_14 : decode cX4_put 14 = .ok (.getfield 15, 3) := by decide +kernel
theorem dX4_put_17 : decode cX4_put 17 = .ok (.iload 4, 2) := by decide +kernel
theorem dX4_put_19 : decode cX4_put 19 = .ok (.aload_n 0, 1) := by decide +kernel
theorem dX4_put_20 : decode cX4_put 20 = .ok (.getfield 28, 3) := by decide +kernel
theorem dX4_put_23 : decode cX4_put 23 = .ok (.iastore, 1) := by decide +kernel
theorem dX4_put_24 : decode cX4_put 24 = .ok (.aload_n 0, 1) := by decide +kernel
theorem dX4_put_25 : decode cX4_put 25 = .ok (.getfield 18, 3) := by decide +kernel
theorem dX4_put_28 : decode cX4_put 28 = .ok (.iload 4, 2) := by decide +kernel
theorem dX4_put_30 : decode cX4_put 30 = .ok (.iload_n 2, 1) := by decide +kernel
theorem dX4_put_31 : decode cX4_put 31 = .ok (.iastore, 1) := by decide +kernel
theorem dX4_put_32 : decode cX4_put 32 = .ok (.aload_n 0, 1) := by decide +kernel
theorem dX4_put_33 : decode cX4_put 33 = .ok (.getfield 21, 3) := by decide +kernel
theorem dX4_put_36 : decode cX4_put 36 = .ok (.iload 4, 2) := by decide +kernel
theorem dX4_put_38 : decode cX4_put 38 = .ok (.iload_n 3, 1) := by decide +kernel
theorem dX4_put_39 : decode cX4_put 39 = .ok (.iastore, 1) := by decide +kernel
theorem dX4_put_40 : decode cX4_put 40 = .ok (.aload_n 0, 1) := by decide +kernel
theorem dX4_put_41 : decode cX4_put 41 = .ok (.getfield 9, 3) := by decide +kernel
theorem dX4_put_44 : decode cX4_put 44 = .ok (.iload_n 1, 1) := by decide +kernel
theorem dX4_put_45 : decode cX4_put 45 = .ok (.dup2, 1) := by decide +kernel
theorem dX4_put_46 : decode cX4_put 46 = .ok (.iaload, 1) := by decide +kernel
theorem dX4_put_47 : decode cX4_put 47 = .ok (.iconst 1, 1) := by decide +kernel
theorem dX4_put_48 : decode cX4_put 48 = .ok (.iadd, 1) := by decide +kernel
theorem dX4_put_49 : decode cX4_put 49 = .ok (.iastore, 1) := by decide +kernel
theorem dX4_put_50 : decode cX4_put 50 = .ok (.aload_n 0, 1) := by decide +kernel
theorem dX4_put_51 : decode cX4_put 51 = .ok (.dup, 1) := by decide +kernel
theorem dX4_put_52 : decode cX4_put 52 = .ok (.getfield 28, 3) := by decide +kernel
theorem dX4_put_55 : decode cX4_put 55 = .ok (.iconst 1, 1) := by decide +kernel
theorem dX4_put_56 : decode cX4_put 56 = .ok (.iadd, 1) := by decide +kernel
theorem dX4_put_57 : decode cX4_put 57 = .ok (.putfield 28, 3) := by decide +kernel
theorem dX4_put_60 : decode cX4_put 60 = .ok (.aload_n 0, 1) := by decide +kernel
theorem dX4_put_61 : decode cX4_put 61 = .ok (.getfield 15, 3) := by decide +kernel
theorem dX4_put_64 : decode cX4_put 64 = .ok (.iload 4, 2) := by decide +kernel
theorem dX4_put_66 : decode cX4_put 66 = .ok (.iaload, 1) := by decide +kernel
theorem dX4_put_67 : decode cX4_put 67 = .ok (.ireturn, 1) := by decide +kernel
theorem dX4_removeFront_0 : decode cX4_removeFront 0 = .ok (.aload_n 0, 1) := by decide +kernel
theorem dX4_removeFront_1 : decode cX4_removeFront 1 = .ok (.getfield 9, 3) := by decide +kernel
theorem dX4_removeFront_4 : decode cX4_removeFront 4 = .ok (.iload_n 1, 1) := by decide +kernel
theorem dX4_removeFront_5 : decode cX4_removeFront 5 = .ok (.iaload, 1) := by decide +kernel
theorem dX4_removeFront_6 : decode cX4_removeFront 6 = .ok (.iconst 1, 1) := by decide +kernel
theorem dX4_removeFront_7 : decode cX4_removeFront 7 = .ok (.if_icmp .ge 4, 3) := by decide +kernel
theorem dX4_removeFront_10 : decode cX4_removeFront 10 = .ok (.return_, 1) := by decide +kernel
theorem dX4_removeFront_11 : decode cX4_removeFront 11 = .ok (.aload_n 0, 1) := by decide +kernel
theorem dX4_removeFront_12 : decode cX4_removeFront 12 = .ok (.getfield 9, 3) := by decide +kernel
theorem dX4_removeFront_15 : decode cX4_removeFront 15 = .ok (.iload_n 1, 1) := by decide +kernel
theorem dX4_removeFront_16 : decode cX4_removeFront 16 = .ok (.dup2, 1) := by decide +kernel
theorem dX4_removeFront_17 : decode cX4_removeFront 17 = .ok (.iaload, 1) := by decide +kernel
theorem dX4_removeFront_18 : decode cX4_removeFront 18 = .ok (.iconst 1, 1) := by decide +kernel
theorem dX4_removeFront_19 : decode cX4_removeFront 19 = .ok (.isub, 1) := by decide +kernel
theorem dX4_removeFront_20 : decode cX4_removeFront 20 = .ok (.iastore, 1) := by decide +kernel
theorem dX4_removeFront_21 : decode cX4_removeFront 21 = .ok (.aload_n 0, 1) := by decide +kernel
theorem dX4_removeFront_22 : decode cX4_removeFront 22 = .ok (.aload_n 0, 1) := by decide +kernel
theorem dX4_removeFront_23 : decode cX4_removeFront 23 = .ok (.getfield 15, 3) := by decide +kernel
theorem dX4_removeFront_26 : decode cX4_removeFront 26 = .ok (.iload_n 1, 1) := by decide +kernel
theorem dX4_removeFront_27 : decode cX4_removeFront 27 = .ok (.invokevirtual 36, 3) := by decide +kernel
theorem dX4_removeFront_30 : decode cX4_removeFront 30 = .ok (.aload_n 0, 1) := by decide +kernel
theorem dX4_removeFront_31 : decode cX4_removeFront 31 = .ok (.aload_n 0, 1) := by decide +kernel
theorem dX4_removeFront_32 : decode cX4_removeFront 32 = .ok (.getfield 18, 3) := by decide +kernel
theorem dX4_removeFront_35 : decode cX4_removeFront 35 = .ok (.iload_n 1, 1) := by decide +kernel
theorem dX4_removeFront_36 : decode cX4_removeFront 36 = .ok (.invokevirtual 36, 3) := by decide +kernel
theorem dX4_removeFront_39 : decode cX4_removeFront 39 = .ok (.aload_n 0, 1) := by decide +kernel
theorem dX4_removeFront_40 : decode cX4_removeFront 40 = .ok (.aload_n 0, 1) := by decide +kernel
theorem dX4_removeFront_41 : decode cX4_removeFront 41 = .ok (.getfield 21, 3) := by decide +kernel
theorem dX4_removeFront_44 : decode cX4_removeFront 44 = .ok (.iload_n 1, 1) := by decide +kernel
theorem dX4_removeFront_45 : decode cX4_removeFront 45 = .ok (.invokevirtual 36, 3) := by decide +kernel
theorem dX4_removeFront_48 : decode cX4_removeFront 48 = .ok (.return_, 1) := by decide +kernel
theorem dX4_moveUp_0 : decode cX4_moveUp 0 = .ok (.iload_n 2, 1) := by decide +kernel
theorem dX4_moveUp_1 : decode cX4_moveUp 1 = .ok (.bipush 16, 2) := by decide +kernel
theorem dX4_moveUp_3 : decode cX4_moveUp 3 = .ok (.imul, 1) := by decide +kernel
theorem dX4_moveUp_4 : decode cX4_moveUp 4 = .ok (.istore_n 3, 1) := by decide +kernel
theorem dX4_moveUp_5 : decode cX4_moveUp 5 = .ok (.aload_n 1, 1) := by decide +kernel
theorem dX4_moveUp_6 : decode cX4_moveUp 6 = .ok (.iload_n 3, 1) := by decide +kernel
theorem dX4_moveUp_7 : decode cX4_moveUp 7 = .ok (.iconst 1, 1) := by decide +kernel
theorem dX4_moveUp_8 : decode cX4_moveUp 8 = .ok (.iadd, 1) := by decide +kernel
theorem dX4_moveUp_9 : decode cX4_moveUp 9 = .ok (.aload_n 1, 1) := by decide +kernel
theorem dX4_moveUp_10 : decode cX4_moveUp 10 = .ok (.iload_n 3, 1) := by decide +kernel
theorem dX4_moveUp_11 : decode cX4_moveUp 11 = .ok (.bipush 15, 2) := by decide +kernel
theorem dX4_moveUp_13 : decode cX4_moveUp 13 = .ok (.invokestatic 40, 3) := by decide +kernel
theorem dX4_moveUp_16 : decode cX4_moveUp 16 = .ok (.return_, 1) := by decide +kernel
theorem dX4_costSum_0 : decode cX4_costSum 0 = .ok (.iconst 0, 1) := by decide +kernel
theorem dX4_costSum_1 : decode cX4_costSum 1 = .ok (.istore_n 2, 1) := by decide +kernel
theorem dX4_costSum_2 : decode cX4_costSum 2 = .ok (.iconst 0, 1) := by decide +kernel
theorem dX4_costSum_3 : decode cX4_costSum 3 = .ok (.istore_n 3, 1) := by decide +kernel
theorem dX4_costSum_4 : decode cX4_costSum 4 = .ok (.iload_n 3, 1) := by decide +kernel
theorem dX4_costSum_5 : decode cX4_costSum 5 = .ok (.aload_n 0, 1) := by decide +kernel
theorem dX4_costSum_6 : decode cX4_costSum 6 = .ok (.getfield 9, 3) := by decide +kernel
theorem dX4_costSum_9 : decode cX4_costSum 9 = .ok (.iload_n 1, 1) := by decide +kernel
theorem dX4_costSum_10 : decode cX4_costSum 10 = .ok (.iaload, 1) := by decide +kernel
theorem dX4_costSum_11 : decode cX4_costSum 11 = .ok (.if_icmp .ge 23, 3) := by decide +kernel
theorem dX4_costSum_14 : decode cX4_costSum 14 = .ok (.iload_n 2, 1) := by decide +kernel
theorem dX4_costSum_15 : decode cX4_costSum 15 = .ok (.aload_n 0, 1) := by decide +kernel
theorem dX4_costSum_16 : decode cX4_costSum 16 = .ok (.getfield 18, 3) := by decide +kernel
theorem dX4_costSum_19 : decode cX4_costSum 19 = .ok (.iload_n 1, 1) := by decide +kernel
theorem dX4_costSum_20 : decode cX4_costSum 20 = .ok (.bipush 16, 2) := by decide +kernel
theorem dX4_costSum_22 : decode cX4_costSum 22 = .ok (.imul, 1) := by decide +kernel
theorem dX4_costSum_23 : decode cX4_costSum 23 = .ok (.iload_n 3, 1) := by decide +kernel
theorem dX4_costSum_24 : decode cX4_costSum 24 = .ok (.iadd, 1) := by decide +kernel
theorem dX4_costSum_25 : decode cX4_costSum 25 = .ok (.iaload, 1) := by decide +kernel
theorem dX4_costSum_26 : decode cX4_costSum 26 = .ok (.iadd, 1) := by decide +kernel
theorem dX4_costSum_27 : decode cX4_costSum 27 = .ok (.istore_n 2, 1) := by decide +kernel
theorem dX4_costSum_28 : decode cX4_costSum 28 = .ok (.iinc 3 1, 3) := by decide +kernel
theorem dX4_costSum_31 : decode cX4_costSum 31 = .ok (.goto (-27), 3) := by decide +kernel
theorem dX4_costSum_34 : decode cX4_costSum 34 = .ok (.iload_n 2, 1) := by decide +kernel
theorem dX4_costSum_35 : decode cX4_costSum 35 = .ok (.ireturn, 1) := by decide +kernel
theorem dX5_init_0 : decode cX5_init 0 = .ok (.aload_n 0, 1) := by decide +kernel
theorem dX5_init_1 : decode cX5_init 1 = .ok (.invokespecial 3, 3) := by decide +kernel
theorem dX5_init_4 : decode cX5_init 4 = .ok (.aload_n 0, 1) := by decide +kernel
theorem dX5_init_5 : decode cX5_init 5 = .ok (.bipush (-2), 2) := by decide +kernel
theorem dX5_init_7 : decode cX5_init 7 = .ok (.putfield 9, 3) := by decide +kernel
theorem dX5_init_10 : decode cX5_init 10 = .ok (.aload_n 0, 1) := by decide +kernel
theorem dX5_init_11 : decode cX5_init 11 = .ok (.new 15, 3) := by decide +kernel
theorem dX5_init_14 : decode cX5_init 14 = .ok (.dup, 1) := by decide +kernel
theorem dX5_init_15 : decode cX5_init 15 = .ok (.invokespecial 17, 3) := by decide +kernel
theorem dX5_init_18 : decode cX5_init 18 = .ok (.putfield 18, 3) := by decide +kernel
theorem dX5_init_21 : decode cX5_init 21 = .ok (.aload_n 0, 1) := by decide +kernel
theorem dX5_init_22 : decode cX5_init 22 = .ok (.new 22, 3) := by decide +kernel
theorem dX5_init_25 : decode cX5_init 25 = .ok (.dup, 1) := by decide +kernel
theorem dX5_init_26 : decode cX5_init 26 = .ok (.invokespecial 24, 3) := by decide +kernel
theorem dX5_init_29 : decode cX5_init 29 = .ok (.putfield 25, 3) := by decide +kernel
theorem dX5_init_32 : decode cX5_init 32 = .ok (.return_, 1) := by decide +kernel
theorem dX5_read_0 : decode cX5_read 0 = .ok (.aload_n 0, 1) := by decide +kernel
theorem dX5_read_1 : decode cX5_read 1 = .ok (.invokevirtual 29, 3) := by decide +kernel
theorem dX5_read_4 : decode cX5_read 4 = .ok (.iconst 0, 1) := by decide +kernel
theorem dX5_read_5 : decode cX5_read 5 = .ok (.istore_n 2, 1) := by decide +kernel
theorem dX5_read_6 : decode cX5_read 6 = .ok (.iload_n 2, 1) := by decide +kernel
theorem dX5_read_7 : decode cX5_read 7 = .ok (.sipush 900, 3) := by decide +kernel
theorem dX5_read_10 : decode cX5_read 10 = .ok (.if_icmp .gt 62, 3) := by decide +kernel
theorem dX5_read_13 : decode cX5_read 13 = .ok (.aload_n 0, 1) := by decide +kernel
theorem dX5_read_14 : decode cX5_read 14 = .ok (.getfield 25, 3) := by decide +kernel
theorem dX5_read_17 : decode cX5_read 17 = .ok (.aload_n 1, 1) := by decide +kernel
theorem dX5_read_18 : decode cX5_read 18 = .ok (.invokevirtual 32, 3) := by decide +kernel
theorem dX5_read_21 : decode cX5_read 21 = .ok (.aload_n 0, 1) := by decide +kernel
theorem dX5_read_22 : decode cX5_read 22 = .ok (.getfield 25, 3) := by decide +kernel
theorem dX5_read_25 : decode cX5_read 25 = .ok (.getfield 36, 3) := by decide +kernel
theorem dX5_read_28 : decode cX5_read 28 = .ok (.ifCond .ne 11, 3) := by decide +kernel
theorem dX5_read_31 : decode cX5_read 31 = .ok (.aload_n 0, 1) := by decide +kernel
theorem dX5_read_32 : decode cX5_read 32 = .ok (.getfield 39, 3) := by decide +kernel
theorem dX5_read_35 : decode cX5_read 35 = .ok (.ifCond .ne 4, 3) := by decide +kernel
theorem dX5_read_38 : decode cX5_read 38 = .ok (.return_, 1) := by decide +kernel
theorem dX5_read_39 : decode cX5_read 39 = .ok (.aload_n 0, 1) := by decide +kernel
theorem dX5_read_40 : decode cX5_read 40 = .ok (.aload_n 0, 1) := by decide +kernel
theorem dX5_read_41 : decode cX5_read 41 = .ok (.invokevirtual 42, 3) := by decide +kernel
theorem dX5_read_44 : decode cX5_read 44 = .ok (.putfield 46, 3) := by decide +kernel
theorem dX5_read_47 : decode cX5_read 47 = .ok (.aload_n 0, 1) := by decide +kernel
theorem dX5_read_48 : decode cX5_read 48 = .ok (.getfield 46, 3) := by decide +kernel
theorem dX5_read_51 : decode cX5_read 51 = .ok (.ifCond .eq 15, 3) := by decide +kernel
theorem dX5_read_54 : decode cX5_read 54 = .ok (.aload_n 0, 1) := by decide +kernel
theorem dX5_read_55 : decode cX5_read 55 = .ok (.aload_n 0, 1) := by decide +kernel
theorem dX5_read_56 : decode cX5_read 56 = .ok (.getfield 25, 3) := by decide +kernel
theorem dX5_read_59 : decode cX5_read 59 = .ok (.getfield 49, 3) := by decide +kernel
theorem dX5_read_62 : decode cX5_read 62 = .ok (.putfield 9, 3) := by decide +kernel
theorem dX5_read_65 : decode cX5_read 65 = .ok (.return_, 1) := by decide +kernel
theorem dX5_read_66 : decode cX5_read 66 = .ok (.iinc 2 1, 3) := by decide +kernel
theorem dX5_read_69 : decode cX5_read 69 = .ok (.goto (-63), 3) := by decide +kernel
theorem dX5_read_72 : decode cX5_read 72 = .ok (.return_, 1) := by decide +kernel
theorem dX5_begin_0 : decode cX5_begin 0 = .ok (.aload_n 0, 1) := by decide +kernel
theorem dX5_begin_1 : decode cX5_begin 1 = .ok (.iconst 0, 1) := by decide +kernel
theorem dX5_begin_2 : decode cX5_begin 2 = .ok (.putfield 46, 3) := by decide +kernel
theorem dX5_begin_5 : decode cX5_begin 5 = .ok (.aload_n 0, 1) := by decide +kernel
theorem dX5_begin_6 : decode cX5_begin 6 = .ok (.bipush (-2), 2) := by decide +kernel
theorem dX5_begin_8 : decode cX5_begin 8 = .ok (.putfield 9, 3) := by decide +kernel
theorem dX5_begin_11 : decode cX5_begin 11 = .ok (.aload_n 0, 1) := by decide +kernel
theorem dX5_begin_12 : decode cX5_begin 12 = .ok (.getfield 18, 3) := by decide +kernel
theorem dX5_begin_15 : decode cX5_begin 15 = .ok (.invokevirtual 52, 3) := by decide +kernel
theorem dX5_begin_18 : decode cX5_begin 18 = .ok (.aload_n 0, 1) := by decide +kernel
theorem dX5_begin_19 : decode cX5_begin 19 = .ok (.getfield 25, 3) := by decide +kernel
theorem dX5_begin_22 : decode cX5_begin 22 = .ok (.invokevirtual 55, 3) := by decide +kernel
theorem dX5_begin_25 : decode cX5_begin 25 = .ok (.aload_n 0, 1) := by decide +kernel
theorem dX5_begin_26 : decode cX5_begin 26 = .ok (.iconst 0, 1) := by decide +kernel
theorem dX5_begin_27 : decode cX5_begin 27 = .ok (.putfield 39, 3) := by decide +kernel
theorem dX5_begin_30 : decode cX5_begin 30 = .ok (.aload_n 0, 1) := by decide +kernel
theorem dX5_begin_31 : decode cX5_begin 31 = .ok (.iconst 0, 1) := by decide +kernel
theorem dX5_begin_32 : decode cX5_begin 32 = .ok (.putfield 56, 3) := by decide +kernel
theorem dX5_begin_35 : decode cX5_begin 35 = .ok (.return_, 1) := by decide +kernel
theorem dX5_take_0 : decode cX5_take 0 = .ok (.aload_n 0, 1) := by decide +kernel
theorem dX5_take_1 : decode cX5_take 1 = .ok (.getfield 39, 3) := by decide +kernel
theorem dX5_take_4 : decode cX5_take 4 = .ok (.tableswitch 124 0 11 #[64, 69, 74, 79, 84, 89, 94, 99, 104, 109, 114, 119], 64) := by decide +kernel
theorem dX5_take_68 : decode cX5_take 68 = .ok (.aload_n 0, 1) := by decide +kernel
theorem dX5_take_69 : decode cX5_take 69 = .ok (.invokevirtual 60, 3) := by decide +kernel
theorem dX5_take_72 : decode cX5_take 72 = .ok (.ireturn, 1) := by decide +kernel
theorem dX5_take_73 : decode cX5_take 73 = .ok (.aload_n 0, 1) := by decide +kernel
theorem dX5_take_74 : decode cX5_take 74 = .ok (.invokevirtual 63, 3) := by decide +kernel
theorem dX5_take_77 : decode cX5_take 77 = .ok (.ireturn, 1) := by decide +kernel
theorem dX5_take_78 : decode cX5_take 78 = .ok (.aload_n 0, 1) := by decide +kernel
theorem dX5_take_79 : decode cX5_take 79 = .ok (.invokevirtual 66, 3) := by decide +kernel
theorem dX5_take_82 : decode cX5_take 82 = .ok (.ireturn, 1) := by decide +kernel
theorem dX5_take_83 : decode cX5_take 83 = .ok (.aload_n 0, 1) := by decide +kernel
theorem dX5_take_84 : decode cX5_take 84 = .ok (.invokevirtual 69, 3) := by decide +kernel
theorem dX5_take_87 : decode cX5_take 87 = .ok (.ireturn, 1) := by decide +kernel
theorem dX5_take_88 : decode cX5_take 88 = .ok (.aload_n 0, 1) := by decide +kernel
theorem dX5_take_89 : decode cX5_take 89 = .ok (.invokevirtual 72, 3) := by decide +kernel
theorem dX5_take_92 : decode cX5_take 92 = .ok (.ireturn, 1) := by decide +kernel
theorem dX5_take_93 : decode cX5_take 93 = .ok (.aload_n 0, 1) := by decide +kernel
theorem dX5_take_94 : decode cX5_take 94 = .ok (.invokevirtual 75, 3) := by decide +kernel
theorem dX5_take_97 : decode cX5_take 97 = .ok (.ireturn, 1) := by decide +kernel
theorem dX5_take_98 : decode cX5_take 98 = .ok (.aload_n 0, 1) := by decide +kernel
theorem dX5_take_99 : decode cX5_take 99 = .ok (.invokevirtual 78, 3) := by decide +kernel
theorem dX5_take_102 : decode cX5_take 102 = .ok (.ireturn, 1) := by decide +kernel
theorem dX5_take_103 : decode cX5_take 103 = .ok (.aload_n 0, 1) := by decide +kernel
theorem dX5_take_104 : decode cX5_take 104 = .ok (.invokevirtual 81, 3) := by decide +kernel
theorem dX5_take_107 : decode cX5_take 107 = .ok (.ireturn, 1) := by decide +kernel
theorem dX5_take_108 : decode cX5_take 108 = .ok (.aload_n 0, 1) := by decide +kernel
theorem dX5_take_109 : decode cX5_take 109 = .ok (.invokevirtual 84, 3) := by decide +kernel
theorem dX5_take_112 : decode cX5_take 112 = .ok (.ireturn, 1) := by decide +kernel
theorem dX5_take_113 : decode cX5_take 113 = .ok (.aload_n 0, 1) := by decide +kernel
theorem dX5_take_114 : decode cX5_take 114 = .ok (.invokevirtual 87, 3) := by decide +kernel
theorem dX5_take_117 : decode cX5_take 117 = .ok (.ireturn, 1) := by decide +kernel
theorem dX5_take_118 : decode cX5_take 118 = .ok (.aload_n 0, 1) := by decide +kernel
theorem dX5_take_119 : decode cX5_take 119 = .ok (.invokevirtual 90, 3) := by decide +kernel
theorem dX5_take_122 : decode cX5_take 122 = .ok (.ireturn, 1) := by decide +kernel
theorem dX5_take_123 : decode cX5_take 123 = .ok (.aload_n 0, 1) := by decide +kernel
theorem dX5_take_124 : decode cX5_take 124 = .ok (.invokevirtual 93, 3) := by decide +kernel
theorem dX5_take_127 : decode cX5_take 127 = .ok (.ireturn, 1) := by decide +kernel
theorem dX5_take_128 : decode cX5_take 128 = .ok (.aload_n 0, 1) := by decide +kernel
theorem dX5_take_129 : decode cX5_take 129 = .ok (.invokevirtual 96, 3) := by decide +kernel
theorem dX5_take_132 : decode cX5_take 132 = .ok (.ireturn, 1) := by decide +kernel
theorem dX5_takeStatement_0 : decode cX5_takeStatement 0 = .ok (.aload_n 0, 1) := by decide +kernel
theorem dX5_takeStatement_1 : decode cX5_takeStatement 1 = .ok (.getfield 25, 3) := by decide +kernel
theorem dX5_takeStatement_4 : decode cX5_takeStatement 4 = .ok (.getfield 99, 3) := by decide +kernel
theorem dX5_takeStatement_7 : decode cX5_takeStatement 7 = .ok (.tableswitch 125 7 11 #[33, 125, 56, 75, 98], 33) := by decide +kernel
theorem dX5_takeStatement_40 : decode cX5_takeStatement 40 = .ok (.aload_n 0, 1) := by decide +kernel
theorem dX5_takeStatement_41 : decode cX5_takeStatement 41 = .ok (.iconst 1, 1) := by decide +kernel
theorem dX5_takeStatement_42 : decode cX5_takeStatement 42 = .ok (.putfield 39, 3) := by decide +kernel
theorem dX5_takeStatement_45 : decode cX5_takeStatement 45 = .ok (.aload_n 0, 1) := by decide +kernel
theorem dX5_takeStatement_46 : decode cX5_takeStatement 46 = .ok (.getfield 18, 3) := by decide +kernel
theorem dX5_takeStatement_49 : decode cX5_takeStatement 49 = .ok (.getfield 102, 3) := by decide +kernel
theorem dX5_takeStatement_52 : decode cX5_takeStatement 52 = .ok (.bipush 12, 2) := by decide +kernel
theorem dX5_takeStatement_54 : decode cX5_takeStatement 54 = .ok (.if_icmp .ne 7, 3) := by decide +kernel
theorem dX5_takeStatement_57 : decode cX5_takeStatement 57 = .ok (.iconst 5, 1) := by decide +kernel
theorem dX5_takeStatement_58 : decode cX5_takeStatement 58 = .ok (.goto 4, 3) := by decide +kernel
theorem dX5_takeStatement_61 : decode cX5_takeStatement 61 = .ok (.iconst 0, 1) := by decide +kernel
theorem dX5_takeStatement_62 : decode cX5_takeStatement 62 = .ok (.ireturn, 1) := by decide +kernel
theorem dX5_takeStatement_63 : decode cX5_takeStatement 63 = .ok (.aload_n 0, 1) := by decide +kernel
theorem dX5_takeStatement_64 : decode cX5_takeStatement 64 = .ok (.bipush 6, 2) := by decide +kernel
theorem dX5_takeStatement_66 : decode cX5_takeStatement 66 = .ok (.putfield 39, 3) := by decide +kernel
theorem dX5_takeStatement_69 : decode cX5_takeStatement 69 = .ok (.aload_n 0, 1) := by decide +kernel
theorem dX5_takeStatement_70 : decode cX5_takeStatement 70 = .ok (.getfield 56, 3) := by decide +kernel
theorem dX5_takeStatement_73 : decode cX5_takeStatement 73 = .ok (.ifCond .eq 7, 3) := by decide +kernel
theorem dX5_takeStatement_76 : decode cX5_takeStatement 76 = .ok (.iconst 4, 1) := by decide +kernel
theorem dX5_takeStatement_77 : decode cX5_takeStatement 77 = .ok (.goto 4, 3) := by decide +kernel
theorem dX5_takeStatement_80 : decode cX5_takeStatement 80 = .ok (.iconst 0, 1) := by decide +kernel
theorem dX5_takeStatement_81 : decode cX5_takeStatement 81 = .ok (.ireturn, 1) := by decide +kernel
theorem dX5_takeStatement_82 : decode cX5_takeStatement 82 = .ok (.aload_n 0, 1) := by decide +kernel
theorem dX5_takeStatement_83 : decode cX5_takeStatement 83 = .ok (.bipush 7, 2) := by decide +kernel
theorem dX5_takeStatement_85 : decode cX5_takeStatement 85 = .ok (.putfield 39, 3) := by decide +kernel
theorem dX5_takeStatement_88 : decode cX5_takeStatement 88 = .ok (.aload_n 0, 1) := by decide +kernel
theorem dX5_takeStatement_89 : decode cX5_takeStatement 89 = .ok (.getfield 18, 3) := by decide +kernel
theorem dX5_takeStatement_92 : decode cX5_takeStatement 92 = .ok (.getfield 105, 3) := by decide +kernel
theorem dX5_takeStatement_95 : decode cX5_takeStatement 95 = .ok (.iconst (-1), 1) := by decide +kernel
theorem dX5_takeStatement_96 : decode cX5_takeStatement 96 = .ok (.if_icmp .eq 7, 3) := by decide +kernel
theorem dX5_takeStatement_99 : decode cX5_takeStatement 99 = .ok (.iconst 4, 1) := by decide +kernel
theorem dX5_takeStatement_100 : decode cX5_takeStatement 100 = .ok (.goto 4, 3) := by decide +kernel
theorem dX5_takeStatement_103 : decode cX5_takeStatement 103 = .ok (.iconst 0, 1) := by decide +kernel
theorem dX5_takeStatement_104 : decode cX5_takeStatement 104 = .ok (.ireturn, 1) := by decide +kernel
theorem dX5_takeStatement_105 : decode cX5_takeStatement 105 = .ok (.aload_n 0, 1) := by decide +kernel
theorem dX5_takeStatement_106 : decode cX5_takeStatement 106 = .ok (.bipush 8, 2) := by decide +kernel
theorem dX5_takeStatement_108 : decode cX5_takeStatement 108 = .ok (.putfield 39, 3) := by decide +kernel
theorem dX5_takeStatement_111 : decode cX5_takeStatement 111 = .ok (.aload_n 0, 1) := by decide +kernel
theorem dX5_takeStatement_112 : decode cX5_takeStatement 112 = .ok (.getfield 18, 3) := by decide +kernel
theorem dX5_takeStatement_115 : decode cX5_takeStatement 115 = .ok (.getfield 108, 3) := by decide +kernel
theorem dX5_takeStatement_118 : decode cX5_takeStatement 118 = .ok (.getfield 112, 3) := by decide +kernel
theorem dX5_takeStatement_121 : decode cX5_takeStatement 121 = .ok (.bipush 12, 2) := by decide +kernel
theorem dX5_takeStatement_123 : decode cX5_takeStatement 123 = .ok (.if_icmp .ne 7, 3) := by decide +kernel
theorem dX5_takeStatement_126 : decode cX5_takeStatement 126 = .ok (.iconst 5, 1) := by decide +kernel
theorem dX5_takeStatement_127 : decode cX5_takeStatement 127 = .ok (.goto 4, 3) := by decide +kernel
theorem dX5_takeStatement_130 : decode cX5_takeStatement 130 = .ok (.iconst 0, 1) := by decide +kernel
theorem dX5_takeStatement_131 : decode cX5_takeStatement 131 = .ok (.ireturn, 1) := by decide +kernel
theorem dX5_takeStatement_132 : decode cX5_takeStatement 132 = .ok (.iconst 1, 1) := by decide +kernel
theorem dX5_takeStatement_133 : decode cX5_takeStatement 133 = .ok (.ireturn, 1) := by decide +kernel
theorem dX5_isName_0 : decode cX5_isName 0 = .ok (.aload_n 0, 1) := by decide +kernel
theorem dX5_isName_1 : decode cX5_isName 1 = .ok (.getfield 25, 3) := by decide +kernel
theorem dX5_isName_4 : decode cX5_isName 4 = .ok (.getfield 36, 3) := by decide +kernel
theorem dX5_isName_7 : decode cX5_isName 7 = .ok (.iconst 1, 1) := by decide +kernel
theorem dX5_isName_8 : decode cX5_isName 8 = .ok (.if_icmp .ne 18, 3) := by decide +kernel
theorem dX5_isName_11 : decode cX5_isName 11 = .ok (.aload_n 0, 1) := by decide +kernel
theorem dX5_isName_12 : decode cX5_isName 12 = .ok (.getfield 25, 3) := by decide +kernel
theorem dX5_isName_15 : decode cX5_isName 15 = .ok (.getfield 99, 3) := by decide +kernel
theorem dX5_isName_18 : decode cX5_isName 18 = .ok (.iconst (-1), 1) := by decide +kernel
theorem dX5_isName_19 : decode cX5_isName 19 = .ok (.if_icmp .ne 7, 3) := by decide +kernel
theorem dX5_isName_22 : decode cX5_isName 22 = .ok (.iconst 1, 1) := by decide +kernel
theorem dX5_isName_23 : decode cX5_isName 23 = .ok (.goto 4, 3) := by decide +kernel
theorem dX5_isName_26 : decode cX5_isName 26 = .ok (.iconst 0, 1) := by decide +kernel
theorem dX5_isName_27 : decode cX5_isName 27 = .ok (.ireturn, 1) := by decide +kernel
theorem dX5_takeNodeName_0 : decode cX5_takeNodeName 0 = .ok (.aload_n 0, 1) := by decide +kernel
theorem dX5_takeNodeName_1 : decode cX5_takeNodeName 1 = .ok (.invokevirtual 117, 3) := by decide +kernel
theorem dX5_takeNodeName_4 : decode cX5_takeNodeName 4 = .ok (.ifCond .ne 5, 3) := by decide +kernel
theorem dX5_takeNodeName_7 : decode cX5_takeNodeName 7 = .ok (.iconst 1, 1) := by decide +kernel
theorem dX5_takeNodeName_8 : decode cX5_takeNodeName 8 = .ok (.ireturn, 1) := by decide +kernel
theorem dX5_takeNodeName_9 : decode cX5_takeNodeName 9 = .ok (.aload_n 0, 1) := by decide +kernel
theorem dX5_takeNodeName_10 : decode cX5_takeNodeName 10 = .ok (.getfield 18, 3) := by decide +kernel
theorem dX5_takeNodeName_13 : decode cX5_takeNodeName 13 = .ok (.aload_n 0, 1) := by decide +kernel
theorem dX5_takeNodeName_14 : decode cX5_takeNodeName 14 = .ok (.getfield 25, 3) := by decide +kernel
theorem dX5_takeNodeName_17 : decode cX5_takeNodeName 17 = .ok (.getfield 121, 3) := by decide +kernel
theorem dX5_takeNodeName_20 : decode cX5_takeNodeName 20 = .ok (.invokevirtual 125, 3) := by decide +kernel
theorem dX5_takeNodeName_23 : decode cX5_takeNodeName 23 = .ok (.bipush (-2), 2) := by decide +kernel
theorem dX5_takeNodeName_25 : decode cX5_takeNodeName 25 = .ok (.if_icmp .eq 5, 3) := by decide +kernel
theorem dX5_takeNodeName_28 : decode cX5_takeNodeName 28 = .ok (.iconst 3, 1) := by decide +kernel
theorem dX5_takeNodeName_29 : decode cX5_takeNodeName 29 = .ok (.ireturn, 1) := by decide +kernel
theorem dX5_takeNodeName_30 : decode cX5_takeNodeName 30 = .ok (.aload_n 0, 1) := by decide +kernel
theorem dX5_takeNodeName_31 : decode cX5_takeNodeName 31 = .ok (.aload_n 0, 1) := by decide +kernel
theorem dX5_takeNodeName_32 : decode cX5_takeNodeName 32 = .ok (.getfield 25, 3) := by decide +kernel
theorem dX5_takeNodeName_35 : decode cX5_takeNodeName 35 = .ok (.getfield 121, 3) := by decide +kernel
theorem dX5_takeNodeName_38 : decode cX5_takeNodeName 38 = .ok (.putfield 129, 3) := by decide +kernel
theorem dX5_takeNodeName_41 : decode cX5_takeNodeName 41 = .ok (.aload_n 0, 1) := by decide +kernel
theorem dX5_takeNodeName_42 : decode cX5_takeNodeName 42 = .ok (.getfield 18, 3) := by decide +kernel
theorem dX5_takeNodeName_45 : decode cX5_takeNodeName 45 = .ok (.getfield 102, 3) := by decide +kernel
theorem dX5_takeNodeName_48 : decode cX5_takeNodeName 48 = .ok (.ifCond .ne 12, 3) := by decide +kernel
theorem dX5_takeNodeName_51 : decode cX5_takeNodeName 51 = .ok (.aload_n 0, 1) := by decide +kernel
theorem dX5_takeNodeName_52 : decode cX5_takeNodeName 52 = .ok (.bipush (-2), 2) := by decide +kernel
theorem dX5_takeNodeName_54 : decode cX5_takeNodeName 54 = .ok (.invokevirtual 132, 3) := by decide +kernel
theorem dX5_takeNodeName_57 : decode cX5_takeNodeName 57 = .ok (.goto 8, 3) := by decide +kernel
theorem dX5_takeNodeName_60 : decode cX5_takeNodeName 60 = .ok (.aload_n 0, 1) := by decide +kernel
theorem dX5_takeNodeName_61 : decode cX5_takeNodeName 61 = .ok (.iconst 2, 1) := by decide +kernel
theorem dX5_takeNodeName_62 : decode cX5_takeNodeName 62 = .ok (.putfield 39, 3) := by decide +kernel
theorem dX5_takeNodeName_65 : decode cX5_takeNodeName 65 = .ok (.iconst 0, 1) := by decide +kernel
theorem dX5_takeNodeName_66 : decode cX5_takeNodeName 66 = .ok (.ireturn, 1) := by decide +kernel
theorem dX5_takeIn_0 : decode cX5_takeIn 0 = .ok (.aload_n 0, 1) := by decide +kernel
theorem dX5_takeIn_1 : decode cX5_takeIn 1 = .ok (.iconst 3, 1) := by decide +kernel
theorem dX5_takeIn_2 : decode cX5_takeIn 2 = .ok (.putfield 39, 3) := by decide +kernel
theorem dX5_takeIn_5 : decode cX5_takeIn 5 = .ok (.aload_n 0, 1) := by decide +kernel
theorem dX5_takeIn_6 : decode cX5_takeIn 6 = .ok (.getfield 25, 3) := by decide +kernel
theorem dX5_takeIn_9 : decode cX5_takeIn 9 = .ok (.getfield 99, 3) := by decide +kernel
theorem dX5_takeIn_12 : decode cX5_takeIn 12 = .ok (.bipush 8, 2) := by decide +kernel
theorem dX5_takeIn_14 : decode cX5_takeIn 14 = .ok (.if_icmp .ne 7, 3) := by decide +kernel
theorem dX5_takeIn_17 : decode cX5_takeIn 17 = .ok (.iconst 0, 1) := by decide +kernel
theorem dX5_takeIn_18 : decode cX5_takeIn 18 = .ok (.goto 4, 3) := by decide +kernel
theorem dX5_takeIn_21 : decode cX5_takeIn 21 = .ok (.iconst 1, 1) := by decide +kernel
theorem dX5_takeIn_22 : decode cX5_takeIn 22 = .ok (.ireturn, 1) := by decide +kernel
theorem dX5_takeParentName_0 : decode cX5_takeParentName 0 = .ok (.aload_n 0, 1) := by decide +kernel
theorem dX5_takeParentName_1 : decode cX5_takeParentName 1 = .ok (.invokevirtual 117, 3) := by decide +kernel
theorem dX5_takeParentName_4 : decode cX5_takeParentName 4 = .ok (.ifCond .ne 5, 3) := by decide +kernel
theorem dX5_takeParentName_7 : decode cX5_takeParentName 7 = .ok (.iconst 1, 1) := by decide +kernel
theorem dX5_takeParentName_8 : decode cX5_takeParentName 8 = .ok (.ireturn, 1) := by decide +kernel
theorem dX5_takeParentName_9 : decode cX5_takeParentName 9 = .ok (.aload_n 0, 1) := by decide +kernel
theorem dX5_takeParentName_10 : decode cX5_takeParentName 10 = .ok (.getfield 18, 3) := by decide +kernel
theorem dX5_takeParentName_13 : decode cX5_takeParentName 13 = .ok (.aload_n 0, 1) := by decide +kernel
theorem dX5_takeParentName_14 : decode cX5_takeParentName 14 = .ok (.getfield 25, 3) := by decide +kernel
theorem dX5_takeParentName_17 : decode cX5_takeParentName 17 = .ok (.getfield 121, 3) := by decide +kernel
theorem dX5_takeParentName_20 : decode cX5_takeParentName 20 = .ok (.invokevirtual 125, 3) := by decide +kernel
theorem dX5_takeParentName_23 : decode cX5_takeParentName 23 = .ok (.istore_n 1, 1) := by decide +kernel
theorem dX5_takeParentName_24 : decode cX5_takeParentName 24 = .ok (.iload_n 1, 1) := by decide +kernel
theorem dX5_takeParentName_25 : decode cX5_takeParentName 25 = .ok (.bipush (-2), 2) := by decide +kernel
theorem dX5_takeParentName_27 : decode cX5_takeParentName 27 = .ok (.if_icmp .ne 5, 3) := by decide +kernel
theorem dX5_takeParentName_30 : decode cX5_takeParentName 30 = .ok (.iconst 3, 1) := by decide +kernel
theorem dX5_takeParentName_31 : decode cX5_takeParentName 31 = .ok (.ireturn, 1) := by decide +kernel
theorem dX5_takeParentName_32 : decode cX5_takeParentName 32 = .ok (.aload_n 0, 1) := by decide +kernel
theorem dX5_takeParentName_33 : decode cX5_takeParentName 33 = .ok (.iload_n 1, 1) := by decide +kernel
theorem dX5_takeParentName_34 : decode cX5_takeParentName 34 = .ok (.invokevirtual 132, 3) := by decide +kernel
theorem dX5_takeParentName_37 : decode cX5_takeParentName 37 = .ok (.iconst 0, 1) := by decide +kernel
theorem dX5_takeParentName_38 : decode cX5_takeParentName 38 = .ok (.ireturn, 1) := by decide +kernel
theorem dX5_addNode_0 : decode cX5_addNode 0 = .ok (.aload_n 0, 1) := by decide +kernel
theorem dX5_addNode_1 : decode cX5_addNode 1 = .ok (.getfield 18, 3) := by decide +kernel
theorem dX5_addNode_4 : decode cX5_addNode 4 = .ok (.aload_n 0, 1) := by decide +kernel
theorem dX5_addNode_5 : decode cX5_addNode 5 = .ok (.getfield 129, 3) := by decide +kernel
theorem dX5_addNode_8 : decode cX5_addNode 8 = .ok (.iload_n 1, 1) := by decide +kernel
theorem dX5_addNode_9 : decode cX5_addNode 9 = .ok (.invokevirtual 136, 3) := by decide +kernel
theorem dX5_addNode_12 : decode cX5_addNode 12 = .ok (.aload_n 0, 1) := by decide +kernel
theorem dX5_addNode_13 : decode cX5_addNode 13 = .ok (.iconst 0, 1) := by decide +kernel
theorem dX5_addNode_14 : decode cX5_addNode 14 = .ok (.putfield 139, 3) := by decide +kernel
theorem dX5_addNode_17 : decode cX5_addNode 17 = .ok (.aload_n 0, 1) := by decide +kernel
theorem dX5_addNode_18 : decode cX5_addNode 18 = .ok (.iconst 4, 1) := by decide +kernel
theorem dX5_addNode_19 : decode cX5_addNode 19 = .ok (.putfield 39, 3) := by decide +kernel
theorem dX5_addNode_22 : decode cX5_addNode 22 = .ok (.return_, 1) := by decide +kernel
theorem dX5_takeSetting_0 : decode cX5_takeSetting 0 = .ok (.aload_n 0, 1) := by decide +kernel
theorem dX5_takeSetting_1 : decode cX5_takeSetting 1 = .ok (.getfield 25, 3) := by decide +kernel
theorem dX5_takeSetting_4 : decode cX5_takeSetting 4 = .ok (.getfield 36, 3) := by decide +kernel
theorem dX5_takeSetting_7 : decode cX5_takeSetting 7 = .ok (.iconst 3, 1) := by decide +kernel
theorem dX5_takeSetting_8 : decode cX5_takeSetting 8 = .ok (.if_icmp .ne 9, 3) := by decide +kernel
theorem dX5_takeSetting_11 : decode cX5_takeSetting 11 = .ok (.aload_n 0, 1) := by decide +kernel
theorem dX5_takeSetting_12 : decode cX5_takeSetting 12 = .ok (.invokevirtual 142, 3) := by decide +kernel
theorem dX5_takeSetting_15 : decode cX5_takeSetting 15 = .ok (.iconst 0, 1) := by decide +kernel
theorem dX5_takeSetting_16 : decode cX5_takeSetting 16 = .ok (.ireturn, 1) := by decide +kernel
theorem dX5_takeSetting_17 : decode cX5_takeSetting 17 = .ok (.aload_n 0, 1) := by decide +kernel
theorem dX5_takeSetting_18 : decode cX5_takeSetting 18 = .ok (.aload_n 0, 1) := by decide +kernel
theorem dX5_takeSetting_19 : decode cX5_takeSetting 19 = .ok (.getfield 25, 3) := by decide +kernel
theorem dX5_takeSetting_22 : decode cX5_takeSetting 22 = .ok (.getfield 99, 3) := by decide +kernel
theorem dX5_takeSetting_25 : decode cX5_takeSetting 25 = .ok (.putfield 145, 3) := by decide +kernel
theorem dX5_takeSetting_28 : decode cX5_takeSetting 28 = .ok (.aload_n 0, 1) := by decide +kernel
theorem dX5_takeSetting_29 : decode cX5_takeSetting 29 = .ok (.getfield 145, 3) := by decide +kernel
theorem dX5_takeSetting_32 : decode cX5_takeSetting 32 = .ok (.ifCond .lt 12, 3) := by decide +kernel
theorem dX5_takeSetting_35 : decode cX5_takeSetting 35 = .ok (.aload_n 0, 1) := by decide +kernel
theorem dX5_takeSetting_36 : decode cX5_takeSetting 36 = .ok (.getfield 145, 3) := by decide +kernel
theorem dX5_takeSetting_39 : decode cX5_takeSetting 39 = .ok (.bipush 6, 2) := by decide +kernel
theorem dX5_takeSetting_41 : decode cX5_takeSetting 41 = .ok (.if_icmp .le 5, 3) := by decide +kernel
theorem dX5_takeSetting_44 : decode cX5_takeSetting 44 = .ok (.iconst 1, 1) := by decide +kernel
theorem dX5_takeSetting_45 : decode cX5_takeSetting 45 = .ok (.ireturn, 1) := by decide +kernel
theorem dX5_takeSetting_46 : decode cX5_takeSetting 46 = .ok (.aload_n 0, 1) := by decide +kernel
theorem dX5_takeSetting_47 : decode cX5_takeSetting 47 = .ok (.getfield 139, 3) := by decide +kernel
theorem dX5_takeSetting_50 : decode cX5_takeSetting 50 = .ok (.aload_n 0, 1) := by decide +kernel
theorem dX5_takeSetting_51 : decode cX5_takeSetting 51 = .ok (.getfield 145, 3) := by decide +kernel
theorem dX5_takeSetting_54 : decode cX5_takeSetting 54 = .ok (.ishr, 1) := by decide +kernel
theorem dX5_takeSetting_55 : decode cX5_takeSetting 55 = .ok (.iconst 1, 1) := by decide +kernel
theorem dX5_takeSetting_56 : decode cX5_takeSetting 56 = .ok (.iand, 1) := by decide +kernel
theorem dX5_takeSetting_57 : decode cX5_takeSetting 57 = .ok (.iconst 1, 1) := by decide +kernel
theorem dX5_takeSetting_58 : decode cX5_takeSetting 58 = .ok (.if_icmp .ne 5, 3) := by decide +kernel
theorem dX5_takeSetting_61 : decode cX5_takeSetting 61 = .ok (.iconst 4, 1) := by decide +kernel
theorem dX5_takeSetting_62 : decode cX5_takeSetting 62 = .ok (.ireturn, 1) := by decide +kernel
theorem dX5_takeSetting_63 : decode cX5_takeSetting 63 = .ok (.aload_n 0, 1) := by decide +kernel
theorem dX5_takeSetting_64 : decode cX5_takeSetting 64 = .ok (.dup, 1) := by decide +kernel
theorem dX5_takeSetting_65 : decode cX5_takeSetting 65 = .ok (.getfield 139, 3) := by decide +kernel
theorem dX5_takeSetting_68 : decode cX5_takeSetting 68 = .ok (.iconst 1, 1) := by decide +kernel
theorem dX5_takeSetting_69 : decode cX5_takeSetting 69 = .ok (.aload_n 0, 1) := by decide +kernel
theorem dX5_takeSetting_70 : decode cX5_takeSetting 70 = .ok (.getfield 145, 3) := by decide +kernel
theorem dX5_takeSetting_73 : decode cX5_takeSetting 73 = .ok (.ishl, 1) := by decide +kernel
theorem dX5_takeSetting_74 : decode cX5_takeSetting 74 = .ok (.ior, 1) := by decide +kernel
theorem dX5_takeSetting_75 : decode cX5_takeSetting 75 = .ok (.putfield 139, 3) := by decide +kernel
theorem dX5_takeSetting_78 : decode cX5_takeSetting 78 = .ok (.aload_n 0, 1) := by decide +kernel
theorem dX5_takeSetting_79 : decode cX5_takeSetting 79 = .ok (.getfield 18, 3) := by decide +kernel
theorem dX5_takeSetting_82 : decode cX5_takeSetting 82 = .ok (.getfield 102, 3) := by decide +kernel
theorem dX5_takeSetting_85 : decode cX5_takeSetting 85 = .ok (.iconst 1, 1) := by decide +kernel
theorem dX5_takeSetting_86 : decode cX5_takeSetting 86 = .ok (.isub, 1) := by decide +kernel
theorem dX5_takeSetting_87 : decode cX5_takeSetting 87 = .ok (.istore_n 1, 1) := by decide +kernel
theorem dX5_takeSetting_88 : decode cX5_takeSetting 88 = .ok (.aload_n 0, 1) := by decide +kernel
theorem dX5_takeSetting_89 : decode cX5_takeSetting 89 = .ok (.getfield 145, 3) := by decide +kernel
theorem dX5_takeSetting_92 : decode cX5_takeSetting 92 = .ok (.bipush 6, 2) := by decide +kernel
theorem dX5_takeSetting_94 : decode cX5_takeSetting 94 = .ok (.if_icmp .eq 11, 3) := by decide +kernel
theorem dX5_takeSetting_97 : decode cX5_takeSetting 97 = .ok (.aload_n 0, 1) := by decide +kernel
theorem dX5_takeSetting_98 : decode cX5_takeSetting 98 = .ok (.iconst 5, 1) := by decide +kernel
theorem dX5_takeSetting_99 : decode cX5_takeSetting 99 = .ok (.putfield 39, 3) := by decide +kernel
theorem dX5_takeSetting_102 : decode cX5_takeSetting 102 = .ok (.goto 24, 3) := by decide +kernel
theorem dX5_takeSetting_105 : decode cX5_takeSetting 105 = .ok (.aload_n 0, 1) := by decide +kernel
theorem dX5_takeSetting_106 : decode cX5_takeSetting 106 = .ok (.getfield 18, 3) := by decide +kernel
theorem dX5_takeSetting_109 : decode cX5_takeSetting 109 = .ok (.iload_n 1, 1) := by decide +kernel
theorem dX5_takeSetting_110 : decode cX5_takeSetting 110 = .ok (.invokevirtual 148, 3) := by decide +kernel
theorem dX5_takeSetting_113 : decode cX5_takeSetting 113 = .ok (.ifCond .eq 13, 3) := by decide +kernel
theorem dX5_takeSetting_116 : decode cX5_takeSetting 116 = .ok (.aload_n 0, 1) := by decide +kernel
theorem dX5_takeSetting_117 : decode cX5_takeSetting 117 = .ok (.getfield 18, 3) := by decide +kernel
theorem dX5_takeSetting_120 : decode cX5_takeSetting 120 = .ok (.getfield 152, 3) := by decide +kernel
theorem dX5_takeSetting_123 : decode cX5_takeSetting 123 = .ok (.iload_n 1, 1) := by decide +kernel
theorem dX5_takeSetting_124 : decode cX5_takeSetting 124 = .ok (.iconst 1, 1) := by decide +kernel
theorem dX5_takeSetting_125 : decode cX5_takeSetting 125 = .ok (.bastore, 1) := by decide +kernel
theorem dX5_takeSetting_126 : decode cX5_takeSetting 126 = .ok (.iconst 0, 1) := by decide +kernel
theorem dX5_takeSetting_127 : decode cX5_takeSetting 127 = .ok (.ireturn, 1) := by decide +kernel
theorem dX5_finishNode_0 : decode cX5_finishNode 0 = .ok (.aload_n 0, 1) := by decide +kernel
theorem dX5_finishNode_1 : decode cX5_finishNode 1 = .ok (.getfield 18, 3) := by decide +kernel
theorem dX5_finishNode_4 : decode cX5_finishNode 4 = .ok (.getfield 102, 3) := by decide +kernel
theorem dX5_finishNode_7 : decode cX5_finishNode 7 = .ok (.iconst 1, 1) := by decide +kernel
theorem dX5_finishNode_8 : decode cX5_finishNode 8 = .ok (.isub, 1) := by decide +kernel
theorem dX5_finishNode_9 : decode cX5_finishNode 9 = .ok (.istore_n 1, 1) := by decide +kernel
theorem dX5_finishNode_10 : decode cX5_finishNode 10 = .ok (.aload_n 0, 1) := by decide +kernel
theorem dX5_finishNode_11 : decode cX5_finishNode 11 = .ok (.getfield 18, 3) := by decide +kernel
theorem dX5_finishNode_14 : decode cX5_finishNode 14 = .ok (.iload_n 1, 1) := by decide +kernel
theorem dX5_finishNode_15 : decode cX5_finishNode 15 = .ok (.invokevirtual 148, 3) := by decide +kernel
theorem dX5_finishNode_18 : decode cX5_finishNode 18 = .ok (.ifCond .eq 32, 3) := by decide +kernel
theorem dX5_finishNode_21 : decode cX5_finishNode 21 = .ok (.aload_n 0, 1) := by decide +kernel
theorem dX5_finishNode_22 : decode cX5_finishNode 22 = .ok (.getfield 139, 3) := by decide +kernel
theorem dX5_finishNode_25 : decode cX5_finishNode 25 = .ok (.iconst 1, 1) := by decide +kernel
theorem dX5_finishNode_26 : decode cX5_finishNode 26 = .ok (.ishr, 1) := by decide +kernel
theorem dX5_finishNode_27 : decode cX5_finishNode 27 = .ok (.iconst 1, 1) := by decide +kernel
theorem dX5_finishNode_28 : decode cX5_finishNode 28 = .ok (.iand, 1) := by decide +kernel
theorem dX5_finishNode_29 : decode cX5_finishNode 29 = .ok (.ifCond .ne 21, 3) := by decide +kernel
theorem dX5_finishNode_32 : decode cX5_finishNode 32 = .ok (.aload_n 0, 1) := by decide +kernel
theorem dX5_finishNode_33 : decode cX5_finishNode 33 = .ok (.getfield 18, 3) := by decide +kernel
theorem dX5_finishNode_36 : decode cX5_finishNode 36 = .ok (.getfield 156, 3) := by decide +kernel
theorem dX5_finishNode_39 : decode cX5_finishNode 39 = .ok (.iload_n 1, 1) := by decide +kernel
theorem dX5_finishNode_40 : decode cX5_finishNode 40 = .ok (.aload_n 0, 1) := by decide +kernel
theorem dX5_finishNode_41 : decode cX5_finishNode 41 = .ok (.getfield 18, 3) := by decide +kernel
theorem dX5_finishNode_44 : decode cX5_finishNode 44 = .ok (.getfield 160, 3) := by decide +kernel
theorem dX5_finishNode_47 : decode cX5_finishNode 47 = .ok (.iload_n 1, 1) := by decide +kernel
theorem dX5_finishNode_48 : decode cX5_finishNode 48 = .ok (.iaload, 1) := by decide +kernel
theorem dX5_finishNode_49 : decode cX5_finishNode 49 = .ok (.iastore, 1) := by decide +kernel
theorem dX5_finishNode_50 : decode cX5_finishNode 50 = .ok (.aload_n 0, 1) := by decide +kernel
theorem dX5_finishNode_51 : decode cX5_finishNode 51 = .ok (.iconst 0, 1) := by decide +kernel
theorem dX5_finishNode_52 : decode cX5_finishNode 52 = .ok (.putfield 39, 3) := by decide +kernel
theorem dX5_finishNode_55 : decode cX5_finishNode 55 = .ok (.return_, 1) := by decide +kernel
theorem dX5_takeSettingValue_0 : decode cX5_takeSettingValue 0 = .ok (.aload_n 0, 1) := by decide +kernel
theorem dX5_takeSettingValue_1 : decode cX5_takeSettingValue 1 = .ok (.aload_n 0, 1) := by decide +kernel
theorem dX5_takeSettingValue_2 : decode cX5_takeSettingValue 2 = .ok (.getfield 145, 3) := by decide +kernel
theorem dX5_takeSettingValue_5 : decode cX5_takeSettingValue 5 = .ok (.invokevirtual 163, 3) := by decide +kernel
theorem dX5_takeSettingValue_8 : decode cX5_takeSettingValue 8 = .ok (.istore_n 1, 1) := by decide +kernel
theorem dX5_takeSettingValue_9 : decode cX5_takeSettingValue 9 = .ok (.aload_n 0, 1) := by decide +kernel
theorem dX5_takeSettingValue_10 : decode cX5_takeSettingValue 10 = .ok (.getfield 18, 3) := by decide +kernel
theorem dX5_takeSettingValue_13 : decode cX5_takeSettingValue 13 = .ok (.getfield 102, 3) := by decide +kernel
theorem dX5_takeSettingValue_16 : decode cX5_takeSettingValue 16 = .ok (.iconst 1, 1) := by decide +kernel
theorem dX5_takeSettingValue_17 : decode cX5_takeSettingValue 17 = .ok (.isub, 1) := by decide +kernel
theorem dX5_takeSettingValue_18 : decode cX5_takeSettingValue 18 = .ok (.istore_n 2, 1) := by decide +kernel
theorem dX5_takeSettingValue_19 : decode cX5_takeSettingValue 19 = .ok (.iload_n 1, 1) := by decide +kernel
theorem dX5_takeSettingValue_20 : decode cX5_takeSettingValue 20 = .ok (.ifCond .ne 34, 3) := by decide +kernel
theorem dX5_takeSettingValue_23 : decode cX5_takeSettingValue 23 = .ok (.aload_n 0, 1) := by decide +kernel
theorem dX5_takeSettingValue_24 : decode cX5_takeSettingValue 24 = .ok (.getfield 18, 3) := by decide +kernel
theorem dX5_takeSettingValue_27 : decode cX5_takeSettingValue 27 = .ok (.iload_n 2, 1) := by decide +kernel
theorem dX5_takeSettingValue_28 : decode cX5_takeSettingValue 28 = .ok (.invokevirtual 148, 3) := by decide +kernel
theorem dX5_takeSettingValue_31 : decode cX5_takeSettingValue 31 = .ok (.ifCond .eq 23, 3) := by decide +kernel
theorem dX5_takeSettingValue_34 : decode cX5_takeSettingValue 34 = .ok (.aload_n 0, 1) := by decide +kernel
theorem dX5_takeSettingValue_35 : decode cX5_takeSettingValue 35 = .ok (.getfield 18, 3) := by decide +kernel
theorem dX5_takeSettingValue_38 : decode cX5_takeSettingValue 38 = .ok (.aload_n 0, 1) := by decide +kernel
theorem dX5_takeSettingValue_39 : decode cX5_takeSettingValue 39 = .ok (.getfield 145, 3) := by decide +kernel
theorem dX5_takeSettingValue_42 : decode cX5_takeSettingValue 42 = .ok (.invokevirtual 167, 3) := by decide +kernel
theorem dX5_takeSettingValue_45 : decode cX5_takeSettingValue 45 = .ok (.iload_n 2, 1) := by decide +kernel
theorem dX5_takeSettingValue_46 : decode cX5_takeSettingValue 46 = .ok (.aload_n 0, 1) := by decide +kernel
theorem dX5_takeSettingValue_47 : decode cX5_takeSettingValue 47 = .ok (.getfield 25, 3) := by decide +kernel
theorem dX5_takeSettingValue_50 : decode cX5_takeSettingValue 50 = .ok (.getfield 171, 3) := by decide +kernel
theorem dX5_takeSettingValue_53 : decode cX5_takeSettingValue 53 = .ok (.iastore, 1) := by decide +kernel
theorem dX5_takeSettingValue_54 : decode cX5_takeSettingValue 54 = .ok (.aload_n 0, 1) := by decide +kernel
theorem dX5_takeSettingValue_55 : decode cX5_takeSettingValue 55 = .ok (.iconst 4, 1) := by decide +kernel
theorem dX5_takeSettingValue_56 : decode cX5_takeSettingValue 56 = .ok (.putfield 39, 3) := by decide +kernel
theorem dX5_takeSettingValue_59 : decode cX5_takeSettingValue 59 = .ok (.iload_n 1, 1) := by decide +kernel
theorem dX5_takeSettingValue_60 : decode cX5_takeSettingValue 60 = .ok (.ireturn, 1) := by decide +kernel
theorem dX5_numberFault_0 : decode cX5_numberFault 0 = .ok (.aload_n 0, 1) := by decide +kernel
theorem dX5_numberFault_1 : decode cX5_numberFault 1 = .ok (.getfield 25, 3) := by decide +kernel
theorem dX5_numberFault_4 : decode cX5_numberFault 4 = .ok (.getfield 36, 3) := by decide +kernel
theorem dX5_numberFault_7 : decode cX5_numberFault 7 = .ok (.iconst 2, 1) := by decide +kernel
theorem dX5_numberFault_8 : decode cX5_numberFault 8 = .ok (.if_icmp .eq 5, 3) := by decide +kernel
theorem dX5_numberFault_11 : decode cX5_numberFault 11 = .ok (.iconst 1, 1) := by decide +kernel
theorem dX5_numberFault_12 : decode cX5_numberFault 12 = .ok (.ireturn, 1) := by decide +kernel
theorem dX5_numberFault_13 : decode cX5_numberFault 13 = .ok (.iload_n 1, 1) := by decide +kernel
theorem dX5_numberFault_14 : decode cX5_numberFault 14 = .ok (.aload_n 0, 1) := by decide +kernel
theorem dX5_numberFault_15 : decode cX5_numberFault 15 = .ok (.getfield 25, 3) := by decide +kernel
theorem dX5_numberFault_18 : decode cX5_numberFault 18 = .ok (.getfield 171, 3) := by decide +kernel
theorem dX5_numberFault_21 : decode cX5_numberFault 21 = .ok (.invokestatic 174, 3) := by decide +kernel
theorem dX5_numberFault_24 : decode cX5_numberFault 24 = .ok (.ifCond .eq 7, 3) := by decide +kernel
theorem dX5_numberFault_27 : decode cX5_numberFault 27 = .ok (.iconst 0, 1) := by decide +kernel
theorem dX5_numberFault_28 : decode cX5_numberFault 28 = .ok (.goto 4, 3) := by decide +kernel
theorem dX5_numberFault_31 : decode cX5_numberFault 31 = .ok (.iconst 2, 1) := by decide +kernel
theorem dX5_numberFault_32 : decode cX5_numberFault 32 = .ok (.ireturn, 1) := by decide +kernel
theorem dX5_numberFault__0 : decode cX5_numberFault_ 0 = .ok (.aload_n 0, 1) := by decide +kernel
theorem dX5_numberFault__1 : decode cX5_numberFault_ 1 = .ok (.getfield 25, 3) := by decide +kernel
theorem dX5_numberFault__4 : decode cX5_numberFault_ 4 = .ok (.getfield 36, 3) := by decide +kernel
theorem dX5_numberFault__7 : decode cX5_numberFault_ 7 = .ok (.iconst 2, 1) := by decide +kernel
theorem dX5_numberFault__8 : decode cX5_numberFault_ 8 = .ok (.if_icmp .eq 5, 3) := by decide +kernel
theorem dX5_numberFault__11 : decode cX5_numberFault_ 11 = .ok (.iconst 1, 1) := by decide +kernel
theorem dX5_numberFault__12 : decode cX5_numberFault_ 12 = .ok (.ireturn, 1) := by decide +kernel
theorem dX5_numberFault__13 : decode cX5_numberFault_ 13 = .ok (.aload_n 0, 1) := by decide +kernel
theorem dX5_numberFault__14 : decode cX5_numberFault_ 14 = .ok (.getfield 25, 3) := by decide +kernel
theorem dX5_numberFault__17 : decode cX5_numberFault_ 17 = .ok (.getfield 171, 3) := by decide +kernel
theorem dX5_numberFault__20 : decode cX5_numberFault_ 20 = .ok (.iload_n 1, 1) := by decide +kernel
theorem dX5_numberFault__21 : decode cX5_numberFault_ 21 = .ok (.if_icmp .lt 18, 3) := by decide +kernel
theorem dX5_numberFault__24 : decode cX5_numberFault_ 24 = .ok (.aload_n 0, 1) := by decide +kernel
theorem dX5_numberFault__25 : decode cX5_numberFault_ 25 = .ok (.getfield 25, 3) := by decide +kernel
theorem dX5_numberFault__28 : decode cX5_numberFault_ 28 = .ok (.getfield 171, 3) := by decide +kernel
theorem dX5_numberFault__31 : decode cX5_numberFault_ 31 = .ok (.iload_n 2, 1) := by decide +kernel
theorem dX5_numberFault__32 : decode cX5_numberFault_ 32 = .ok (.if_icmp .gt 7, 3) := by decide +kernel
theorem dX5_numberFault__35 : decode cX5_numberFault_ 35 = .ok (.iconst 0, 1) := by decide +kernel
theorem dX5_numberFault__36 : decode cX5_numberFault_ 36 = .ok (.goto 4, 3) := by decide +kernel
theorem dX5_numberFault__39 : decode cX5_numberFault_ 39 = .ok (.iconst 2, 1) := by decide +kernel
theorem dX5_numberFault__40 : decode cX5_numberFault_ 40 = .ok (.ireturn, 1) := by decide +kernel
theorem dX5_takeLimit_0 : decode cX5_takeLimit 0 = .ok (.aload_n 0, 1) := by decide +kernel
theorem dX5_takeLimit_1 : decode cX5_takeLimit 1 = .ok (.getfield 18, 3) := by decide +kernel
theorem dX5_takeLimit_4 : decode cX5_takeLimit 4 = .ok (.aload_n 0, 1) := by decide +kernel
theorem dX5_takeLimit_5 : decode cX5_takeLimit 5 = .ok (.getfield 25, 3) := by decide +kernel
theorem dX5_takeLimit_8 : decode cX5_takeLimit 8 = .ok (.getfield 171, 3) := by decide +kernel
theorem dX5_takeLimit_11 : decode cX5_takeLimit 11 = .ok (.putfield 178, 3) := by decide +kernel
theorem dX5_takeLimit_14 : decode cX5_takeLimit 14 = .ok (.aload_n 0, 1) := by decide +kernel
theorem dX5_takeLimit_15 : decode cX5_takeLimit 15 = .ok (.iconst 1, 1) := by decide +kernel
theorem dX5_takeLimit_16 : decode cX5_takeLimit 16 = .ok (.putfield 56, 3) := by decide +kernel
theorem dX5_takeLimit_19 : decode cX5_takeLimit 19 = .ok (.aload_n 0, 1) := by decide +kernel
theorem dX5_takeLimit_20 : decode cX5_takeLimit 20 = .ok (.bipush 12, 2) := by decide +kernel
theorem dX5_takeLimit_22 : decode cX5_takeLimit 22 = .ok (.putfield 39, 3) := by decide +kernel
theorem dX5_takeLimit_25 : decode cX5_takeLimit 25 = .ok (.aload_n 0, 1) := by decide +kernel
theorem dX5_takeLimit_26 : decode cX5_takeLimit 26 = .ok (.iconst 0, 1) := by decide +kernel
theorem dX5_takeLimit_27 : decode cX5_takeLimit 27 = .ok (.bipush 99, 2) := by decide +kernel
theorem dX5_takeLimit_29 : decode cX5_takeLimit 29 = .ok (.invokevirtual 181, 3) := by decide +kernel
theorem dX5_takeLimit_32 : decode cX5_takeLimit 32 = .ok (.ireturn, 1) := by decide +kernel
theorem dX5_takeAge_0 : decode cX5_takeAge 0 = .ok (.aload_n 0, 1) := by decide +kernel
theorem dX5_takeAge_1 : decode cX5_takeAge 1 = .ok (.getfield 18, 3) := by decide +kernel
theorem dX5_takeAge_4 : decode cX5_takeAge 4 = .ok (.aload_n 0, 1) := by decide +kernel
theorem dX5_takeAge_5 : decode cX5_takeAge 5 = .ok (.getfield 25, 3) := by decide +kernel
theorem dX5_takeAge_8 : decode cX5_takeAge 8 = .ok (.getfield 171, 3) := by decide +kernel
theorem dX5_takeAge_11 : decode cX5_takeAge 11 = .ok (.putfield 105, 3) := by decide +kernel
theorem dX5_takeAge_14 : decode cX5_takeAge 14 = .ok (.aload_n 0, 1) := by decide +kernel
theorem dX5_takeAge_15 : decode cX5_takeAge 15 = .ok (.bipush 12, 2) := by decide +kernel
theorem dX5_takeAge_17 : decode cX5_takeAge 17 = .ok (.putfield 39, 3) := by decide +kernel
theorem dX5_takeAge_20 : decode cX5_takeAge 20 = .ok (.aload_n 0, 1) := by decide +kernel
theorem dX5_takeAge_21 : decode cX5_takeAge 21 = .ok (.iconst 0, 1) := by decide +kernel
theorem dX5_takeAge_22 : decode cX5_takeAge 22 = .ok (.sipush 999, 3) := by decide +kernel
theorem dX5_takeAge_25 : decode cX5_takeAge 25 = .ok (.invokevirtual 181, 3) := by decide +kernel
theorem dX5_takeAge_28 : decode cX5_takeAge 28 = .ok (.ireturn, 1) := by decide +kernel
theorem dX5_takeChangeTime_0 : decode cX5_takeChangeTime 0 = .ok (.aload_n 0, 1) := by decide +kernel
theorem dX5_takeChangeTime_1 : decode cX5_takeChangeTime 1 = .ok (.aload_n 0, 1) := by decide +kernel
theorem dX5_takeChangeTime_2 : decode cX5_takeChangeTime 2 = .ok (.getfield 25, 3) := by decide +kernel
theorem dX5_takeChangeTime_5 : decode cX5_takeChangeTime 5 = .ok (.getfield 171, 3) := by decide +kernel
theorem dX5_takeChangeTime_8 : decode cX5_takeChangeTime 8 = .ok (.putfield 184, 3) := by decide +kernel
theorem dX5_takeChangeTime_11 : decode cX5_takeChangeTime 11 = .ok (.aload_n 0, 1) := by decide +kernel
theorem dX5_takeChangeTime_12 : decode cX5_takeChangeTime 12 = .ok (.bipush 9, 2) := by decide +kernel
theorem dX5_takeChangeTime_14 : decode cX5_takeChangeTime 14 = .ok (.putfield 39, 3) := by decide +kernel
theorem dX5_takeChangeTime_17 : decode cX5_takeChangeTime 17 = .ok (.aload_n 0, 1) := by decide +kernel
theorem dX5_takeChangeTime_18 : decode cX5_takeChangeTime 18 = .ok (.iconst 1, 1) := by decide +kernel
theorem dX5_takeChangeTime_19 : decode cX5_takeChangeTime 19 = .ok (.sipush 5000, 3) := by decide +kernel
theorem dX5_takeChangeTime_22 : decode cX5_takeChangeTime 22 = .ok (.invokevirtual 181, 3) := by decide +kernel
theorem dX5_takeChangeTime_25 : decode cX5_takeChangeTime 25 = .ok (.ireturn, 1) := by decide +kernel
theorem dX5_takeChangeName_0 : decode cX5_takeChangeName 0 = .ok (.aload_n 0, 1) := by decide +kernel
theorem dX5_takeChangeName_1 : decode cX5_takeChangeName 1 = .ok (.invokevirtual 117, 3) := by decide +kernel
theorem dX5_takeChangeName_4 : decode cX5_takeChangeName 4 = .ok (.ifCond .ne 5, 3) := by decide +kernel
theorem dX5_takeChangeName_7 : decode cX5_takeChangeName 7 = .ok (.iconst 1, 1) := by decide +kernel
theorem dX5_takeChangeName_8 : decode cX5_takeChangeName 8 = .ok (.ireturn, 1) := by decide +kernel
theorem dX5_takeChangeName_9 : decode cX5_takeChangeName 9 = .ok (.aload_n 0, 1) := by decide +kernel
theorem dX5_takeChangeName_10 : decode cX5_takeChangeName 10 = .ok (.aload_n 0, 1) := by decide +kernel
theorem dX5_takeChangeName_11 : decode cX5_takeChangeName 11 = .ok (.getfield 18, 3) := by decide +kernel
theorem dX5_takeChangeName_14 : decode cX5_takeChangeName 14 = .ok (.aload_n 0, 1) := by decide +kernel
theorem dX5_takeChangeName_15 : decode cX5_takeChangeName 15 = .ok (.getfield 25, 3) := by decide +kernel
theorem dX5_takeChangeName_18 : decode cX5_takeChangeName 18 = .ok (.getfield 121, 3) := by decide +kernel
theorem dX5_takeChangeName_21 : decode cX5_takeChangeName 21 = .ok (.invokevirtual 125, 3) := by decide +kernel
theorem dX5_takeChangeName_24 : decode cX5_takeChangeName 24 = .ok (.putfield 187, 3) := by decide +kernel
theorem dX5_takeChangeName_27 : decode cX5_takeChangeName 27 = .ok (.aload_n 0, 1) := by decide +kernel
theorem dX5_takeChangeName_28 : decode cX5_takeChangeName 28 = .ok (.bipush 10, 2) := by decide +kernel
theorem dX5_takeChangeName_30 : decode cX5_takeChangeName 30 = .ok (.putfield 39, 3) := by decide +kernel
theorem dX5_takeChangeName_33 : decode cX5_takeChangeName 33 = .ok (.aload_n 0, 1) := by decide +kernel
theorem dX5_takeChangeName_34 : decode cX5_takeChangeName 34 = .ok (.getfield 187, 3) := by decide +kernel
theorem dX5_takeChangeName_37 : decode cX5_takeChangeName 37 = .ok (.bipush (-2), 2) := by decide +kernel
theorem dX5_takeChangeName_39 : decode cX5_takeChangeName 39 = .ok (.if_icmp .ne 7, 3) := by decide +kernel
theorem dX5_takeChangeName_42 : decode cX5_takeChangeName 42 = .ok (.iconst 3, 1) := by decide +kernel
theorem dX5_takeChangeName_43 : decode cX5_takeChangeName 43 = .ok (.goto 4, 3) := by decide +kernel
theorem dX5_takeChangeName_46 : decode cX5_takeChangeName 46 = .ok (.iconst 0, 1) := by decide +kernel
theorem dX5_takeChangeName_47 : decode cX5_takeChangeName 47 = .ok (.ireturn, 1) := by decide +kernel
theorem dX5_takeChangeSetting_0 : decode cX5_takeChangeSetting 0 = .ok (.aload_n 0, 1) := by decide +kernel
theorem dX5_takeChangeSetting_1 : decode cX5_takeChangeSetting 1 = .ok (.aload_n 0, 1) := by decide +kernel
theorem dX5_takeChangeSetting_2 : decode cX5_takeChangeSetting 2 = .ok (.getfield 25, 3) := by decide +kernel
theorem dX5_takeChangeSetting_5 : decode cX5_takeChangeSetting 5 = .ok (.getfield 99, 3) := by decide +kernel
theorem dX5_takeChangeSetting_8 : decode cX5_takeChangeSetting 8 = .ok (.putfield 145, 3) := by decide +kernel
theorem dX5_takeChangeSetting_11 : decode cX5_takeChangeSetting 11 = .ok (.aload_n 0, 1) := by decide +kernel
theorem dX5_takeChangeSetting_12 : decode cX5_takeChangeSetting 12 = .ok (.bipush 11, 2) := by decide +kernel
theorem dX5_takeChangeSetting_14 : decode cX5_takeChangeSetting 14 = .ok (.putfield 39, 3) := by decide +kernel
theorem dX5_takeChangeSetting_17 : decode cX5_takeChangeSetting 17 = .ok (.aload_n 0, 1) := by decide +kernel
theorem dX5_takeChangeSetting_18 : decode cX5_takeChangeSetting 18 = .ok (.getfield 145, 3) := by decide +kernel
theorem dX5_takeChangeSetting_21 : decode cX5_takeChangeSetting 21 = .ok (.ifCond .eq 19, 3) := by decide +kernel
theorem dX5_takeChangeSetting_24 : decode cX5_takeChangeSetting 24 = .ok (.aload_n 0, 1) := by decide +kernel
theorem dX5_takeChangeSetting_25 : decode cX5_takeChangeSetting 25 = .ok (.getfield 145, 3) := by decide +kernel
theorem dX5_takeChangeSetting_28 : decode cX5_takeChangeSetting 28 = .ok (.iconst 1, 1) := by decide +kernel
theorem dX5_takeChangeSetting_29 : decode cX5_takeChangeSetting 29 = .ok (.if_icmp .eq 11, 3) := by decide +kernel
theorem dX5_takeChangeSetting_32 : decode cX5_takeChangeSetting 32 = .ok (.aload_n 0, 1) := by decide +kernel
theorem dX5_takeChangeSetting_33 : decode cX5_takeChangeSetting 33 = .ok (.getfield 145, 3) := by decide +kernel
theorem dX5_takeChangeSetting_36 : decode cX5_takeChangeSetting 36 = .ok (.iconst 4, 1) := by decide +kernel
theorem dX5_takeChangeSetting_37 : decode cX5_takeChangeSetting 37 = .ok (.if_icmp .ne 7, 3) := by decide +kernel
theorem dX5_takeChangeSetting_40 : decode cX5_takeChangeSetting 40 = .ok (.iconst 0, 1) := by decide +kernel
theorem dX5_takeChangeSetting_41 : decode cX5_takeChangeSetting 41 = .ok (.goto 4, 3) := by decide +kernel
theorem dX5_takeChangeSetting_44 : decode cX5_takeChangeSetting 44 = .ok (.iconst 1, 1) := by decide +kernel
theorem dX5_takeChangeSetting_45 : decode cX5_takeChangeSetting 45 = .ok (.ireturn, 1) := by decide +kernel
theorem dX5_takeChangeValue_0 : decode cX5_takeChangeValue 0 = .ok (.aload_n 0, 1) := by decide +kernel
theorem dX5_takeChangeValue_1 : decode cX5_takeChangeValue 1 = .ok (.aload_n 0, 1) := by decide +kernel
theorem dX5_takeChangeValue_2 : decode cX5_takeChangeValue 2 = .ok (.getfield 145, 3) := by decide +kernel
theorem dX5_takeChangeValue_5 : decode cX5_takeChangeValue 5 = .ok (.invokevirtual 163, 3) := by decide +kernel
theorem dX5_takeChangeValue_8 : decode cX5_takeChangeValue 8 = .ok (.istore_n 1, 1) := by decide +kernel
theorem dX5_takeChangeValue_9 : decode cX5_takeChangeValue 9 = .ok (.iload_n 1, 1) := by decide +kernel
theorem dX5_takeChangeValue_10 : decode cX5_takeChangeValue 10 = .ok (.ifCond .ne 32, 3) := by decide +kernel
theorem dX5_takeChangeValue_13 : decode cX5_takeChangeValue 13 = .ok (.aload_n 0, 1) := by decide +kernel
theorem dX5_takeChangeValue_14 : decode cX5_takeChangeValue 14 = .ok (.getfield 18, 3) := by decide +kernel
theorem dX5_takeChangeValue_17 : decode cX5_takeChangeValue 17 = .ok (.getfield 108, 3) := by decide +kernel
theorem dX5_takeChangeValue_20 : decode cX5_takeChangeValue 20 = .ok (.aload_n 0, 1) := by decide +kernel
theorem dX5_takeChangeValue_21 : decode cX5_takeChangeValue 21 = .ok (.getfield 184, 3) := by decide +kernel
theorem dX5_takeChangeValue_24 : decode cX5_takeChangeValue 24 = .ok (.aload_n 0, 1) := by decide +kernel
theorem dX5_takeChangeValue_25 : decode cX5_takeChangeValue 25 = .ok (.getfield 187, 3) := by decide +kernel
theorem dX5_takeChangeValue_28 : decode cX5_takeChangeValue 28 = .ok (.aload_n 0, 1) := by decide +kernel
theorem dX5_takeChangeValue_29 : decode cX5_takeChangeValue 29 = .ok (.getfield 145, 3) := by decide +kernel
theorem dX5_takeChangeValue_32 : decode cX5_takeChangeValue 32 = .ok (.aload_n 0, 1) := by decide +kernel
theorem dX5_takeChangeValue_33 : decode cX5_takeChangeValue 33 = .ok (.getfield 25, 3) := by decide +kernel
theorem dX5_takeChangeValue_36 : decode cX5_takeChangeValue 36 = .ok (.getfield 171, 3) := by decide +kernel
theorem dX5_takeChangeValue_39 : decode cX5_takeChangeValue 39 = .ok (.invokevirtual 190, 3) := by decide +kernel
theorem dX5_takeChangeValue_42 : decode cX5_takeChangeValue 42 = .ok (.aload_n 0, 1) := by decide +kernel
theorem dX5_takeChangeValue_43 : decode cX5_takeChangeValue 43 = .ok (.bipush 12, 2) := by decide +kernel
theorem dX5_takeChangeValue_45 : decode cX5_takeChangeValue 45 = .ok (.putfield 39, 3) := by decide +kernel
theorem dX5_takeChangeValue_48 : decode cX5_takeChangeValue 48 = .ok (.iload_n 1, 1) := by decide +kernel
theorem dX5_takeChangeValue_49 : decode cX5_takeChangeValue 49 = .ok (.ireturn, 1) := by decide +kernel
theorem dX5_takeStatementEnd_0 : decode cX5_takeStatementEnd 0 = .ok (.aload_n 0, 1) := by decide +kernel
theorem dX5_takeStatementEnd_1 : decode cX5_takeStatementEnd 1 = .ok (.iconst 0, 1) := by decide +kernel
theorem dX5_takeStatementEnd_2 : decode cX5_takeStatementEnd 2 = .ok (.putfield 39, 3) := by decide +kernel
theorem dX5_takeStatementEnd_5 : decode cX5_takeStatementEnd 5 = .ok (.aload_n 0, 1) := by decide +kernel
theorem dX5_takeStatementEnd_6 : decode cX5_takeStatementEnd 6 = .ok (.getfield 25, 3) := by decide +kernel
theorem dX5_takeStatementEnd_9 : decode cX5_takeStatementEnd 9 = .ok (.getfield 36, 3) := by decide +kernel
theorem dX5_takeStatementEnd_12 : decode cX5_takeStatementEnd 12 = .ok (.iconst 3, 1) := by decide +kernel
theorem dX5_takeStatementEnd_13 : decode cX5_takeStatementEnd 13 = .ok (.if_icmp .ne 7, 3) := by decide +kernel
theorem dX5_takeStatementEnd_16 : decode cX5_takeStatementEnd 16 = .ok (.iconst 0, 1) := by decide +kernel
theorem dX5_takeStatementEnd_17 : decode cX5_takeStatementEnd 17 = .ok (.goto 4, 3) := by decide +kernel
theorem dX5_takeStatementEnd_20 : decode cX5_takeStatementEnd 20 = .ok (.iconst 1, 1) := by decide +kernel
theorem dX5_takeStatementEnd_21 : decode cX5_takeStatementEnd 21 = .ok (.ireturn, 1) := by decide +kernel
theorem dX6_init_0 : decode cX6_init 0 = .ok (.aload_n 0, 1) := by decide +kernel
theorem dX6_init_1 : decode cX6_init 1 = .ok (.invokespecial 3, 3) := by decide +kernel
theorem dX6_init_4 : decode cX6_init 4 = .ok (.return_, 1) := by decide +kernel
theorem dX6_begin_0 : decode cX6_begin 0 = .ok (.aload_n 0, 1) := by decide +kernel
theorem dX6_begin_1 : decode cX6_begin 1 = .ok (.iconst 0, 1) := by decide +kernel
theorem dX6_begin_2 : decode cX6_begin 2 = .ok (.putfield 9, 3) := by decide +kernel
theorem dX6_begin_5 : decode cX6_begin 5 = .ok (.return_, 1) := by decide +kernel
theorem dX6_scan_0 : decode cX6_scan 0 = .ok (.aload_n 0, 1) := by decide +kernel
theorem dX6_scan_1 : decode cX6_scan 1 = .ok (.aload_n 1, 1) := by decide +kernel
theorem dX6_scan_2 : decode cX6_scan 2 = .ok (.invokevirtual 15, 3) := by decide +kernel
theorem dX6_scan_5 : decode cX6_scan 5 = .ok (.aload_n 0, 1) := by decide +kernel
theorem dX6_scan_6 : decode cX6_scan 6 = .ok (.aload_n 0, 1) := by decide +kernel
theorem dX6_scan_7 : decode cX6_scan 7 = .ok (.getfield 9, 3) := by decide +kernel
theorem dX6_scan_10 : decode cX6_scan 10 = .ok (.putfield 19, 3) := by decide +kernel
theorem dX6_scan_13 : decode cX6_scan 13 = .ok (.aload_n 0, 1) := by decide +kernel
theorem dX6_scan_14 : decode cX6_scan 14 = .ok (.iconst (-1), 1) := by decide +kernel
theorem dX6_scan_15 : decode cX6_scan 15 = .ok (.putfield 22, 3) := by decide +kernel
theorem dX6_scan_18 : decode cX6_scan 18 = .ok (.aload_n 1, 1) := by decide +kernel
theorem dX6_scan_19 : decode cX6_scan 19 = .ok (.aload_n 0, 1) := by decide +kernel
theorem dX6_scan_20 : decode cX6_scan 20 = .ok (.getfield 9, 3) := by decide +kernel
theorem dX6_scan_23 : decode cX6_scan 23 = .ok (.invokevirtual 25, 3) := by decide +kernel
theorem dX6_scan_26 : decode cX6_scan 26 = .ok (.istore_n 2, 1) := by decide +kernel
theorem dX6_scan_27 : decode cX6_scan 27 = .ok (.aload_n 0, 1) := by decide +kernel
theorem dX6_scan_28 : decode cX6_scan 28 = .ok (.getfield 9, 3) := by decide +kernel
theorem dX6_scan_31 : decode cX6_scan 31 = .ok (.aload_n 1, 1) := by decide +kernel
theorem dX6_scan_32 : decode cX6_scan 32 = .ok (.getfield 31, 3) := by decide +kernel
theorem dX6_scan_35 : decode cX6_scan 35 = .ok (.if_icmp .lt 11, 3) := by decide +kernel
theorem dX6_scan_38 : decode cX6_scan 38 = .ok (.aload_n 0, 1) := by decide +kernel
theorem dX6_scan_39 : decode cX6_scan 39 = .ok (.iconst 0, 1) := by decide +kernel
theorem dX6_scan_40 : decode cX6_scan 40 = .ok (.putfield 34, 3) := by decide +kernel
theorem dX6_scan_43 : decode cX6_scan 43 = .ok (.goto 58, 3) := by decide +kernel
theorem dX6_scan_46 : decode cX6_scan 46 = .ok (.iload_n 2, 1) := by decide +kernel
theorem dX6_scan_47 : decode cX6_scan 47 = .ok (.invokestatic 37, 3) := by decide +kernel
theorem dX6_scan_50 : decode cX6_scan 50 = .ok (.ifCond .eq 11, 3) := by decide +kernel
theorem dX6_scan_53 : decode cX6_scan 53 = .ok (.aload_n 0, 1) := by decide +kernel
theorem dX6_scan_54 : decode cX6_scan 54 = .ok (.aload_n 1, 1) := by decide +kernel
theorem dX6_scan_55 : decode cX6_scan 55 = .ok (.invokevirtual 41, 3) := by decide +kernel
theorem dX6_scan_58 : decode cX6_scan 58 = .ok (.goto 43, 3) := by decide +kernel
theorem dX6_scan_61 : decode cX6_scan 61 = .ok (.iload_n 2, 1) := by decide +kernel
theorem dX6_scan_62 : decode cX6_scan 62 = .ok (.invokestatic 44, 3) := by decide +kernel
theorem dX6_scan_65 : decode cX6_scan 65 = .ok (.ifCond .eq 11, 3) := by decide +kernel
theorem dX6_scan_68 : decode cX6_scan 68 = .ok (.aload_n 0, 1) := by decide +kernel
theorem dX6_scan_69 : decode cX6_scan 69 = .ok (.aload_n 1, 1) := by decide +kernel
theorem dX6_scan_70 : decode cX6_scan 70 = .ok (.invokevirtual 47, 3) := by decide +kernel
theorem dX6_scan_73 : decode cX6_scan 73 = .ok (.goto 28, 3) := by decide +kernel
theorem dX6_scan_76 : decode cX6_scan 76 = .ok (.aload_n 0, 1) := by decide +kernel
theorem dX6_scan_77 : decode cX6_scan 77 = .ok (.iload_n 2, 1) := by decide +kernel
theorem dX6_scan_78 : decode cX6_scan 78 = .ok (.bipush 59, 2) := by decide +kernel
theorem dX6_scan_80 : decode cX6_scan 80 = .ok (.if_icmp .ne 7, 3) := by decide +kernel
theorem dX6_scan_83 : decode cX6_scan 83 = .ok (.iconst 3, 1) := by decide +kernel
theorem dX6_scan_84 : decode cX6_scan 84 = .ok (.goto 4, 3) := by decide +kernel
theorem dX6_scan_87 : decode cX6_scan 87 = .ok (.iconst 4, 1) := by decide +kernel
theorem dX6_scan_88 : decode cX6_scan 88 = .ok (.putfield 34, 3) := by decide +kernel
theorem dX6_scan_91 : decode cX6_scan 91 = .ok (.aload_n 0, 1) := by decide +kernel
theorem dX6_scan_92 : decode cX6_scan 92 = .ok (.dup, 1) := by decide +kernel
theorem dX6_scan_93 : decode cX6_scan 93 = .ok (.getfield 9, 3) := by decide +kernel
theorem dX6_scan_96 : decode cX6_scan 96 = .ok (.iconst 1, 1) := by decide +kernel
theorem dX6_scan_97 : decode cX6_scan 97 = .ok (.iadd, 1) := by decide +kernel
theorem dX6_scan_98 : decode cX6_scan 98 = .ok (.putfield 9, 3) := by decide +kernel
theorem dX6_scan_101 : decode cX6_scan 101 = .ok (.return_, 1) := by decide +kernel
theorem dX6_skipSpaces_0 : decode cX6_skipSpaces 0 = .ok (.aload_n 0, 1) := by decide +kernel
theorem dX6_skipSpaces_1 : decode cX6_skipSpaces 1 = .ok (.getfield 9, 3) := by decide +kernel
theorem dX6_skipSpaces_4 : decode cX6_skipSpaces 4 = .ok (.aload_n 1, 1) := by decide +kernel
theorem dX6_skipSpaces_5 : decode cX6_skipSpaces 5 = .ok (.getfield 31, 3) := by decide +kernel
theorem dX6_skipSpaces_8 : decode cX6_skipSpaces 8 = .ok (.if_icmp .ge 42, 3) := by decide +kernel
theorem dX6_skipSpaces_11 : decode cX6_skipSpaces 11 = .ok (.aload_n 1, 1) := by decide +kernel
theorem dX6_skipSpaces_12 : decode cX6_skipSpaces 12 = .ok (.aload_n 0, 1) := by decide +kernel
theorem dX6_skipSpaces_13 : decode cX6_skipSpaces 13 = .ok (.getfield 9, 3) := by decide +kernel
theorem dX6_skipSpaces_16 : decode cX6_skipSpaces 16 = .ok (.invokevirtual 25, 3) := by decide +kernel
theorem dX6_skipSpaces_19 : decode cX6_skipSpaces 19 = .ok (.bipush 32, 2) := by decide +kernel
theorem dX6_skipSpaces_21 : decode cX6_skipSpaces 21 = .ok (.if_icmp .eq 16, 3) := by decide +kernel
theorem dX6_skipSpaces_24 : decode cX6_skipSpaces 24 = .ok (.aload_n 1, 1) := by decide +kernel
theorem dX6_skipSpaces_25 : decode cX6_skipSpaces 25 = .ok (.aload_n 0, 1) := by decide +kernel
theorem dX6_skipSpaces_26 : decode cX6_skipSpaces 26 = .ok (.getfield 9, 3) := by decide +kernel
theorem dX6_skipSpaces_29 : decode cX6_skipSpaces 29 = .ok (.invokevirtual 25, 3) := by decide +kernel
theorem dX6_skipSpaces_32 : decode cX6_skipSpaces 32 = .ok (.bipush 10, 2) := by decide +kernel
theorem dX6_skipSpaces_34 : decode cX6_skipSpaces 34 = .ok (.if_icmp .ne 16, 3) := by decide +kernel
theorem dX6_skipSpaces_37 : decode cX6_skipSpaces 37 = .ok (.aload_n 0, 1) := by decide +kernel
theorem dX6_skipSpaces_38 : decode cX6_skipSpaces 38 = .ok (.dup, 1) := by decide +kernel
theorem dX6_skipSpaces_39 : decode cX6_skipSpaces 39 = .ok (.getfield 9, 3) := by decide +kernel
theorem dX6_skipSpaces_42 : decode cX6_skipSpaces 42 = .ok (.iconst 1, 1) := by decide +kernel
theorem dX6_skipSpaces_43 : decode cX6_skipSpaces 43 = .ok (.iadd, 1) := by decide +kernel
theorem dX6_skipSpaces_44 : decode cX6_skipSpaces 44 = .ok (.putfield 9, 3) := by decide +kernel
theorem dX6_skipSpaces_47 : decode cX6_skipSpaces 47 = .ok (.goto (-47), 3) := by decide +kernel
theorem dX6_skipSpaces_50 : decode cX6_skipSpaces 50 = .ok (.return_, 1) := by decide +kernel
theorem dX6_scanWord_0 : decode cX6_scanWord 0 = .ok (.aload_n 0, 1) := by decide +kernel
theorem dX6_scanWord_1 : decode cX6_scanWord 1 = .ok (.lconst 0, 1) := by decide +kernel
theorem dX6_scanWord_2 : decode cX6_scanWord 2 = .ok (.putfield 50, 3) := by decide +kernel
theorem dX6_scanWord_5 : decode cX6_scanWord 5 = .ok (.aload_n 0, 1) := by decide +kernel
theorem dX6_scanWord_6 : decode cX6_scanWord 6 = .ok (.getfield 9, 3) := by decide +kernel
theorem dX6_scanWord_9 : decode cX6_scanWord 9 = .ok (.aload_n 1, 1) := by decide +kernel
theorem dX6_scanWord_10 : decode cX6_scanWord 10 = .ok (.getfield 31, 3) := by decide +kernel
theorem dX6_scanWord_13 : decode cX6_scanWord 13 = .ok (.if_icmp .ge 58, 3) := by decide +kernel
theorem dX6_scanWord_16 : decode cX6_scanWord 16 = .ok (.aload_n 1, 1) := by decide +kernel
theorem dX6_scanWord_17 : decode cX6_scanWord 17 = .ok (.aload_n 0, 1) := by decide +kernel
theorem dX6_scanWord_18 : decode cX6_scanWord 18 = .ok (.getfield 9, 3) := by decide +kernel
theorem dX6_scanWord_21 : decode cX6_scanWord 21 = .ok (.invokevirtual 25, 3) := by decide +kernel
theorem dX6_scanWord_24 : decode cX6_scanWord 24 = .ok (.invokestatic 37, 3) := by decide +kernel
theorem dX6_scanWord_27 : decode cX6_scanWord 27 = .ok (.ifCond .eq 44, 3) := by decide +kernel
theorem dX6_scanWord_30 : decode cX6_scanWord 30 = .ok (.aload_n 0, 1) := by decide +kernel
theorem dX6_scanWord_31 : decode cX6_scanWord 31 = .ok (.aload_n 0, 1) := by decide +kernel
theorem dX6_scanWord_32 : decode cX6_scanWord 32 = .ok (.getfield 50, 3) := by decide +kernel
theorem dX6_scanWord_35 : decode cX6_scanWord 35 = .ok (.aload_n 0, 1) := by decide +kernel
theorem dX6_scanWord_36 : decode cX6_scanWord 36 = .ok (.getfield 9, 3) := by decide +kernel
theorem dX6_scanWord_39 : decode cX6_scanWord 39 = .ok (.aload_n 0, 1) := by decide +kernel
theorem dX6_scanWord_40 : decode cX6_scanWord 40 = .ok (.getfield 19, 3) := by decide +kernel
theorem dX6_scanWord_43 : decode cX6_scanWord 43 = .ok (.isub, 1) := by decide +kernel
theorem dX6_scanWord_44 : decode cX6_scanWord 44 = .ok (.aload_n 1, 1) := by decide +kernel
theorem dX6_scanWord_45 : decode cX6_scanWord 45 = .ok (.aload_n 0, 1) := by decide +kernel
theorem dX6_scanWord_46 : decode cX6_scanWord 46 = .ok (.getfield 9, 3) := by decide +kernel
theorem dX6_scanWord_49 : decode cX6_scanWord 49 = .ok (.invokevirtual 25, 3) := by decide +kernel
theorem dX6_scanWord_52 : decode cX6_scanWord 52 = .ok (.invokestatic 54, 3) := by decide +kernel
theorem dX6_scanWord_55 : decode cX6_scanWord 55 = .ok (.putfield 50, 3) := by decide +kernel
theorem dX6_scanWord_58 : decode cX6_scanWord 58 = .ok (.aload_n 0, 1) := by decide +kernel
theorem dX6_scanWord_59 : decode cX6_scanWord 59 = .ok (.dup, 1) := by decide +kernel
theorem dX6_scanWord_60 : decode cX6_scanWord 60 = .ok (.getfield 9, 3) := by decide +kernel
theorem dX6_scanWord_63 : decode cX6_scanWord 63 = .ok (.iconst 1, 1) := by decide +kernel
theorem dX6_scanWord_64 : decode cX6_scanWord 64 = .ok (.iadd, 1) := by decide +kernel
theorem dX6_scanWord_65 : decode cX6_scanWord 65 = .ok (.putfield 9, 3) := by decide +kernel
theorem dX6_scanWord_68 : decode cX6_scanWord 68 = .ok (.goto (-63), 3) := by decide +kernel
theorem dX6_scanWord_71 : decode cX6_scanWord 71 = .ok (.aload_n 0, 1) := by decide +kernel
theorem dX6_scanWord_72 : decode cX6_scanWord 72 = .ok (.aload_n 0, 1) := by decide +kernel
theorem dX6_scanWord_73 : decode cX6_scanWord 73 = .ok (.getfield 9, 3) := by decide +kernel
theorem dX6_scanWord_76 : decode cX6_scanWord 76 = .ok (.aload_n 0, 1) := by decide +kernel
theorem dX6_scanWord_77 : decode cX6_scanWord 77 = .ok (.getfield 19, 3) := by decide +kernel
theorem dX6_scanWord_80 : decode cX6_scanWord 80 = .ok (.isub, 1) := by decide +kernel
theorem dX6_scanWord_81 : decode cX6_scanWord 81 = .ok (.bipush 8, 2) := by decide +kernel
theorem dX6_scanWord_83 : decode cX6_scanWord 83 = .ok (.if_icmp .gt 7, 3) := by decide +kernel
theorem dX6_scanWord_86 : decode cX6_scanWord 86 = .ok (.iconst 1, 1) := by decide +kernel
theorem dX6_scanWord_87 : decode cX6_scanWord 87 = .ok (.goto 4, 3) := by decide +kernel
theorem dX6_scanWord_90 : decode cX6_scanWord 90 = .ok (.iconst 4, 1) := by decide +kernel
theorem dX6_scanWord_91 : decode cX6_scanWord 91 = .ok (.putfield 34, 3) := by decide +kernel
theorem dX6_scanWord_94 : decode cX6_scanWord 94 = .ok (.aload_n 0, 1) := by decide +kernel
theorem dX6_scanWord_95 : decode cX6_scanWord 95 = .ok (.getfield 34, 3) := by decide +kernel
theorem dX6_scanWord_98 : decode cX6_scanWord 98 = .ok (.iconst 1, 1) := by decide +kernel
theorem dX6_scanWord_99 : decode cX6_scanWord 99 = .ok (.if_icmp .ne 14, 3) := by decide +kernel
theorem dX6_scanWord_102 : decode cX6_scanWord 102 = .ok (.aload_n 0, 1) := by decide +kernel
theorem dX6_scanWord_103 : decode cX6_scanWord 103 = .ok (.aload_n 0, 1) := by decide +kernel
theorem dX6_scanWord_104 : decode cX6_scanWord 104 = .ok (.getfield 50, 3) := by decide +kernel
theorem dX6_scanWord_107 : decode cX6_scanWord 107 = .ok (.invokestatic 58, 3) := by decide +kernel
theorem dX6_scanWord_110 : decode cX6_scanWord 110 = .ok (.putfield 22, 3) := by decide +kernel
theorem dX6_scanWord_113 : decode cX6_scanWord 113 = .ok (.return_, 1) := by decide +kernel
theorem dX6_scanNumber_0 : decode cX6_scanNumber 0 = .ok (.aload_n 0, 1) := by decide +kernel
theorem dX6_scanNumber_1 : decode cX6_scanNumber 1 = .ok (.iconst 0, 1) := by decide +kernel
theorem dX6_scanNumber_2 : decode cX6_scanNumber 2 = .ok (.putfield 62, 3) := by decide +kernel
theorem dX6_scanNumber_5 : decode cX6_scanNumber 5 = .ok (.aload_n 0, 1) := by decide +kernel
theorem dX6_scanNumber_6 : decode cX6_scanNumber 6 = .ok (.getfield 9, 3) := by decide +kernel
theorem dX6_scanNumber_9 : decode cX6_scanNumber 9 = .ok (.aload_n 1, 1) := by decide +kernel
theorem dX6_scanNumber_10 : decode cX6_scanNumber 10 = .ok (.getfield 31, 3) := by decide +kernel
theorem dX6_scanNumber_13 : decode cX6_scanNumber 13 = .ok (.if_icmp .ge 53, 3) := by decide +kernel
theorem dX6_scanNumber_16 : decode cX6_scanNumber 16 = .ok (.aload_n 1, 1) := by decide +kernel
theorem dX6_scanNumber_17 : decode cX6_scanNumber 17 = .ok (.aload_n 0, 1) := by decide +kernel
theorem dX6_scanNumber_18 : decode cX6_scanNumber 18 = .ok (.getfield 9, 3) := by decide +kernel
theorem dX6_scanNumber_21 : decode cX6_scanNumber 21 = .ok (.invokevirtual 25, 3) := by decide +kernel
theorem dX6_scanNumber_24 : decode cX6_scanNumber 24 = .ok (.invokestatic 44, 3) := by decide +kernel
theorem dX6_scanNumber_27 : decode cX6_scanNumber 27 = .ok (.ifCond .eq 39, 3) := by decide +kernel
theorem dX6_scanNumber_30 : decode cX6_scanNumber 30 = .ok (.aload_n 0, 1) := by decide +kernel
theorem dX6_scanNumber_31 : decode cX6_scanNumber 31 = .ok (.aload_n 0, 1) := by decide +kernel
theorem dX6_scanNumber_32 : decode cX6_scanNumber 32 = .ok (.getfield 62, 3) := by decide +kernel
theorem dX6_scanNumber_35 : decode cX6_scanNumber 35 = .ok (.bipush 10, 2) := by decide +kernel
theorem dX6_scanNumber_37 : decode cX6_scanNumber 37 = .ok (.imul, 1) := by decide +kernel
theorem dX6_scanNumber_38 : decode cX6_scanNumber 38 = .ok (.aload_n 1, 1) := by decide +kernel
theorem dX6_scanNumber_39 : decode cX6_scanNumber 39 = .ok (.aload_n 0, 1) := by decide +kernel
theorem dX6_scanNumber_40 : decode cX6_scanNumber 40 = .ok (.getfield 9, 3) := by decide +kernel
theorem dX6_scanNumber_43 : decode cX6_scanNumber 43 = .ok (.invokevirtual 25, 3) := by decide +kernel
theorem dX6_scanNumber_46 : decode cX6_scanNumber 46 = .ok (.bipush 48, 2) := by decide +kernel
theorem dX6_scanNumber_48 : decode cX6_scanNumber 48 = .ok (.isub, 1) := by decide +kernel
theorem dX6_scanNumber_49 : decode cX6_scanNumber 49 = .ok (.iadd, 1) := by decide +kernel
theorem dX6_scanNumber_50 : decode cX6_scanNumber 50 = .ok (.putfield 62, 3) := by decide +kernel
theorem dX6_scanNumber_53 : decode cX6_scanNumber 53 = .ok (.aload_n 0, 1) := by decide +kernel
theorem dX6_scanNumber_54 : decode cX6_scanNumber 54 = .ok (.dup, 1) := by decide +kernel
theorem dX6_scanNumber_55 : decode cX6_scanNumber 55 = .ok (.getfield 9, 3) := by decide +kernel
theorem dX6_scanNumber_58 : decode cX6_scanNumber 58 = .ok (.iconst 1, 1) := by decide +kernel
theorem dX6_scanNumber_59 : decode cX6_scanNumber 59 = .ok (.iadd, 1) := by decide +kernel
theorem dX6_scanNumber_60 : decode cX6_scanNumber 60 = .ok (.putfield 9, 3) := by decide +kernel
theorem dX6_scanNumber_63 : decode cX6_scanNumber 63 = .ok (.goto (-58), 3) := by decide +kernel
theorem dX6_scanNumber_66 : decode cX6_scanNumber 66 = .ok (.aload_n 0, 1) := by decide +kernel
theorem dX6_scanNumber_67 : decode cX6_scanNumber 67 = .ok (.aload_n 0, 1) := by decide +kernel
theorem dX6_scanNumber_68 : decode cX6_scanNumber 68 = .ok (.getfield 9, 3) := by decide +kernel
theorem dX6_scanNumber_71 : decode cX6_scanNumber 71 = .ok (.aload_n 0, 1) := by decide +kernel
theorem dX6_scanNumber_72 : decode cX6_scanNumber 72 = .ok (.getfield 19, 3) := by decide +kernel
theorem dX6_scanNumber_75 : decode cX6_scanNumber 75 = .ok (.isub, 1) := by decide +kernel
theorem dX6_scanNumber_76 : decode cX6_scanNumber 76 = .ok (.iconst 4, 1) := by decide +kernel
theorem dX6_scanNumber_77 : decode cX6_scanNumber 77 = .ok (.if_icmp .gt 7, 3) := by decide +kernel
theorem dX6_scanNumber_80 : decode cX6_scanNumber 80 = .ok (.iconst 2, 1) := by decide +kernel
theorem dX6_scanNumber_81 : decode cX6_scanNumber 81 = .ok (.goto 4, 3) := by decide +kernel
theorem dX6_scanNumber_84 : decode cX6_scanNumber 84 = .ok (.iconst 4, 1) := by decide +kernel
theorem dX6_scanNumber_85 : decode cX6_scanNumber 85 = .ok (.putfield 34, 3) := by decide +kernel
theorem dX6_scanNumber_88 : decode cX6_scanNumber 88 = .ok (.return_, 1) := by decide +kernel
theorem dX6_isLetter_0 : decode cX6_isLetter 0 = .ok (.iload_n 0, 1) := by decide +kernel
theorem dX6_isLetter_1 : decode cX6_isLetter 1 = .ok (.bipush 97, 2) := by decide +kernel
theorem dX6_isLetter_3 : decode cX6_isLetter 3 = .ok (.if_icmp .lt 13, 3) := by decide +kernel
theorem dX6_isLetter_6 : decode cX6_isLetter 6 = .ok (.iload_n 0, 1) := by decide +kernel
theorem dX6_isLetter_7 : decode cX6_isLetter 7 = .ok (.bipush 122, 2) := by decide +kernel
theorem dX6_isLetter_9 : decode cX6_isLetter 9 = .ok (.if_icmp .gt 7, 3) := by decide +kernel
theorem dX6_isLetter_12 : decode cX6_isLetter 12 = .ok (.iconst 1, 1) := by decide +kernel
theorem dX6_isLetter_13 : decode cX6_isLetter 13 = .ok (.goto 4, 3) := by decide +kernel
theorem dX6_isLetter_16 : decode cX6_isLetter 16 = .ok (.iconst 0, 1) := by decide +kernel
theorem dX6_isLetter_17 : decode cX6_isLetter 17 = .ok (.ireturn, 1) := by decide +kernel
theorem dX6_isDigit_0 : decode cX6_isDigit 0 = .ok (.iload_n 0, 1) := by decide +kernel
theorem dX6_isDigit_1 : decode cX6_isDigit 1 = .ok (.bipush 48, 2) := by decide +kernel
theorem dX6_isDigit_3 : decode cX6_isDigit 3 = .ok (.if_icmp .lt 13, 3) := by decide +kernel
theorem dX6_isDigit_6 : decode cX6_isDigit 6 = .ok (.iload_n 0, 1) := by decide +kernel
theorem dX6_isDigit_7 : decode cX6_isDigit 7 = .ok (.bipush 57, 2) := by decide +kernel
theorem dX6_isDigit_9 : decode cX6_isDigit 9 = .ok (.if_icmp .gt 7, 3) := by decide +kernel
theorem dX6_isDigit_12 : decode cX6_isDigit 12 = .ok (.iconst 1, 1) := by decide +kernel
theorem dX6_isDigit_13 : decode cX6_isDigit 13 = .ok (.goto 4, 3) := by decide +kernel
theorem dX6_isDigit_16 : decode cX6_isDigit 16 = .ok (.iconst 0, 1) := by decide +kernel
theorem dX6_isDigit_17 : decode cX6_isDigit 17 = .ok (.ireturn, 1) := by decide +kernel
theorem dX7_init_0 : decode cX7_init 0 = .ok (.aload_n 0, 1) := by decide +kernel
theorem dX7_init_1 : decode cX7_init 1 = .ok (.invokespecial 3, 3) := by decide +kernel
theorem dX7_init_4 : decode cX7_init 4 = .ok (.aload_n 0, 1) := by decide +kernel
theorem dX7_init_5 : decode cX7_init 5 = .ok (.bipush 12, 2) := by decide +kernel
theorem dX7_init_7 : decode cX7_init 7 = .ok (.newarray .long, 2) := by decide +kernel
theorem dX7_init_9 : decode cX7_init 9 = .ok (.putfield 9, 3) := by decide +kernel
theorem dX7_init_12 : decode cX7_init 12 = .ok (.aload_n 0, 1) := by decide +kernel
theorem dX7_init_13 : decode cX7_init 13 = .ok (.bipush 12, 2) := by decide +kernel
theorem dX7_init_15 : decode cX7_init 15 = .ok (.newarray .int, 2) := by decide +kernel
theorem dX7_init_17 : decode cX7_init 17 = .ok (.putfield 15, 3) := by decide +kernel
theorem dX7_init_20 : decode cX7_init 20 = .ok (.aload_n 0, 1) := by decide +kernel
theorem dX7_init_21 : decode cX7_init 21 = .ok (.bipush 12, 2) := by decide +kernel
theorem dX7_init_23 : decode cX7_init 23 = .ok (.newarray .int, 2) := by decide +kernel
theorem dX7_init_25 : decode cX7_init 25 = .ok (.putfield 19, 3) := by decide +kernel
theorem dX7_init_28 : decode cX7_init 28 = .ok (.aload_n 0, 1) := by decide +kernel
theorem dX7_init_29 : decode cX7_init 29 = .ok (.bipush 12, 2) := by decide +kernel
theorem dX7_init_31 : decode cX7_init 31 = .ok (.newarray .int, 2) := by decide +kernel
theorem dX7_init_33 : decode cX7_init 33 = .ok (.putfield 22, 3) := by decide +kernel
theorem dX7_init_36 : decode cX7_init 36 = .ok (.aload_n 0, 1) := by decide +kernel
theorem dX7_init_37 : decode cX7_init 37 = .ok (.bipush 12, 2) := by decide +kernel
theorem dX7_init_39 : decode cX7_init 39 = .ok (.newarray .int, 2) := by decide +kernel
theorem dX7_init_41 : decode cX7_init 41 = .ok (.putfield 25, 3) := by decide +kernel
theorem dX7_init_44 : decode cX7_init 44 = .ok (.aload_n 0, 1) := by decide +kernel
theorem dX7_init_45 : decode cX7_init 45 = .ok (.bipush 12, 2) := by decide +kernel
theorem dX7_init_47 : decode cX7_init 47 = .ok (.newarray .int, 2) := by decide +kernel
theorem dX7_init_49 : decode cX7_init 49 = .ok (.putfield 28, 3) := by decide +kernel
theorem dX7_init_52 : decode cX7_init 52 = .ok (.aload_n 0, 1) := by decide +kernel
theorem dX7_init_53 : decode cX7_init 53 = .ok (.bipush 12, 2) := by decide +kernel
theorem dX7_init_55 : decode cX7_init 55 = .ok (.newarray .int, 2) := by decide +kernel
theorem dX7_init_57 : decode cX7_init 57 = .ok (.putfield 31, 3) := by decide +kernel
theorem dX7_init_60 : decode cX7_init 60 = .ok (.aload_n 0, 1) := by decide +kernel
theorem dX7_init_61 : decode cX7_init 61 = .ok (.bipush 12, 2) := by decide +kernel
theorem dX7_init_63 : decode cX7_init 63 = .ok (.newarray .int, 2) := by decide +kernel
theorem dX7_init_65 : decode cX7_init 65 = .ok (.putfield 34, 3) := by decide +kernel
theorem dX7_init_68 : decode cX7_init 68 = .ok (.aload_n 0, 1) := by decide +kernel
theorem dX7_init_69 : decode cX7_init 69 = .ok (.bipush 12, 2) := by decide +kernel
theorem dX7_init_71 : decode cX7_init 71 = .ok (.newarray .int, 2) := by decide +kernel
theorem dX7_init_73 : decode cX7_init 73 = .ok (.putfield 37, 3) := by decide +kernel
theorem dX7_init_76 : decode cX7_init 76 = .ok (.aload_n 0, 1) := by decide +kernel
theorem dX7_init_77 : decode cX7_init 77 = .ok (.bipush 12, 2) := by decide +kernel
theorem dX7_init_79 : decode cX7_init 79 = .ok (.newarray .int, 2) := by decide +kernel
theorem dX7_init_81 : decode cX7_init 81 = .ok (.putfield 40, 3) := by decide +kernel
theorem dX7_init_84 : decode cX7_init 84 = .ok (.aload_n 0, 1) := by decide +kernel
theorem dX7_init_85 : decode cX7_init 85 = .ok (.bipush 12, 2) := by decide +kernel
theorem dX7_init_87 : decode cX7_init 87 = .ok (.newarray .boolean, 2) := by decide +kernel
theorem dX7_init_89 : decode cX7_init 89 = .ok (.putfield 43, 3) := by decide +kernel
theorem dX7_init_92 : decode cX7_init 92 = .ok (.aload_n 0, 1) := by decide +kernel
theorem dX7_init_93 : decode cX7_init 93 = .ok (.new 47, 3) := by decide +kernel
theorem dX7_init_96 : decode cX7_init 96 = .ok (.dup, 1) := by decide +kernel
theorem dX7_init_97 : decode cX7_init 97 = .ok (.invokespecial 49, 3) := by decide +kernel
theorem dX7_init_100 : decode cX7_init 100 = .ok (.putfield 50, 3) := by decide +kernel
theorem dX7_init_103 : decode cX7_init 103 = .ok (.aload_n 0, 1) := by decide +kernel
theorem dX7_init_104 : decode cX7_init 104 = .ok (.bipush 10, 2) := by decide +kernel
theorem dX7_init_106 : decode cX7_init 106 = .ok (.putfield 54, 3) := by decide +kernel
theorem dX7_init_109 : decode cX7_init 109 = .ok (.aload_n 0, 1) := by decide +kernel
theorem dX7_init_110 : decode cX7_init 110 = .ok (.iconst (-1), 1) := by decide +kernel
theorem dX7_init_111 : decode cX7_init 111 = .ok (.putfield 58, 3) := by decide +kernel
theorem dX7_init_114 : decode cX7_init 114 = .ok (.return_, 1) := by decide +kernel
theorem dX7_clear_0 : decode cX7_clear 0 = .ok (.aload_n 0, 1) := by decide +kernel
theorem dX7_clear_1 : decode cX7_clear 1 = .ok (.iconst 0, 1) := by decide +kernel
theorem dX7_clear_2 : decode cX7_clear 2 = .ok (.putfield 61, 3) := by decide +kernel
theorem dX7_clear_5 : decode cX7_clear 5 = .ok (.aload_n 0, 1) := by decide +kernel
theorem dX7_clear_6 : decode cX7_clear 6 = .ok (.getfield 50, 3) := by decide +kernel
theorem dX7_clear_9 : decode cX7_clear 9 = .ok (.iconst 0, 1) := by decide +kernel
theorem dX7_clear_10 : decode cX7_clear 10 = .ok (.putfield 64, 3) := by decide +kernel
theorem dX7_clear_13 : decode cX7_clear 13 = .ok (.aload_n 0, 1) := by decide +kernel
theorem dX7_clear_14 : decode cX7_clear 14 = .ok (.bipush 10, 2) := by decide +kernel
theorem dX7_clear_16 : decode cX7_clear 16 = .ok (.putfield 54, 3) := by decide +kernel
theorem dX7_clear_19 : decode cX7_clear 19 = .ok (.aload_n 0, 1) := by decide +kernel
theorem dX7_clear_20 : decode cX7_clear 20 = .ok (.iconst (-1), 1) := by decide +kernel
theorem dX7_clear_21 : decode cX7_clear 21 = .ok (.putfield 58, 3) := by decide +kernel
theorem dX7_clear_24 : decode cX7_clear 24 = .ok (.return_, 1) := by decide +kernel
theorem dX7_hasNode_0 : decode cX7_hasNode 0 = .ok (.iload_n 1, 1) := by decide +kernel
theorem dX7_hasNode_1 : decode cX7_hasNode 1 = .ok (.ifCond .lt 21, 3) := by decide +kernel
theorem dX7_hasNode_4 : decode cX7_hasNode 4 = .ok (.iload_n 1, 1) := by decide +kernel
theorem dX7_hasNode_5 : decode cX7_hasNode 5 = .ok (.aload_n 0, 1) := by decide +kernel
theorem dX7_hasNode_6 : decode cX7_hasNode 6 = .ok (.getfield 61, 3) := by decide +kernel
theorem dX7_hasNode_9 : decode cX7_hasNode 9 = .ok (.if_icmp .ge 13, 3) := by decide +kernel
theorem dX7_hasNode_12 : decode cX7_hasNode 12 = .ok (.iload_n 1, 1) := by decide +kernel
theorem dX7_hasNode_13 : decode cX7_hasNode 13 = .ok (.bipush 12, 2) := by decide +kernel
theorem dX7_hasNode_15 : decode cX7_hasNode 15 = .ok (.if_icmp .ge 7, 3) := by decide +kernel
theorem dX7_hasNode_18 : decode cX7_hasNode 18 = .ok (.iconst 1, 1) := by decide +kernel
theorem dX7_hasNode_19 : decode cX7_hasNode 19 = .ok (.goto 4, 3) := by decide +kernel
theorem dX7_hasNode_22 : decode cX7_hasNode 22 = .ok (.iconst 0, 1) := by decide +kernel
theorem dX7_hasNode_23 : decode cX7_hasNode 23 = .ok (.ireturn, 1) := by decide +kernel
theorem dX7_hasLeaf_0 : decode cX7_hasLeaf 0 = .ok (.aload_n 0, 1) := by decide +kernel
theorem dX7_hasLeaf_1 : decode cX7_hasLeaf 1 = .ok (.iload_n 1, 1) := by decide +kernel
theorem dX7_hasLeaf_2 : decode cX7_hasLeaf 2 = .ok (.invokevirtual 67, 3) := by decide +kernel
theorem dX7_hasLeaf_5 : decode cX7_hasLeaf 5 = .ok (.ifCond .eq 16, 3) := by decide +kernel
theorem dX7_hasLeaf_8 : decode cX7_hasLeaf 8 = .ok (.aload_n 0, 1) := by decide +kernel
theorem dX7_hasLeaf_9 : decode cX7_hasLeaf 9 = .ok (.getfield 22, 3) := by decide +kernel
theorem dX7_hasLeaf_12 : decode cX7_hasLeaf 12 = .ok (.iload_n 1, 1) := by decide +kernel
theorem dX7_hasLeaf_13 : decode cX7_hasLeaf 13 = .ok (.iaload, 1) := by decide +kernel
theorem dX7_hasLeaf_14 : decode cX7_hasLeaf 14 = .ok (.ifCond .ne 7, 3) := by decide +kernel
theorem dX7_hasLeaf_17 : decode cX7_hasLeaf 17 = .ok (.iconst 1, 1) := by decide +kernel
theorem dX7_hasLeaf_18 : decode cX7_hasLeaf 18 = .ok (.goto 4, 3) := by decide +kernel
theorem dX7_hasLeaf_21 : decode cX7_hasLeaf 21 = .ok (.iconst 0, 1) := by decide +kernel
theorem dX7_hasLeaf_22 : decode cX7_hasLeaf 22 = .ok (.ireturn, 1) := by decide +kernel
theorem dX7_findNode_0 : decode cX7_findNode 0 = .ok (.iconst 0, 1) := by decide +kernel
theorem dX7_findNode_1 : decode cX7_findNode 1 = .ok (.istore_n 3, 1) := by decide +kernel
theorem dX7_findNode_2 : decode cX7_findNode 2 = .ok (.iload_n 3, 1) := by decide +kernel
theorem dX7_findNode_3 : decode cX7_findNode 3 = .ok (.aload_n 0, 1) := by decide +kernel
theorem dX7_findNode_4 : decode cX7_findNode 4 = .ok (.getfield 61, 3) := by decide +kernel
theorem dX7_findNode_7 : decode cX7_findNode 7 = .ok (.if_icmp .ge 22, 3) := by decide +kernel
theorem dX7_findNode_10 : decode cX7_findNode 10 = .ok (.aload_n 0, 1) := by decide +kernel
theorem dX7_findNode_11 : decode cX7_findNode 11 = .ok (.getfield 9, 3) := by decide +kernel
theorem dX7_findNode_14 : decode cX7_findNode 14 = .ok (.iload_n 3, 1) := by decide +kernel
theorem dX7_findNode_15 : decode cX7_findNode 15 = .ok (.laload, 1) := by decide +kernel
theorem dX7_findNode_16 : decode cX7_findNode 16 = .ok (.lload_n 1, 1) := by decide +kernel
theorem dX7_findNode_17 : decode cX7_findNode 17 = .ok (.lcmp, 1) := by decide +kernel
theorem dX7_findNode_18 : decode cX7_findNode 18 = .ok (.ifCond .ne 5, 3) := by decide +kernel
theorem dX7_findNode_21 : decode cX7_findNode 21 = .ok (.iload_n 3, 1) := by decide +kernel
theorem dX7_findNode_22 : decode cX7_findNode 22 = .ok (.ireturn, 1) := by decide +kernel
theorem dX7_findNode_23 : decode cX7_findNode 23 = .ok (.iinc 3 1, 3) := by decide +kernel
theorem dX7_findNode_26 : decode cX7_findNode 26 = .ok (.goto (-24), 3) := by decide +kernel
theorem dX7_findNode_29 : decode cX7_findNode 29 = .ok (.bipush (-2), 2) := by decide +kernel
theorem dX7_findNode_31 : decode cX7_findNode 31 = .ok (.ireturn, 1) := by decide +kernel
theorem dX7_addNode_0 : decode cX7_addNode 0 = .ok (.aload_n 0, 1) := by decide +kernel
theorem dX7_addNode_1 : decode cX7_addNode 1 = .ok (.getfield 61, 3) := by decide +kernel
theorem dX7_addNode_4 : decode cX7_addNode 4 = .ok (.bipush 12, 2) := by decide +kernel
theorem dX7_addNode_6 : decode cX7_addNode 6 = .ok (.if_icmp .lt 4, 3) := by decide +kernel
theorem dX7_addNode_9 : decode cX7_addNode 9 = .ok (.return_, 1) := by decide +kernel
theorem dX7_addNode_10 : decode cX7_addNode 10 = .ok (.aload_n 0, 1) := by decide +kernel
theorem dX7_addNode_11 : decode cX7_addNode 11 = .ok (.getfield 61, 3) := by decide +kernel
theorem dX7_addNode_14 : decode cX7_addNode 14 = .ok (.istore 4, 2) := by decide +kernel
theorem dX7_addNode_16 : decode cX7_addNode 16 = .ok (.aload_n 0, 1) := by decide +kernel
theorem dX7_addNode_17 : decode cX7_addNode 17 = .ok (.dup, 1) := by decide +kernel
theorem dX7_addNode_18 : decode cX7_addNode 18 = .ok (.getfield 61, 3) := by decide +kernel
theorem dX7_addNode_21 : decode cX7_addNode 21 = .ok (.iconst 1, 1) := by decide +kernel
theorem dX7_addNode_22 : decode cX7_addNode 22 = .ok (.iadd, 1) := by decide +kernel
theorem dX7_addNode_23 : decode cX7_addNode 23 = .ok (.putfield 61, 3) := by decide +kernel
theorem dX7_addNode_26 : decode cX7_addNode 26 = .ok (.aload_n 0, 1) := by decide +kernel
theorem dX7_addNode_27 : decode cX7_addNode 27 = .ok (.getfield 9, 3) := by decide +kernel
theorem dX7_addNode_30 : decode cX7_addNode 30 = .ok (.iload 4, 2) := by decide +kernel
theorem dX7_addNode_32 : decode cX7_addNode 32 = .ok (.lload_n 1, 1) := by decide +kernel
theorem dX7_addNode_33 : decode cX7_addNode 33 = .ok (.lastore, 1) := by decide +kernel
theorem dX7_addNode_34 : decode cX7_addNode 34 = .ok (.aload_n 0, 1) := by decide +kernel
theorem dX7_addNode_35 : decode cX7_addNode 35 = .ok (.getfield 15, 3) := by decide +kernel
theorem dX7_addNode_38 : decode cX7_addNode 38 = .ok (.iload 4, 2) := by decide +kernel
theorem dX7_addNode_40 : decode cX7_addNode 40 = .ok (.iload_n 3, 1) := by decide +kernel
theorem dX7_addNode_41 : decode cX7_addNode 41 = .ok (.iastore, 1) := by decide +kernel
theorem dX7_addNode_42 : decode cX7_addNode 42 = .ok (.aload_n 0, 1) := by decide +kernel
theorem dX7_addNode_43 : decode cX7_addNode 43 = .ok (.getfield 19, 3) := by decide +kernel
theorem dX7_addNode_46 : decode cX7_addNode 46 = .ok (.iload 4, 2) := by decide +kernel
theorem dX7_addNode_48 : decode cX7_addNode 48 = .ok (.iconst 0, 1) := by decide +kernel
theorem dX7_addNode_49 : decode cX7_addNode 49 = .ok (.iastore, 1) := by decide +kernel
theorem dX7_addNode_50 : decode cX7_addNode 50 = .ok (.aload_n 0, 1) := by decide +kernel
theorem dX7_addNode_51 : decode cX7_addNode 51 = .ok (.getfield 22, 3) := by decide +kernel
theorem dX7_addNode_54 : decode cX7_addNode 54 = .ok (.iload 4, 2) := by decide +kernel
theorem dX7_addNode_56 : decode cX7_addNode 56 = .ok (.iconst 0, 1) := by decide +kernel
theorem dX7_addNode_57 : decode cX7_addNode 57 = .ok (.iastore, 1) := by decide +kernel
theorem dX7_addNode_58 : decode cX7_addNode 58 = .ok (.aload_n 0, 1) := by decide +kernel
theorem dX7_addNode_59 : decode cX7_addNode 59 = .ok (.getfield 43, 3) := by decide +kernel
theorem dX7_addNode_62 : decode cX7_addNode 62 = .ok (.iload 4, 2) := by decide +kernel
theorem dX7_addNode_64 : decode cX7_addNode 64 = .ok (.iconst 0, 1) := by decide +kernel
theorem dX7_addNode_65 : decode cX7_addNode 65 = .ok (.bastore, 1) := by decide +kernel
theorem dX7_addNode_66 : decode cX7_addNode 66 = .ok (.iconst 0, 1) := by decide +kernel
theorem dX7_addNode_67 : decode cX7_addNode 67 = .ok (.istore 5, 2) := by decide +kernel
theorem dX7_addNode_69 : decode cX7_addNode 69 = .ok (.iload 5, 2) := by decide +kernel
theorem dX7_addNode_71 : decode cX7_addNode 71 = .ok (.bipush 6, 2) := by decide +kernel
theorem dX7_addNode_73 : decode cX7_addNode 73 = .ok (.if_icmp .ge 24, 3) := by decide +kernel
theorem dX7_addNode_76 : decode cX7_addNode 76 = .ok (.aload_n 0, 1) := by decide +kernel
theorem dX7_addNode_77 : decode cX7_addNode 77 = .ok (.iload 5, 2) := by decide +kernel
theorem dX7_addNode_79 : decode cX7_addNode 79 = .ok (.invokevirtual 71, 3) := by decide +kernel
theorem dX7_addNode_82 : decode cX7_addNode 82 = .ok (.iload 4, 2) := by decide +kernel
theorem dX7_addNode_84 : decode cX7_addNode 84 = .ok (.getstatic 75, 3) := by decide +kernel
theorem dX7_addNode_87 : decode cX7_addNode 87 = .ok (.iload 5, 2) := by decide +kernel
theorem dX7_addNode_89 : decode cX7_addNode 89 = .ok (.iaload, 1) := by decide +kernel
theorem dX7_addNode_90 : decode cX7_addNode 90 = .ok (.iastore, 1) := by decide +kernel
theorem dX7_addNode_91 : decode cX7_addNode 91 = .ok (.iinc 5 1, 3) := by decide +kernel
theorem dX7_addNode_94 : decode cX7_addNode 94 = .ok (.goto (-25), 3) := by decide +kernel
theorem dX7_addNode_97 : decode cX7_addNode 97 = .ok (.iload_n 3, 1) := by decide +kernel
theorem dX7_addNode_98 : decode cX7_addNode 98 = .ok (.ifCond .lt 34, 3) := by decide +kernel
theorem dX7_addNode_101 : decode cX7_addNode 101 = .ok (.iload_n 3, 1) := by decide +kernel
theorem dX7_addNode_102 : decode cX7_addNode 102 = .ok (.iload 4, 2) := by decide +kernel
theorem dX7_addNode_104 : decode cX7_addNode 104 = .ok (.if_icmp .ge 28, 3) := by decide +kernel
theorem dX7_addNode_107 : decode cX7_addNode 107 = .ok (.aload_n 0, 1) := by decide +kernel
theorem dX7_addNode_108 : decode cX7_addNode 108 = .ok (.getfield 19, 3) := by decide +kernel
theorem dX7_addNode_111 : decode cX7_addNode 111 = .ok (.iload 4, 2) := by decide +kernel
theorem dX7_addNode_113 : decode cX7_addNode 113 = .ok (.aload_n 0, 1) := by decide +kernel
theorem dX7_addNode_114 : decode cX7_addNode 114 = .ok (.getfield 19, 3) := by decide +kernel
theorem dX7_addNode_117 : decode cX7_addNode 117 = .ok (.iload_n 3, 1) := by decide +kernel
theorem dX7_addNode_118 : decode cX7_addNode 118 = .ok (.iaload, 1) := by decide +kernel
theorem dX7_addNode_119 : decode cX7_addNode 119 = .ok (.iconst 1, 1) := by decide +kernel
theorem dX7_addNode_120 : decode cX7_addNode 120 = .ok (.iadd, 1) := by decide +kernel
theorem dX7_addNode_121 : decode cX7_addNode 121 = .ok (.iastore, 1) := by decide +kernel
theorem dX7_addNode_122 : decode cX7_addNode 122 = .ok (.aload_n 0, 1) := by decide +kernel
theorem dX7_addNode_123 : decode cX7_addNode 123 = .ok (.getfield 22, 3) := by decide +kernel
theorem dX7_addNode_126 : decode cX7_addNode 126 = .ok (.iload_n 3, 1) := by decide +kernel
theorem dX7_addNode_127 : decode cX7_addNode 127 = .ok (.dup2, 1) := by decide +kernel
theorem dX7_addNode_128 : decode cX7_addNode 128 = .ok (.iaload, 1) := by decide +kernel
theorem dX7_addNode_129 : decode cX7_addNode 129 = .ok (.iconst 1, 1) := by decide +kernel
theorem dX7_addNode_130 : decode cX7_addNode 130 = .ok (.iadd, 1) := by decide +kernel
theorem dX7_addNode_131 : decode cX7_addNode 131 = .ok (.iastore, 1) := by decide +kernel
theorem dX7_addNode_132 : decode cX7_addNode 132 = .ok (.return_, 1) := by decide +kernel
theorem dX7_row_0 : decode cX7_row 0 = .ok (.iload_n 1, 1) := by decide +kernel
theorem dX7_row_1 : decode cX7_row 1 = .ok (.tableswitch 60 0 4 #[35, 40, 45, 50, 55], 35) := by decide +kernel
theorem dX7_row_36 : decode cX7_row 36 = .ok (.aload_n 0, 1) := by decide +kernel
theorem dX7_row_37 : decode cX7_row 37 = .ok (.getfield 25, 3) := by decide +kernel
theorem dX7_row_40 : decode cX7_row 40 = .ok (.areturn, 1) := by decide +kernel
theorem dX7_row_41 : decode cX7_row 41 = .ok (.aload_n 0, 1) := by decide +kernel
theorem dX7_row_42 : decode cX7_row 42 = .ok (.getfield 28, 3) := by decide +kernel
theorem dX7_row_45 : decode cX7_row 45 = .ok (.areturn, 1) := by decide +kernel
theorem dX7_row_46 : decode cX7_row 46 = .ok (.aload_n 0, 1) := by decide +kernel
theorem dX7_row_47 : decode cX7_row 47 = .ok (.getfield 31, 3) := by decide +kernel
theorem dX7_row_50 : decode cX7_row 50 = .ok (.areturn, 1) := by decide +kernel
theorem dX7_row_51 : decode cX7_row 51 = .ok (.aload_n 0, 1) := by decide +kernel
theorem dX7_row_52 : decode cX7_row 52 = .ok (.getfield 34, 3) := by decide +kernel
theorem dX7_row_55 : decode cX7_row 55 = .ok (.areturn, 1) := by decide +kernel
theorem dX7_row_56 : decode cX7_row 56 = .ok (.aload_n 0, 1) := by decide +kernel
theorem dX7_row_57 : decode cX7_row 57 = .ok (.getfield 37, 3) := by decide +kernel
theorem dX7_row_60 : decode cX7_row 60 = .ok (.areturn, 1) := by decide +kernel
theorem dX7_row_61 : decode cX7_row 61 = .ok (.aload_n 0, 1) := by decide +kernel
theorem dX7_row_62 : decode cX7_row 62 = .ok (.getfield 40, 3) := by decide +kernel
theorem dX7_row_65 : decode cX7_row 65 = .ok (.areturn, 1) := by decide +kernel
theorem dX7_childOf_0 : decode cX7_childOf 0 = .ok (.iconst 0, 1) := by decide +kernel
theorem dX7_childOf_1 : decode cX7_childOf 1 = .ok (.istore_n 3, 1) := by decide +kernel
theorem dX7_childOf_2 : decode cX7_childOf 2 = .ok (.iload_n 1, 1) := by decide +kernel
theorem dX7_childOf_3 : decode cX7_childOf 3 = .ok (.iconst 1, 1) := by decide +kernel
theorem dX7_childOf_4 : decode cX7_childOf 4 = .ok (.iadd, 1) := by decide +kernel
theorem dX7_childOf_5 : decode cX7_childOf 5 = .ok (.istore 4, 2) := by decide +kernel
theorem dX7_childOf_7 : decode cX7_childOf 7 = .ok (.iload 4, 2) := by decide +kernel
theorem dX7_childOf_9 : decode cX7_childOf 9 = .ok (.aload_n 0, 1) := by decide +kernel
theorem dX7_childOf_10 : decode cX7_childOf 10 = .ok (.getfield 61, 3) := by decide +kernel
theorem dX7_childOf_13 : decode cX7_childOf 13 = .ok (.if_icmp .ge 31, 3) := by decide +kernel
theorem dX7_childOf_16 : decode cX7_childOf 16 = .ok (.aload_n 0, 1) := by decide +kernel
theorem dX7_childOf_17 : decode cX7_childOf 17 = .ok (.getfield 15, 3) := by decide +kernel
theorem dX7_childOf_20 : decode cX7_childOf 20 = .ok (.iload 4, 2) := by decide +kernel
theorem dX7_childOf_22 : decode cX7_childOf 22 = .ok (.iaload, 1) := by decide +kernel
theorem dX7_childOf_23 : decode cX7_childOf 23 = .ok (.iload_n 1, 1) := by decide +kernel
theorem dX7_childOf_24 : decode cX7_childOf 24 = .ok (.if_icmp .ne 14, 3) := by decide +kernel
theorem dX7_childOf_27 : decode cX7_childOf 27 = .ok (.iload_n 3, 1) := by decide +kernel
theorem dX7_childOf_28 : decode cX7_childOf 28 = .ok (.iload_n 2, 1) := by decide +kernel
theorem dX7_childOf_29 : decode cX7_childOf 29 = .ok (.if_icmp .ne 6, 3) := by decide +kernel
theorem dX7_childOf_32 : decode cX7_childOf 32 = .ok (.iload 4, 2) := by decide +kernel
theorem dX7_childOf_34 : decode cX7_childOf 34 = .ok (.ireturn, 1) := by decide +kernel
theorem dX7_childOf_35 : decode cX7_childOf 35 = .ok (.iinc 3 1, 3) := by decide +kernel
theorem dX7_childOf_38 : decode cX7_childOf 38 = .ok (.iinc 4 1, 3) := by decide +kernel
theorem dX7_childOf_41 : decode cX7_childOf 41 = .ok (.goto (-34), 3) := by decide +kernel
theorem dX7_childOf_44 : decode cX7_childOf 44 = .ok (.bipush (-2), 2) := by decide +kernel
theorem dX7_childOf_46 : decode cX7_childOf 46 = .ok (.ireturn, 1) := by decide +kernel
theorem dX7_distance_0 : decode cX7_distance 0 = .ok (.aload_n 0, 1) := by decide +kernel
theorem dX7_distance_1 : decode cX7_distance 1 = .ok (.iload_n 1, 1) := by decide +kernel
theorem dX7_distance_2 : decode cX7_distance 2 = .ok (.invokevirtual 67, 3) := by decide +kernel
theorem dX7_distance_5 : decode cX7_distance 5 = .ok (.ifCond .eq 27, 3) := by decide +kernel
theorem dX7_distance_8 : decode cX7_distance 8 = .ok (.aload_n 0, 1) := by decide +kernel
theorem dX7_distance_9 : decode cX7_distance 9 = .ok (.iload_n 2, 1) := by decide +kernel
theorem dX7_distance_10 : decode cX7_distance 10 = .ok (.invokevirtual 67, 3) := by decide +kernel
theorem dX7_distance_13 : decode cX7_distance 13 = .ok (.ifCond .eq 19, 3) := by decide +kernel
theorem dX7_distance_16 : decode cX7_distance 16 = .ok (.aload_n 0, 1) := by decide +kernel
theorem dX7_distance_17 : decode cX7_distance 17 = .ok (.getfield 19, 3) := by decide +kernel
theorem dX7_distance_20 : decode cX7_distance 20 = .ok (.iload_n 1, 1) := by decide +kernel
theorem dX7_distance_21 : decode cX7_distance 21 = .ok (.iaload, 1) := by decide +kernel
theorem dX7_distance_22 : decode cX7_distance 22 = .ok (.aload_n 0, 1) := by decide +kernel
theorem dX7_distance_23 : decode cX7_distance 23 = .ok (.getfield 19, 3) := by decide +kernel
theorem dX7_distance_26 : decode cX7_distance 26 = .ok (.iload_n 2, 1) := by decide +kernel
theorem dX7_distance_27 : decode cX7_distance 27 = .ok (.iaload, 1) := by decide +kernel
theorem dX7_distance_28 : decode cX7_distance 28 = .ok (.isub, 1) := by decide +kernel
theorem dX7_distance_29 : decode cX7_distance 29 = .ok (.goto 5, 3) := by decide +kernel
theorem dX7_distance_32 : decode cX7_distance 32 = .ok (.bipush (-2), 2) := by decide +kernel
theorem dX7_distance_34 : decode cX7_distance 34 = .ok (.ireturn, 1) := by decide +kernel
theorem dX8_init_0 : decode cX8_init 0 = .ok (.aload_n 0, 1) := by decide +kernel
theorem dX8_init_1 : decode cX8_init 1 = .ok (.invokespecial 3, 3) := by decide +kernel
theorem dX8_init_4 : decode cX8_init 4 = .ok (.aload_n 0, 1) := by decide +kernel
theorem dX8_init_5 : decode cX8_init 5 = .ok (.bipush 12, 2) := by decide +kernel
theorem dX8_init_7 : decode cX8_init 7 = .ok (.newarray .int, 2) := by decide +kernel
theorem dX8_init_9 : decode cX8_init 9 = .ok (.putfield 9, 3) := by decide +kernel
theorem dX8_init_12 : decode cX8_init 12 = .ok (.aload_n 0, 1) := by decide +kernel
theorem dX8_init_13 : decode cX8_init 13 = .ok (.bipush 12, 2) := by decide +kernel
theorem dX8_init_15 : decode cX8_init 15 = .ok (.newarray .int, 2) := by decide +kernel
theorem dX8_init_17 : decode cX8_init 17 = .ok (.putfield 15, 3) := by decide +kernel
theorem dX8_init_20 : decode cX8_init 20 = .ok (.aload_n 0, 1) := by decide +kernel
theorem dX8_init_21 : decode cX8_init 21 = .ok (.bipush 12, 2) := by decide +kernel
theorem dX8_init_23 : decode cX8_init 23 = .ok (.newarray .int, 2) := by decide +kernel
theorem dX8_init_25 : decode cX8_init 25 = .ok (.putfield 18, 3) := by decide +kernel
theorem dX8_init_28 : decode cX8_init 28 = .ok (.aload_n 0, 1) := by decide +kernel
theorem dX8_init_29 : decode cX8_init 29 = .ok (.new 21, 3) := by decide +kernel
theorem dX8_init_32 : decode cX8_init 32 = .ok (.dup, 1) := by decide +kernel
theorem dX8_init_33 : decode cX8_init 33 = .ok (.invokespecial 23, 3) := by decide +kernel
theorem dX8_init_36 : decode cX8_init 36 = .ok (.putfield 24, 3) := by decide +kernel
theorem dX8_init_39 : decode cX8_init 39 = .ok (.aload_n 0, 1) := by decide +kernel
theorem dX8_init_40 : decode cX8_init 40 = .ok (.new 28, 3) := by decide +kernel
theorem dX8_init_43 : decode cX8_init 43 = .ok (.dup, 1) := by decide +kernel
theorem dX8_init_44 : decode cX8_init 44 = .ok (.invokespecial 30, 3) := by decide +kernel
theorem dX8_init_47 : decode cX8_init 47 = .ok (.putfield 31, 3) := by decide +kernel
theorem dX8_init_50 : decode cX8_init 50 = .ok (.aload_n 0, 1) := by decide +kernel
theorem dX8_init_51 : decode cX8_init 51 = .ok (.new 35, 3) := by decide +kernel
theorem dX8_init_54 : decode cX8_init 54 = .ok (.dup, 1) := by decide +kernel
theorem dX8_init_55 : decode cX8_init 55 = .ok (.invokespecial 37, 3) := by decide +kernel
theorem dX8_init_58 : decode cX8_init 58 = .ok (.putfield 38, 3) := by decide +kernel
theorem dX8_init_61 : decode cX8_init 61 = .ok (.aload_n 0, 1) := by decide +kernel
theorem dX8_init_62 : decode cX8_init 62 = .ok (.new 42, 3) := by decide +kernel
theorem dX8_init_65 : decode cX8_init 65 = .ok (.dup, 1) := by decide +kernel
theorem dX8_init_66 : decode cX8_init 66 = .ok (.invokespecial 44, 3) := by decide +kernel
theorem dX8_init_69 : decode cX8_init 69 = .ok (.putfield 45, 3) := by decide +kernel
theorem dX8_init_72 : decode cX8_init 72 = .ok (.return_, 1) := by decide +kernel
theorem dX8_begin_0 : decode cX8_begin 0 = .ok (.aload_n 0, 1) := by decide +kernel
theorem dX8_begin_1 : decode cX8_begin 1 = .ok (.iconst 0, 1) := by decide +kernel
theorem dX8_begin_2 : decode cX8_begin 2 = .ok (.putfield 49, 3) := by decide +kernel
theorem dX8_begin_5 : decode cX8_begin 5 = .ok (.aload_n 1, 1) := by decide +kernel
theorem dX8_begin_6 : decode cX8_begin 6 = .ok (.getfield 53, 3) := by decide +kernel
theorem dX8_begin_9 : decode cX8_begin 9 = .ok (.aload_n 0, 1) := by decide +kernel
theorem dX8_begin_10 : decode cX8_begin 10 = .ok (.getfield 9, 3) := by decide +kernel
theorem dX8_begin_13 : decode cX8_begin 13 = .ok (.invokestatic 56, 3) := by decide +kernel
theorem dX8_begin_16 : decode cX8_begin 16 = .ok (.aload_n 1, 1) := by decide +kernel
theorem dX8_begin_17 : decode cX8_begin 17 = .ok (.getfield 60, 3) := by decide +kernel
theorem dX8_begin_20 : decode cX8_begin 20 = .ok (.aload_n 0, 1) := by decide +kernel
theorem dX8_begin_21 : decode cX8_begin 21 = .ok (.getfield 15, 3) := by decide +kernel
theorem dX8_begin_24 : decode cX8_begin 24 = .ok (.invokestatic 56, 3) := by decide +kernel
theorem dX8_begin_27 : decode cX8_begin 27 = .ok (.aload_n 1, 1) := by decide +kernel
theorem dX8_begin_28 : decode cX8_begin 28 = .ok (.getfield 61, 3) := by decide +kernel
theorem dX8_begin_31 : decode cX8_begin 31 = .ok (.aload_n 0, 1) := by decide +kernel
theorem dX8_begin_32 : decode cX8_begin 32 = .ok (.getfield 18, 3) := by decide +kernel
theorem dX8_begin_35 : decode cX8_begin 35 = .ok (.invokestatic 56, 3) := by decide +kernel
theorem dX8_begin_38 : decode cX8_begin 38 = .ok (.aload_n 0, 1) := by decide +kernel
theorem dX8_begin_39 : decode cX8_begin 39 = .ok (.getfield 24, 3) := by decide +kernel
theorem dX8_begin_42 : decode cX8_begin 42 = .ok (.aload_n 1, 1) := by decide +kernel
theorem dX8_begin_43 : decode cX8_begin 43 = .ok (.invokevirtual 62, 3) := by decide +kernel
theorem dX8_begin_46 : decode cX8_begin 46 = .ok (.aload_n 0, 1) := by decide +kernel
theorem dX8_begin_47 : decode cX8_begin 47 = .ok (.getfield 31, 3) := by decide +kernel
theorem dX8_begin_50 : decode cX8_begin 50 = .ok (.invokevirtual 66, 3) := by decide +kernel
theorem dX8_begin_53 : decode cX8_begin 53 = .ok (.aload_n 0, 1) := by decide +kernel
theorem dX8_begin_54 : decode cX8_begin 54 = .ok (.getfield 38, 3) := by decide +kernel
theorem dX8_begin_57 : decode cX8_begin 57 = .ok (.invokevirtual 68, 3) := by decide +kernel
theorem dX8_begin_60 : decode cX8_begin 60 = .ok (.aload_n 0, 1) := by decide +kernel
theorem dX8_begin_61 : decode cX8_begin 61 = .ok (.getfield 45, 3) := by decide +kernel
theorem dX8_begin_64 : decode cX8_begin 64 = .ok (.iconst 0, 1) := by decide +kernel
theorem dX8_begin_65 : decode cX8_begin 65 = .ok (.putfield 69, 3) := by decide +kernel
theorem dX8_begin_68 : decode cX8_begin 68 = .ok (.return_, 1) := by decide +kernel
theorem dX8_copyFrom_0 : decode cX8_copyFrom 0 = .ok (.aload_n 0, 1) := by decide +kernel
theorem dX8_copyFrom_1 : decode cX8_copyFrom 1 = .ok (.aload_n 1, 1) := by decide +kernel
theorem dX8_copyFrom_2 : decode cX8_copyFrom 2 = .ok (.getfield 49, 3) := by decide +kernel
theorem dX8_copyFrom_5 : decode cX8_copyFrom 5 = .ok (.putfield 49, 3) := by decide +kernel
theorem dX8_copyFrom_8 : decode cX8_copyFrom 8 = .ok (.aload_n 1, 1) := by decide +kernel
theorem dX8_copyFrom_9 : decode cX8_copyFrom 9 = .ok (.getfield 9, 3) := by decide +kernel
theorem dX8_copyFrom_12 : decode cX8_copyFrom 12 = .ok (.aload_n 0, 1) := by decide +kernel
theorem dX8_copyFrom_13 : decode cX8_copyFrom 13 = .ok (.getfield 9, 3) := by decide +kernel
theorem dX8_copyFrom_16 : decode cX8_copyFrom 16 = .ok (.invokestatic 56, 3) := by decide +kernel
theorem dX8_copyFrom_19 : decode cX8_copyFrom 19 = .ok (.aload_n 1, 1) := by decide +kernel
theorem dX8_copyFrom_20 : decode cX8_copyFrom 20 = .ok (.getfield 15, 3) := by decide +kernel
theorem dX8_copyFrom_23 : decode cX8_copyFrom 23 = .ok (.aload_n 0, 1) := by decide +kernel
theorem dX8_copyFrom_24 : decode cX8_copyFrom 24 = .ok (.getfield 15, 3) := by decide +kernel
theorem dX8_copyFrom_27 : decode cX8_copyFrom 27 = .ok (.invokestatic 56, 3) := by decide +kernel
theorem dX8_copyFrom_30 : decode cX8_copyFrom 30 = .ok (.aload_n 1, 1) := by decide +kernel
theorem dX8_copyFrom_31 : decode cX8_copyFrom 31 = .ok (.getfield 18, 3) := by decide +kernel
theorem dX8_copyFrom_34 : decode cX8_copyFrom 34 = .ok (.aload_n 0, 1) := by decide +kernel
theorem dX8_copyFrom_35 : decode cX8_copyFrom 35 = .ok (.getfield 18, 3) := by decide +kernel
theorem dX8_copyFrom_38 : decode cX8_copyFrom 38 = .ok (.invokestatic 56, 3) := by decide +kernel
theorem dX8_copyFrom_41 : decode cX8_copyFrom 41 = .ok (.aload_n 0, 1) := by decide +kernel
theorem dX8_copyFrom_42 : decode cX8_copyFrom 42 = .ok (.getfield 24, 3) := by decide +kernel
theorem dX8_copyFrom_45 : decode cX8_copyFrom 45 = .ok (.aload_n 1, 1) := by decide +kernel
theorem dX8_copyFrom_46 : decode cX8_copyFrom 46 = .ok (.getfield 24, 3) := by decide +kernel
theorem dX8_copyFrom_49 : decode cX8_copyFrom 49 = .ok (.invokevirtual 72, 3) := by decide +kernel
theorem dX8_copyFrom_52 : decode cX8_copyFrom 52 = .ok (.aload_n 0, 1) := by decide +kernel
theorem dX8_copyFrom_53 : decode cX8_copyFrom 53 = .ok (.getfield 31, 3) := by decide +kernel
theorem dX8_copyFrom_56 : decode cX8_copyFrom 56 = .ok (.aload_n 1, 1) := by decide +kernel
theorem dX8_copyFrom_57 : decode cX8_copyFrom 57 = .ok (.getfield 31, 3) := by decide +kernel
theorem dX8_copyFrom_60 : decode cX8_copyFrom 60 = .ok (.invokevirtual 76, 3) := by decide +kernel
theorem dX8_copyFrom_63 : decode cX8_copyFrom 63 = .ok (.aload_n 0, 1) := by decide +kernel
theorem dX8_copyFrom_64 : decode cX8_copyFrom 64 = .ok (.getfield 38, 3) := by decide +kernel
theorem dX8_copyFrom_67 : decode cX8_copyFrom 67 = .ok (.aload_n 1, 1) := by decide +kernel
theorem dX8_copyFrom_68 : decode cX8_copyFrom 68 = .ok (.getfield 38, 3) := by decide +kernel
theorem dX8_copyFrom_71 : decode cX8_copyFrom 71 = .ok (.invokevirtual 79, 3) := by decide +kernel
theorem dX8_copyFrom_74 : decode cX8_copyFrom 74 = .ok (.aload_n 0, 1) := by decide +kernel
theorem dX8_copyFrom_75 : decode cX8_copyFrom 75 = .ok (.getfield 45, 3) := by decide +kernel
theorem dX8_copyFrom_78 : decode cX8_copyFrom 78 = .ok (.aload_n 1, 1) := by decide +kernel
theorem dX8_copyFrom_79 : decode cX8_copyFrom 79 = .ok (.getfield 45, 3) := by decide +kernel
theorem dX8_copyFrom_82 : decode cX8_copyFrom 82 = .ok (.invokevirtual 82, 3) := by decide +kernel
theorem dX8_copyFrom_85 : decode cX8_copyFrom 85 = .ok (.return_, 1) := by decide +kernel
theorem dX8_row_0 : decode cX8_row 0 = .ok (.iload_n 1, 1) := by decide +kernel
theorem dX8_row_1 : decode cX8_row 1 = .ok (.lookupswitch 37 #[(0, 27), (1, 32)], 27) := by decide +kernel
theorem dX8_row_28 : decode cX8_row 28 = .ok (.aload_n 0, 1) := by decide +kernel
theorem dX8_row_29 : decode cX8_row 29 = .ok (.getfield 9, 3) := by decide +kernel
theorem dX8_row_32 : decode cX8_row 32 = .ok (.areturn, 1) := by decide +kernel
theorem dX8_row_33 : decode cX8_row 33 = .ok (.aload_n 0, 1) := by decide +kernel
theorem dX8_row_34 : decode cX8_row 34 = .ok (.getfield 15, 3) := by decide +kernel
theorem dX8_row_37 : decode cX8_row 37 = .ok (.areturn, 1) := by decide +kernel
theorem dX8_row_38 : decode cX8_row 38 = .ok (.aload_n 0, 1) := by decide +kernel
theorem dX8_row_39 : decode cX8_row 39 = .ok (.getfield 18, 3) := by decide +kernel
theorem dX8_row_42 : decode cX8_row 42 = .ok (.areturn, 1) := by decide +kernel
theorem dX8_childrenRate_0 : decode cX8_childrenRate 0 = .ok (.iconst 0, 1) := by decide +kernel
theorem dX8_childrenRate_1 : decode cX8_childrenRate 1 = .ok (.istore_n 3, 1) := by decide +kernel
theorem dX8_childrenRate_2 : decode cX8_childrenRate 2 = .ok (.iload_n 2, 1) := by decide +kernel
theorem dX8_childrenRate_3 : decode cX8_childrenRate 3 = .ok (.iconst 1, 1) := by decide +kernel
theorem dX8_childrenRate_4 : decode cX8_childrenRate 4 = .ok (.iadd, 1) := by decide +kernel
theorem dX8_childrenRate_5 : decode cX8_childrenRate 5 = .ok (.istore 4, 2) := by decide +kernel
theorem dX8_childrenRate_7 : decode cX8_childrenRate 7 = .ok (.iload 4, 2) := by decide +kernel
theorem dX8_childrenRate_9 : decode cX8_childrenRate 9 = .ok (.aload_n 1, 1) := by decide +kernel
theorem dX8_childrenRate_10 : decode cX8_childrenRate 10 = .ok (.getfield 85, 3) := by decide +kernel
theorem dX8_childrenRate_13 : decode cX8_childrenRate 13 = .ok (.if_icmp .ge 30, 3) := by decide +kernel
theorem dX8_childrenRate_16 : decode cX8_childrenRate 16 = .ok (.aload_n 1, 1) := by decide +kernel
theorem dX8_childrenRate_17 : decode cX8_childrenRate 17 = .ok (.getfield 88, 3) := by decide +kernel
theorem dX8_childrenRate_20 : decode cX8_childrenRate 20 = .ok (.iload 4, 2) := by decide +kernel
theorem dX8_childrenRate_22 : decode cX8_childrenRate 22 = .ok (.iaload, 1) := by decide +kernel
theorem dX8_childrenRate_23 : decode cX8_childrenRate 23 = .ok (.iload_n 2, 1) := by decide +kernel
theorem dX8_childrenRate_24 : decode cX8_childrenRate 24 = .ok (.if_icmp .ne 13, 3) := by decide +kernel
theorem dX8_childrenRate_27 : decode cX8_childrenRate 27 = .ok (.iload_n 3, 1) := by decide +kernel
theorem dX8_childrenRate_28 : decode cX8_childrenRate 28 = .ok (.aload_n 0, 1) := by decide +kernel
theorem dX8_childrenRate_29 : decode cX8_childrenRate 29 = .ok (.getfield 9, 3) := by decide +kernel
theorem dX8_childrenRate_32 : decode cX8_childrenRate 32 = .ok (.iload 4, 2) := by decide +kernel
theorem dX8_childrenRate_34 : decode cX8_childrenRate 34 = .ok (.iaload, 1) := by decide +kernel
theorem dX8_childrenRate_35 : decode cX8_childrenRate 35 = .ok (.iadd, 1) := by decide +kernel
theorem dX8_childrenRate_36 : decode cX8_childrenRate 36 = .ok (.istore_n 3, 1) := by decide +kernel
theorem dX8_childrenRate_37 : decode cX8_childrenRate 37 = .ok (.iinc 4 1, 3) := by decide +kernel
theorem dX8_childrenRate_40 : decode cX8_childrenRate 40 = .ok (.goto (-33), 3) := by decide +kernel
theorem dX8_childrenRate_43 : decode cX8_childrenRate 43 = .ok (.iload_n 3, 1) := by decide +kernel
theorem dX8_childrenRate_44 : decode cX8_childrenRate 44 = .ok (.ireturn, 1) := by decide +kernel
theorem dX8_leastCeiling_0 : decode cX8_leastCeiling 0 = .ok (.sipush 999, 3) := by decide +kernel
theorem dX8_leastCeiling_3 : decode cX8_leastCeiling 3 = .ok (.istore_n 3, 1) := by decide +kernel
theorem dX8_leastCeiling_4 : decode cX8_leastCeiling 4 = .ok (.iload_n 2, 1) := by decide +kernel
theorem dX8_leastCeiling_5 : decode cX8_leastCeiling 5 = .ok (.istore 4, 2) := by decide +kernel
theorem dX8_leastCeiling_7 : decode cX8_leastCeiling 7 = .ok (.iconst 0, 1) := by decide +kernel
theorem dX8_leastCeiling_8 : decode cX8_leastCeiling 8 = .ok (.istore 5, 2) := by decide +kernel
theorem dX8_leastCeiling_10 : decode cX8_leastCeiling 10 = .ok (.iload 5, 2) := by decide +kernel
theorem dX8_leastCeiling_12 : decode cX8_leastCeiling 12 = .ok (.bipush 12, 2) := by decide +kernel
theorem dX8_leastCeiling_14 : decode cX8_leastCeiling 14 = .ok (.if_icmp .ge 39, 3) := by decide +kernel
theorem dX8_leastCeiling_17 : decode cX8_leastCeiling 17 = .ok (.aload_n 1, 1) := by decide +kernel
theorem dX8_leastCeiling_18 : decode cX8_leastCeiling 18 = .ok (.iload 4, 2) := by decide +kernel
theorem dX8_leastCeiling_20 : decode cX8_leastCeiling 20 = .ok (.invokevirtual 91, 3) := by decide +kernel
theorem dX8_leastCeiling_23 : decode cX8_leastCeiling 23 = .ok (.ifCond .eq 30, 3) := by decide +kernel
theorem dX8_leastCeiling_26 : decode cX8_leastCeiling 26 = .ok (.iload_n 3, 1) := by decide +kernel
theorem dX8_leastCeiling_27 : decode cX8_leastCeiling 27 = .ok (.aload_n 0, 1) := by decide +kernel
theorem dX8_leastCeiling_28 : decode cX8_leastCeiling 28 = .ok (.getfield 15, 3) := by decide +kernel
theorem dX8_leastCeiling_31 : decode cX8_leastCeiling 31 = .ok (.iload 4, 2) := by decide +kernel
theorem dX8_leastCeiling_33 : decode cX8_leastCeiling 33 = .ok (.iaload, 1) := by decide +kernel
theorem dX8_leastCeiling_34 : decode cX8_leastCeiling 34 = .ok (.invokestatic 95, 3) := by decide +kernel
theorem dX8_leastCeiling_37 : decode cX8_leastCeiling 37 = .ok (.istore_n 3, 1) := by decide +kernel
theorem dX8_leastCeiling_38 : decode cX8_leastCeiling 38 = .ok (.aload_n 1, 1) := by decide +kernel
theorem dX8_leastCeiling_39 : decode cX8_leastCeiling 39 = .ok (.getfield 88, 3) := by decide +kernel
theorem dX8_leastCeiling_42 : decode cX8_leastCeiling 42 = .ok (.iload 4, 2) := by decide +kernel
theorem dX8_leastCeiling_44 : decode cX8_leastCeiling 44 = .ok (.iaload, 1) := by decide +kernel
theorem dX8_leastCeiling_45 : decode cX8_leastCeiling 45 = .ok (.istore 4, 2) := by decide +kernel
theorem dX8_leastCeiling_47 : decode cX8_leastCeiling 47 = .ok (.iinc 5 1, 3) := by decide +kernel
theorem dX8_leastCeiling_50 : decode cX8_leastCeiling 50 = .ok (.goto (-40), 3) := by decide +kernel
theorem dX8_leastCeiling_53 : decode cX8_leastCeiling 53 = .ok (.iload_n 3, 1) := by decide +kernel
theorem dX8_leastCeiling_54 : decode cX8_leastCeiling 54 = .ok (.ireturn, 1) := by decide +kernel
theorem dX8_send_0 : decode cX8_send 0 = .ok (.aload_n 1, 1) := by decide +kernel
theorem dX8_send_1 : decode cX8_send 1 = .ok (.iload_n 2, 1) := by decide +kernel
theorem dX8_send_2 : decode cX8_send 2 = .ok (.invokevirtual 91, 3) := by decide +kernel
theorem dX8_send_5 : decode cX8_send 5 = .ok (.ifCond .eq 11, 3) := by decide +kernel
theorem dX8_send_8 : decode cX8_send 8 = .ok (.aload_n 1, 1) := by decide +kernel
theorem dX8_send_9 : decode cX8_send 9 = .ok (.iload_n 3, 1) := by decide +kernel
theorem dX8_send_10 : decode cX8_send 10 = .ok (.invokevirtual 91, 3) := by decide +kernel
theorem dX8_send_13 : decode cX8_send 13 = .ok (.ifCond .ne 4, 3) := by decide +kernel
theorem dX8_send_16 : decode cX8_send 16 = .ok (.return_, 1) := by decide +kernel
theorem dX8_send_17 : decode cX8_send 17 = .ok (.aload_n 0, 1) := by decide +kernel
theorem dX8_send_18 : decode cX8_send 18 = .ok (.getfield 24, 3) := by decide +kernel
theorem dX8_send_21 : decode cX8_send 21 = .ok (.aload_n 1, 1) := by decide +kernel
theorem dX8_send_22 : decode cX8_send 22 = .ok (.iload_n 2, 1) := by decide +kernel
theorem dX8_send_23 : decode cX8_send 23 = .ok (.iload_n 3, 1) := by decide +kernel
theorem dX8_send_24 : decode cX8_send 24 = .ok (.iload 4, 2) := by decide +kernel
theorem dX8_send_26 : decode cX8_send 26 = .ok (.invokevirtual 101, 3) := by decide +kernel
theorem dX8_send_29 : decode cX8_send 29 = .ok (.aload_n 0, 1) := by decide +kernel
theorem dX8_send_30 : decode cX8_send 30 = .ok (.getfield 38, 3) := by decide +kernel
theorem dX8_send_33 : decode cX8_send 33 = .ok (.iload_n 2, 1) := by decide +kernel
theorem dX8_send_34 : decode cX8_send 34 = .ok (.iload_n 3, 1) := by decide +kernel
theorem dX8_send_35 : decode cX8_send 35 = .ok (.iload 4, 2) := by decide +kernel
theorem dX8_send_37 : decode cX8_send 37 = .ok (.invokevirtual 105, 3) := by decide +kernel
theorem dX8_send_40 : decode cX8_send 40 = .ok (.aload_n 0, 1) := by decide +kernel
theorem dX8_send_41 : decode cX8_send 41 = .ok (.getfield 45, 3) := by decide +kernel
theorem dX8_send_44 : decode cX8_send 44 = .ok (.iload_n 2, 1) := by decide +kernel
theorem dX8_send_45 : decode cX8_send 45 = .ok (.iload 4, 2) := by decide +kernel
theorem dX8_send_47 : decode cX8_send 47 = .ok (.iload_n 3, 1) := by decide +kernel
theorem dX8_send_48 : decode cX8_send 48 = .ok (.aload_n 0, 1) := by decide +kernel
theorem dX8_send_49 : decode cX8_send 49 = .ok (.getfield 49, 3) := by decide +kernel
theorem dX8_send_52 : decode cX8_send 52 = .ok (.invokevirtual 109, 3) := by decide +kernel
theorem dX8_send_55 : decode cX8_send 55 = .ok (.return_, 1) := by decide +kernel
theorem dX8_putInQueue_0 : decode cX8_putInQueue 0 = .ok (.aload_n 0, 1) := by decide +kernel
theorem dX8_putInQueue_1 : decode cX8_putInQueue 1 = .ok (.getfield 31, 3) := by decide +kernel
theorem dX8_putInQueue_4 : decode cX8_putInQueue 4 = .ok (.iload_n 1, 1) := by decide +kernel
theorem dX8_putInQueue_5 : decode cX8_putInQueue 5 = .ok (.invokevirtual 113, 3) := by decide +kernel
theorem dX8_putInQueue_8 : decode cX8_putInQueue 8 = .ok (.ifCond .eq 19, 3) := by decide +kernel
theorem dX8_putInQueue_11 : decode cX8_putInQueue 11 = .ok (.aload_n 0, 1) := by decide +kernel
theorem dX8_putInQueue_12 : decode cX8_putInQueue 12 = .ok (.getfield 38, 3) := by decide +kernel
theorem dX8_putInQueue_15 : decode cX8_putInQueue 15 = .ok (.getfield 116, 3) := by decide +kernel
theorem dX8_putInQueue_18 : decode cX8_putInQueue 18 = .ok (.iload_n 1, 1) := by decide +kernel
theorem dX8_putInQueue_19 : decode cX8_putInQueue 19 = .ok (.dup2, 1) := by decide +kernel
theorem dX8_putInQueue_20 : decode cX8_putInQueue 20 = .ok (.iaload, 1) := by decide +kernel
theorem dX8_putInQueue_21 : decode cX8_putInQueue 21 = .ok (.iconst 1, 1) := by decide +kernel
theorem dX8_putInQueue_22 : decode cX8_putInQueue 22 = .ok (.iadd, 1) := by decide +kernel
theorem dX8_putInQueue_23 : decode cX8_putInQueue 23 = .ok (.iastore, 1) := by decide +kernel
theorem dX8_putInQueue_24 : decode cX8_putInQueue 24 = .ok (.bipush (-2), 2) := by decide +kernel
theorem dX8_putInQueue_26 : decode cX8_putInQueue 26 = .ok (.ireturn, 1) := by decide +kernel
theorem dX8_putInQueue_27 : decode cX8_putInQueue 27 = .ok (.aload_n 0, 1) := by decide +kernel
theorem dX8_putInQueue_28 : decode cX8_putInQueue 28 = .ok (.getfield 31, 3) := by decide +kernel
theorem dX8_putInQueue_31 : decode cX8_putInQueue 31 = .ok (.iload_n 1, 1) := by decide +kernel
theorem dX8_putInQueue_32 : decode cX8_putInQueue 32 = .ok (.iload_n 2, 1) := by decide +kernel
theorem dX8_putInQueue_33 : decode cX8_putInQueue 33 = .ok (.aload_n 0, 1) := by decide +kernel
theorem dX8_putInQueue_34 : decode cX8_putInQueue 34 = .ok (.getfield 49, 3) := by decide +kernel
theorem dX8_putInQueue_37 : decode cX8_putInQueue 37 = .ok (.invokevirtual 119, 3) := by decide +kernel
theorem dX8_putInQueue_40 : decode cX8_putInQueue 40 = .ok (.ireturn, 1) := by decide +kernel
theorem dX8_ticksUntilLender_0 : decode cX8_ticksUntilLender 0 = .ok (.iconst 0, 1) := by decide +kernel
theorem dX8_ticksUntilLender_1 : decode cX8_ticksUntilLender 1 = .ok (.istore 4, 2) := by decide +kernel
theorem dX8_ticksUntilLender_3 : decode cX8_ticksUntilLender 3 = .ok (.sipush 1001, 3) := by decide +kernel
theorem dX8_ticksUntilLender_6 : decode cX8_ticksUntilLender 6 = .ok (.istore 5, 2) := by decide +kernel
theorem dX8_ticksUntilLender_8 : decode cX8_ticksUntilLender 8 = .ok (.iconst 1, 1) := by decide +kernel
theorem dX8_ticksUntilLender_9 : decode cX8_ticksUntilLender 9 = .ok (.istore 6, 2) := by decide +kernel
theorem dX8_ticksUntilLender_11 : decode cX8_ticksUntilLender 11 = .ok (.iload_n 2, 1) := by decide +kernel
theorem dX8_ticksUntilLender_12 : decode cX8_ticksUntilLender 12 = .ok (.istore 7, 2) := by decide +kernel
theorem dX8_ticksUntilLender_14 : decode cX8_ticksUntilLender 14 = .ok (.iconst 0, 1) := by decide +kernel
theorem dX8_ticksUntilLender_15 : decode cX8_ticksUntilLender 15 = .ok (.istore 8, 2) := by decide +kernel
theorem dX8_ticksUntilLender_17 : decode cX8_ticksUntilLender 17 = .ok (.iload 8, 2) := by decide +kernel
theorem dX8_ticksUntilLender_19 : decode cX8_ticksUntilLender 19 = .ok (.bipush 12, 2) := by decide +kernel
theorem dX8_ticksUntilLender_21 : decode cX8_ticksUntilLender 21 = .ok (.if_icmp .ge 149, 3) := by decide +kernel
theorem dX8_ticksUntilLender_24 : decode cX8_ticksUntilLender 24 = .ok (.aload_n 1, 1) := by decide +kernel
theorem dX8_ticksUntilLender_25 : decode cX8_ticksUntilLender 25 = .ok (.iload 7, 2) := by decide +kernel
theorem dX8_ticksUntilLender_27 : decode cX8_ticksUntilLender 27 = .ok (.invokevirtual 91, 3) := by decide +kernel
theorem dX8_ticksUntilLender_30 : decode cX8_ticksUntilLender 30 = .ok (.ifCond .eq 140, 3) := by decide +kernel
theorem dX8_ticksUntilLender_33 : decode cX8_ticksUntilLender 33 = .ok (.aload_n 1, 1) := by decide +kernel
theorem dX8_ticksUntilLender_34 : decode cX8_ticksUntilLender 34 = .ok (.getfield 123, 3) := by decide +kernel
theorem dX8_ticksUntilLender_37 : decode cX8_ticksUntilLender 37 = .ok (.iload 7, 2) := by decide +kernel
theorem dX8_ticksUntilLender_39 : decode cX8_ticksUntilLender 39 = .ok (.iaload, 1) := by decide +kernel
theorem dX8_ticksUntilLender_40 : decode cX8_ticksUntilLender 40 = .ok (.istore 9, 2) := by decide +kernel
theorem dX8_ticksUntilLender_42 : decode cX8_ticksUntilLender 42 = .ok (.iload_n 3, 1) := by decide +kernel
theorem dX8_ticksUntilLender_43 : decode cX8_ticksUntilLender 43 = .ok (.aload_n 0, 1) := by decide +kernel
theorem dX8_ticksUntilLender_44 : decode cX8_ticksUntilLender 44 = .ok (.getfield 24, 3) := by decide +kernel
theorem dX8_ticksUntilLender_47 : decode cX8_ticksUntilLender 47 = .ok (.getfield 126, 3) := by decide +kernel
theorem dX8_ticksUntilLender_50 : decode cX8_ticksUntilLender 50 = .ok (.iload 7, 2) := by decide +kernel
theorem dX8_ticksUntilLender_52 : decode cX8_ticksUntilLender 52 = .ok (.iaload, 1) := by decide +kernel
theorem dX8_ticksUntilLender_53 : decode cX8_ticksUntilLender 53 = .ok (.aload_n 0, 1) := by decide +kernel
theorem dX8_ticksUntilLender_54 : decode cX8_ticksUntilLender 54 = .ok (.getfield 15, 3) := by decide +kernel
theorem dX8_ticksUntilLender_57 : decode cX8_ticksUntilLender 57 = .ok (.iload 7, 2) := by decide +kernel
theorem dX8_ticksUntilLender_59 : decode cX8_ticksUntilLender 59 = .ok (.iaload, 1) := by decide +kernel
theorem dX8_ticksUntilLender_60 : decode cX8_ticksUntilLender 60 = .ok (.iload 9, 2) := by decide +kernel
theorem dX8_ticksUntilLender_62 : decode cX8_ticksUntilLender 62 = .ok (.invokestatic 129, 3) := by decide +kernel
theorem dX8_ticksUntilLender_65 : decode cX8_ticksUntilLender 65 = .ok (.istore 10, 2) := by decide +kernel
theorem dX8_ticksUntilLender_67 : decode cX8_ticksUntilLender 67 = .ok (.iload 4, 2) := by decide +kernel
theorem dX8_ticksUntilLender_69 : decode cX8_ticksUntilLender 69 = .ok (.iload 10, 2) := by decide +kernel
theorem dX8_ticksUntilLender_71 : decode cX8_ticksUntilLender 71 = .ok (.invokestatic 133, 3) := by decide +kernel
theorem dX8_ticksUntilLender_74 : decode cX8_ticksUntilLender 74 = .ok (.istore 4, 2) := by decide +kernel
theorem dX8_ticksUntilLender_76 : decode cX8_ticksUntilLender 76 = .ok (.iload 6, 2) := by decide +kernel
theorem dX8_ticksUntilLender_78 : decode cX8_ticksUntilLender 78 = .ok (.ifCond .eq 77, 3) := by decide +kernel
theorem dX8_ticksUntilLender_81 : decode cX8_ticksUntilLender 81 = .ok (.aload_n 0, 1) := by decide +kernel
theorem dX8_ticksUntilLender_82 : decode cX8_ticksUntilLender 82 = .ok (.getfield 24, 3) := by decide +kernel
theorem dX8_ticksUntilLender_85 : decode cX8_ticksUntilLender 85 = .ok (.getfield 136, 3) := by decide +kernel
theorem dX8_ticksUntilLender_88 : decode cX8_ticksUntilLender 88 = .ok (.iload 7, 2) := by decide +kernel
theorem dX8_ticksUntilLender_90 : decode cX8_ticksUntilLender 90 = .ok (.iaload, 1) := by decide +kernel
theorem dX8_ticksUntilLender_91 : decode cX8_ticksUntilLender 91 = .ok (.aload_n 0, 1) := by decide +kernel
theorem dX8_ticksUntilLender_92 : decode cX8_ticksUntilLender 92 = .ok (.getfield 24, 3) := by decide +kernel
theorem dX8_ticksUntilLender_95 : decode cX8_ticksUntilLender 95 = .ok (.getfield 139, 3) := by decide +kernel
theorem dX8_ticksUntilLender_98 : decode cX8_ticksUntilLender 98 = .ok (.iload 7, 2) := by decide +kernel
theorem dX8_ticksUntilLender_100 : decode cX8_ticksUntilLender 100 = .ok (.iaload, 1) := by decide +kernel
theorem dX8_ticksUntilLender_101 : decode cX8_ticksUntilLender 101 = .ok (.iadd, 1) := by decide +kernel
theorem dX8_ticksUntilLender_102 : decode cX8_ticksUntilLender 102 = .ok (.istore 11, 2) := by decide +kernel
theorem dX8_ticksUntilLender_104 : decode cX8_ticksUntilLender 104 = .ok (.iload_n 3, 1) := by decide +kernel
theorem dX8_ticksUntilLender_105 : decode cX8_ticksUntilLender 105 = .ok (.iload 11, 2) := by decide +kernel
theorem dX8_ticksUntilLender_107 : decode cX8_ticksUntilLender 107 = .ok (.aload_n 0, 1) := by decide +kernel
theorem dX8_ticksUntilLender_108 : decode cX8_ticksUntilLender 108 = .ok (.getfield 9, 3) := by decide +kernel
theorem dX8_ticksUntilLender_111 : decode cX8_ticksUntilLender 111 = .ok (.iload 7, 2) := by decide +kernel
theorem dX8_ticksUntilLender_113 : decode cX8_ticksUntilLender 113 = .ok (.iaload, 1) := by decide +kernel
theorem dX8_ticksUntilLender_114 : decode cX8_ticksUntilLender 114 = .ok (.iload 9, 2) := by decide +kernel
theorem dX8_ticksUntilLender_116 : decode cX8_ticksUntilLender 116 = .ok (.aload_n 1, 1) := by decide +kernel
theorem dX8_ticksUntilLender_117 : decode cX8_ticksUntilLender 117 = .ok (.getfield 142, 3) := by decide +kernel
theorem dX8_ticksUntilLender_120 : decode cX8_ticksUntilLender 120 = .ok (.iload 7, 2) := by decide +kernel
theorem dX8_ticksUntilLender_122 : decode cX8_ticksUntilLender 122 = .ok (.iaload, 1) := by decide +kernel
theorem dX8_ticksUntilLender_123 : decode cX8_ticksUntilLender 123 = .ok (.iadd, 1) := by decide +kernel
theorem dX8_ticksUntilLender_124 : decode cX8_ticksUntilLender 124 = .ok (.invokestatic 129, 3) := by decide +kernel
theorem dX8_ticksUntilLender_127 : decode cX8_ticksUntilLender 127 = .ok (.istore 12, 2) := by decide +kernel
theorem dX8_ticksUntilLender_129 : decode cX8_ticksUntilLender 129 = .ok (.iload 5, 2) := by decide +kernel
theorem dX8_ticksUntilLender_131 : decode cX8_ticksUntilLender 131 = .ok (.iload 12, 2) := by decide +kernel
theorem dX8_ticksUntilLender_133 : decode cX8_ticksUntilLender 133 = .ok (.invokestatic 95, 3) := by decide +kernel
theorem dX8_ticksUntilLender_136 : decode cX8_ticksUntilLender 136 = .ok (.istore 5, 2) := by decide +kernel
theorem dX8_ticksUntilLender_138 : decode cX8_ticksUntilLender 138 = .ok (.aload_n 1, 1) := by decide +kernel
theorem dX8_ticksUntilLender_139 : decode cX8_ticksUntilLender 139 = .ok (.getfield 145, 3) := by decide +kernel
theorem dX8_ticksUntilLender_142 : decode cX8_ticksUntilLender 142 = .ok (.iload 7, 2) := by decide +kernel
theorem dX8_ticksUntilLender_144 : decode cX8_ticksUntilLender 144 = .ok (.baload, 1) := by decide +kernel
theorem dX8_ticksUntilLender_145 : decode cX8_ticksUntilLender 145 = .ok (.ifCond .ne 7, 3) := by decide +kernel
theorem dX8_ticksUntilLender_148 : decode cX8_ticksUntilLender 148 = .ok (.iconst 1, 1) := by decide +kernel
theorem dX8_ticksUntilLender_149 : decode cX8_ticksUntilLender 149 = .ok (.goto 4, 3) := by decide +kernel
theorem dX8_ticksUntilLender_152 : decode cX8_ticksUntilLender 152 = .ok (.iconst 0, 1) := by decide +kernel
theorem dX8_ticksUntilLender_153 : decode cX8_ticksUntilLender 153 = .ok (.istore 6, 2) := by decide +kernel
theorem dX8_ticksUntilLender_155 : decode cX8_ticksUntilLender 155 = .ok (.aload_n 1, 1) := by decide +kernel
theorem dX8_ticksUntilLender_156 : decode cX8_ticksUntilLender 156 = .ok (.getfield 88, 3) := by decide +kernel
theorem dX8_ticksUntilLender_159 : decode cX8_ticksUntilLender 159 = .ok (.iload 7, 2) := by decide +kernel
theorem dX8_ticksUntilLender_161 : decode cX8_ticksUntilLender 161 = .ok (.iaload, 1) := by decide +kernel
theorem dX8_ticksUntilLender_162 : decode cX8_ticksUntilLender 162 = .ok (.istore 7, 2) := by decide +kernel
theorem dX8_ticksUntilLender_164 : decode cX8_ticksUntilLender 164 = .ok (.iinc 8 1, 3) := by decide +kernel
theorem dX8_ticksUntilLender_167 : decode cX8_ticksUntilLender 167 = .ok (.goto (-150), 3) := by decide +kernel
theorem dX8_ticksUntilLender_170 : decode cX8_ticksUntilLender 170 = .ok (.iload 4, 2) := by decide +kernel
theorem dX8_ticksUntilLender_172 : decode cX8_ticksUntilLender 172 = .ok (.iload 5, 2) := by decide +kernel
theorem dX8_ticksUntilLender_174 : decode cX8_ticksUntilLender 174 = .ok (.invokestatic 133, 3) := by decide +kernel
theorem dX8_ticksUntilLender_177 : decode cX8_ticksUntilLender 177 = .ok (.istore 8, 2) := by decide +kernel
theorem dX8_ticksUntilLender_179 : decode cX8_ticksUntilLender 179 = .ok (.iload 8, 2) := by decide +kernel
theorem dX8_ticksUntilLender_181 : decode cX8_ticksUntilLender 181 = .ok (.sipush 1000, 3) := by decide +kernel
theorem dX8_ticksUntilLender_184 : decode cX8_ticksUntilLender 184 = .ok (.if_icmp .gt 8, 3) := by decide +kernel
theorem dX8_ticksUntilLender_187 : decode cX8_ticksUntilLender 187 = .ok (.iload 8, 2) := by decide +kernel
theorem dX8_ticksUntilLender_189 : decode cX8_ticksUntilLender 189 = .ok (.goto 5, 3) := by decide +kernel
theorem dX8_ticksUntilLender_192 : decode cX8_ticksUntilLender 192 = .ok (.bipush (-2), 2) := by decide +kernel
theorem dX8_ticksUntilLender_194 : decode cX8_ticksUntilLender 194 = .ok (.ireturn, 1) := by decide +kernel
theorem dX8_ticksUntil_0 : decode cX8_ticksUntil 0 = .ok (.iload_n 1, 1) := by decide +kernel
theorem dX8_ticksUntil_1 : decode cX8_ticksUntil 1 = .ok (.iload_n 0, 1) := by decide +kernel
theorem dX8_ticksUntil_2 : decode cX8_ticksUntil 2 = .ok (.if_icmp .lt 5, 3) := by decide +kernel
theorem dX8_ticksUntil_5 : decode cX8_ticksUntil 5 = .ok (.iconst 0, 1) := by decide +kernel
theorem dX8_ticksUntil_6 : decode cX8_ticksUntil 6 = .ok (.ireturn, 1) := by decide +kernel
theorem dX8_ticksUntil_7 : decode cX8_ticksUntil 7 = .ok (.iload_n 2, 1) := by decide +kernel
theorem dX8_ticksUntil_8 : decode cX8_ticksUntil 8 = .ok (.iconst 1, 1) := by decide +kernel
theorem dX8_ticksUntil_9 : decode cX8_ticksUntil 9 = .ok (.if_icmp .lt 8, 3) := by decide +kernel
theorem dX8_ticksUntil_12 : decode cX8_ticksUntil 12 = .ok (.iload_n 3, 1) := by decide +kernel
theorem dX8_ticksUntil_13 : decode cX8_ticksUntil 13 = .ok (.iload_n 0, 1) := by decide +kernel
theorem dX8_ticksUntil_14 : decode cX8_ticksUntil 14 = .ok (.if_icmp .ge 7, 3) := by decide +kernel
theorem dX8_ticksUntil_17 : decode cX8_ticksUntil 17 = .ok (.sipush 1001, 3) := by decide +kernel
theorem dX8_ticksUntil_20 : decode cX8_ticksUntil 20 = .ok (.ireturn, 1) := by decide +kernel
theorem dX8_ticksUntil_21 : decode cX8_ticksUntil 21 = .ok (.iload_n 0, 1) := by decide +kernel
theorem dX8_ticksUntil_22 : decode cX8_ticksUntil 22 = .ok (.iload_n 1, 1) := by decide +kernel
theorem dX8_ticksUntil_23 : decode cX8_ticksUntil 23 = .ok (.isub, 1) := by decide +kernel
theorem dX8_ticksUntil_24 : decode cX8_ticksUntil 24 = .ok (.iload_n 2, 1) := by decide +kernel
theorem dX8_ticksUntil_25 : decode cX8_ticksUntil 25 = .ok (.iadd, 1) := by decide +kernel
theorem dX8_ticksUntil_26 : decode cX8_ticksUntil 26 = .ok (.iconst 1, 1) := by decide +kernel
theorem dX8_ticksUntil_27 : decode cX8_ticksUntil 27 = .ok (.isub, 1) := by decide +kernel
theorem dX8_ticksUntil_28 : decode cX8_ticksUntil 28 = .ok (.iload_n 2, 1) := by decide +kernel
theorem dX8_ticksUntil_29 : decode cX8_ticksUntil 29 = .ok (.idiv, 1) := by decide +kernel
theorem dX8_ticksUntil_30 : decode cX8_ticksUntil 30 = .ok (.ireturn, 1) := by decide +kernel
theorem dX8_makeTicks_0 : decode cX8_makeTicks 0 = .ok (.iconst 0, 1) := by decide +kernel
theorem dX8_makeTicks_1 : decode cX8_makeTicks 1 = .ok (.istore_n 3, 1) := by decide +kernel
theorem dX8_makeTicks_2 : decode cX8_makeTicks 2 = .ok (.iconst 0, 1) := by decide +kernel
theorem dX8_makeTicks_3 : decode cX8_makeTicks 3 = .ok (.istore 4, 2) := by decide +kernel
theorem dX8_makeTicks_5 : decode cX8_makeTicks 5 = .ok (.iload 4, 2) := by decide +kernel
theorem dX8_makeTicks_7 : decode cX8_makeTicks 7 = .ok (.iload_n 2, 1) := by decide +kernel
theorem dX8_makeTicks_8 : decode cX8_makeTicks 8 = .ok (.if_icmp .ge 17, 3) := by decide +kernel
theorem dX8_makeTicks_11 : decode cX8_makeTicks 11 = .ok (.iload_n 3, 1) := by decide +kernel
theorem dX8_makeTicks_12 : decode cX8_makeTicks 12 = .ok (.aload_n 0, 1) := by decide +kernel
theorem dX8_makeTicks_13 : decode cX8_makeTicks 13 = .ok (.aload_n 1, 1) := by decide +kernel
theorem dX8_makeTicks_14 : decode cX8_makeTicks 14 = .ok (.invokevirtual 149, 3) := by decide +kernel
theorem dX8_makeTicks_17 : decode cX8_makeTicks 17 = .ok (.iadd, 1) := by decide +kernel
theorem dX8_makeTicks_18 : decode cX8_makeTicks 18 = .ok (.istore_n 3, 1) := by decide +kernel
theorem dX8_makeTicks_19 : decode cX8_makeTicks 19 = .ok (.iinc 4 1, 3) := by decide +kernel
theorem dX8_makeTicks_22 : decode cX8_makeTicks 22 = .ok (.goto (-17), 3) := by decide +kernel
theorem dX8_makeTicks_25 : decode cX8_makeTicks 25 = .ok (.iload_n 3, 1) := by decide +kernel
theorem dX8_makeTicks_26 : decode cX8_makeTicks 26 = .ok (.ireturn, 1) := by decide +kernel
theorem dX8_makeTick_0 : decode cX8_makeTick 0 = .ok (.aload_n 0, 1) := by decide +kernel
theorem dX8_makeTick_1 : decode cX8_makeTick 1 = .ok (.dup, 1) := by decide +kernel
theorem dX8_makeTick_2 : decode cX8_makeTick 2 = .ok (.getfield 49, 3) := by decide +kernel
theorem dX8_makeTick_5 : decode cX8_makeTick 5 = .ok (.iconst 1, 1) := by decide +kernel
theorem dX8_makeTick_6 : decode cX8_makeTick 6 = .ok (.iadd, 1) := by decide +kernel
theorem dX8_makeTick_7 : decode cX8_makeTick 7 = .ok (.putfield 49, 3) := by decide +kernel
theorem dX8_makeTick_10 : decode cX8_makeTick 10 = .ok (.aload_n 0, 1) := by decide +kernel
theorem dX8_makeTick_11 : decode cX8_makeTick 11 = .ok (.aload_n 1, 1) := by decide +kernel
theorem dX8_makeTick_12 : decode cX8_makeTick 12 = .ok (.invokevirtual 153, 3) := by decide +kernel
theorem dX8_makeTick_15 : decode cX8_makeTick 15 = .ok (.iconst 0, 1) := by decide +kernel
theorem dX8_makeTick_16 : decode cX8_makeTick 16 = .ok (.istore_n 2, 1) := by decide +kernel
theorem dX8_makeTick_17 : decode cX8_makeTick 17 = .ok (.iload_n 2, 1) := by decide +kernel
theorem dX8_makeTick_18 : decode cX8_makeTick 18 = .ok (.aload_n 1, 1) := by decide +kernel
theorem dX8_makeTick_19 : decode cX8_makeTick 19 = .ok (.getfield 85, 3) := by decide +kernel
theorem dX8_makeTick_22 : decode cX8_makeTick 22 = .ok (.if_icmp .ge 30, 3) := by decide +kernel
theorem dX8_makeTick_25 : decode cX8_makeTick 25 = .ok (.aload_n 0, 1) := by decide +kernel
theorem dX8_makeTick_26 : decode cX8_makeTick 26 = .ok (.getfield 24, 3) := by decide +kernel
theorem dX8_makeTick_29 : decode cX8_makeTick 29 = .ok (.aload_n 1, 1) := by decide +kernel
theorem dX8_makeTick_30 : decode cX8_makeTick 30 = .ok (.iload_n 2, 1) := by decide +kernel
theorem dX8_makeTick_31 : decode cX8_makeTick 31 = .ok (.aload_n 0, 1) := by decide +kernel
theorem dX8_makeTick_32 : decode cX8_makeTick 32 = .ok (.getfield 9, 3) := by decide +kernel
theorem dX8_makeTick_35 : decode cX8_makeTick 35 = .ok (.iload_n 2, 1) := by decide +kernel
theorem dX8_makeTick_36 : decode cX8_makeTick 36 = .ok (.iaload, 1) := by decide +kernel
theorem dX8_makeTick_37 : decode cX8_makeTick 37 = .ok (.aload_n 0, 1) := by decide +kernel
theorem dX8_makeTick_38 : decode cX8_makeTick 38 = .ok (.getfield 15, 3) := by decide +kernel
theorem dX8_makeTick_41 : decode cX8_makeTick 41 = .ok (.iload_n 2, 1) := by decide +kernel
theorem dX8_makeTick_42 : decode cX8_makeTick 42 = .ok (.iaload, 1) := by decide +kernel
theorem dX8_makeTick_43 : decode cX8_makeTick 43 = .ok (.invokevirtual 156, 3) := by decide +kernel
theorem dX8_makeTick_46 : decode cX8_makeTick 46 = .ok (.iinc 2 1, 3) := by decide +kernel
theorem dX8_makeTick_49 : decode cX8_makeTick 49 = .ok (.goto (-32), 3) := by decide +kernel
theorem dX8_makeTick_52 : decode cX8_makeTick 52 = .ok (.aload_n 0, 1) := by decide +kernel
theorem dX8_makeTick_53 : decode cX8_makeTick 53 = .ok (.aload_n 1, 1) := by decide +kernel
theorem dX8_makeTick_54 : decode cX8_makeTick 54 = .ok (.invokevirtual 159, 3) := by decide +kernel
theorem dX8_makeTick_57 : decode cX8_makeTick 57 = .ok (.aload_n 0, 1) := by decide +kernel
theorem dX8_makeTick_58 : decode cX8_makeTick 58 = .ok (.aload_n 1, 1) := by decide +kernel
theorem dX8_makeTick_59 : decode cX8_makeTick 59 = .ok (.invokevirtual 162, 3) := by decide +kernel
theorem dX8_makeTick_62 : decode cX8_makeTick 62 = .ok (.ireturn, 1) := by decide +kernel
theorem dX8_makeChanges_0 : decode cX8_makeChanges 0 = .ok (.aload_n 1, 1) := by decide +kernel
theorem dX8_makeChanges_1 : decode cX8_makeChanges 1 = .ok (.getfield 165, 3) := by decide +kernel
theorem dX8_makeChanges_4 : decode cX8_makeChanges 4 = .ok (.astore_n 2, 1) := by decide +kernel
theorem dX8_makeChanges_5 : decode cX8_makeChanges 5 = .ok (.iconst 0, 1) := by decide +kernel
theorem dX8_makeChanges_6 : decode cX8_makeChanges 6 = .ok (.istore_n 3, 1) := by decide +kernel
theorem dX8_makeChanges_7 : decode cX8_makeChanges 7 = .ok (.iload_n 3, 1) := by decide +kernel
theorem dX8_makeChanges_8 : decode cX8_makeChanges 8 = .ok (.aload_n 2, 1) := by decide +kernel
theorem dX8_makeChanges_9 : decode cX8_makeChanges 9 = .ok (.getfield 169, 3) := by decide +kernel
theorem dX8_makeChanges_12 : decode cX8_makeChanges 12 = .ok (.if_icmp .ge 58, 3) := by decide +kernel
theorem dX8_makeChanges_15 : decode cX8_makeChanges 15 = .ok (.aload_n 2, 1) := by decide +kernel
theorem dX8_makeChanges_16 : decode cX8_makeChanges 16 = .ok (.getfield 172, 3) := by decide +kernel
theorem dX8_makeChanges_19 : decode cX8_makeChanges 19 = .ok (.iload_n 3, 1) := by decide +kernel
theorem dX8_makeChanges_20 : decode cX8_makeChanges 20 = .ok (.iaload, 1) := by decide +kernel
theorem dX8_makeChanges_21 : decode cX8_makeChanges 21 = .ok (.aload_n 0, 1) := by decide +kernel
theorem dX8_makeChanges_22 : decode cX8_makeChanges 22 = .ok (.getfield 49, 3) := by decide +kernel
theorem dX8_makeChanges_25 : decode cX8_makeChanges 25 = .ok (.if_icmp .ne 39, 3) := by decide +kernel
theorem dX8_makeChanges_28 : decode cX8_makeChanges 28 = .ok (.aload_n 1, 1) := by decide +kernel
theorem dX8_makeChanges_29 : decode cX8_makeChanges 29 = .ok (.aload_n 2, 1) := by decide +kernel
theorem dX8_makeChanges_30 : decode cX8_makeChanges 30 = .ok (.getfield 174, 3) := by decide +kernel
theorem dX8_makeChanges_33 : decode cX8_makeChanges 33 = .ok (.iload_n 3, 1) := by decide +kernel
theorem dX8_makeChanges_34 : decode cX8_makeChanges 34 = .ok (.iaload, 1) := by decide +kernel
theorem dX8_makeChanges_35 : decode cX8_makeChanges 35 = .ok (.invokevirtual 91, 3) := by decide +kernel
theorem dX8_makeChanges_38 : decode cX8_makeChanges 38 = .ok (.ifCond .eq 26, 3) := by decide +kernel
theorem dX8_makeChanges_41 : decode cX8_makeChanges 41 = .ok (.aload_n 0, 1) := by decide +kernel
theorem dX8_makeChanges_42 : decode cX8_makeChanges 42 = .ok (.aload_n 2, 1) := by decide +kernel
theorem dX8_makeChanges_43 : decode cX8_makeChanges 43 = .ok (.getfield 177, 3) := by decide +kernel
theorem dX8_makeChanges_46 : decode cX8_makeChanges 46 = .ok (.iload_n 3, 1) := by decide +kernel
theorem dX8_makeChanges_47 : decode cX8_makeChanges 47 = .ok (.iaload, 1) := by decide +kernel
theorem dX8_makeChanges_48 : decode cX8_makeChanges 48 = .ok (.invokevirtual 180, 3) := by decide +kernel
theorem dX8_makeChanges_51 : decode cX8_makeChanges 51 = .ok (.aload_n 2, 1) := by decide +kernel
theorem dX8_makeChanges_52 : decode cX8_makeChanges 52 = .ok (.getfield 174, 3) := by decide +kernel
theorem dX8_makeChanges_55 : decode cX8_makeChanges 55 = .ok (.iload_n 3, 1) := by decide +kernel
theorem dX8_makeChanges_56 : decode cX8_makeChanges 56 = .ok (.iaload, 1) := by decide +kernel
theorem dX8_makeChanges_57 : decode cX8_makeChanges 57 = .ok (.aload_n 2, 1) := by decide +kernel
theorem dX8_makeChanges_58 : decode cX8_makeChanges 58 = .ok (.getfield 184, 3) := by decide +kernel
theorem dX8_makeChanges_61 : decode cX8_makeChanges 61 = .ok (.iload_n 3, 1) := by decide +kernel
theorem dX8_makeChanges_62 : decode cX8_makeChanges 62 = .ok (.iaload, 1) := by decide +kernel
theorem dX8_makeChanges_63 : decode cX8_makeChanges 63 = .ok (.iastore, 1) := by decide +kernel
theorem dX8_makeChanges_64 : decode cX8_makeChanges 64 = .ok (.iinc 3 1, 3) := by decide +kernel
theorem dX8_makeChanges_67 : decode cX8_makeChanges 67 = .ok (.goto (-60), 3) := by decide +kernel
theorem dX8_makeChanges_70 : decode cX8_makeChanges 70 = .ok (.return_, 1) := by decide +kernel
theorem dX8_dropOld_0 : decode cX8_dropOld 0 = .ok (.aload_n 1, 1) := by decide +kernel
theorem dX8_dropOld_1 : decode cX8_dropOld 1 = .ok (.getfield 187, 3) := by decide +kernel
theorem dX8_dropOld_4 : decode cX8_dropOld 4 = .ok (.iconst (-1), 1) := by decide +kernel
theorem dX8_dropOld_5 : decode cX8_dropOld 5 = .ok (.if_icmp .ne 4, 3) := by decide +kernel
theorem dX8_dropOld_8 : decode cX8_dropOld 8 = .ok (.return_, 1) := by decide +kernel
theorem dX8_dropOld_9 : decode cX8_dropOld 9 = .ok (.iconst 0, 1) := by decide +kernel
theorem dX8_dropOld_10 : decode cX8_dropOld 10 = .ok (.istore_n 2, 1) := by decide +kernel
theorem dX8_dropOld_11 : decode cX8_dropOld 11 = .ok (.iload_n 2, 1) := by decide +kernel
theorem dX8_dropOld_12 : decode cX8_dropOld 12 = .ok (.aload_n 1, 1) := by decide +kernel
theorem dX8_dropOld_13 : decode cX8_dropOld 13 = .ok (.getfield 85, 3) := by decide +kernel
theorem dX8_dropOld_16 : decode cX8_dropOld 16 = .ok (.if_icmp .ge 56, 3) := by decide +kernel
theorem dX8_dropOld_19 : decode cX8_dropOld 19 = .ok (.iconst 0, 1) := by decide +kernel
theorem dX8_dropOld_20 : decode cX8_dropOld 20 = .ok (.istore_n 3, 1) := by decide +kernel
theorem dX8_dropOld_21 : decode cX8_dropOld 21 = .ok (.iload_n 3, 1) := by decide +kernel
theorem dX8_dropOld_22 : decode cX8_dropOld 22 = .ok (.bipush 16, 2) := by decide +kernel
theorem dX8_dropOld_24 : decode cX8_dropOld 24 = .ok (.if_icmp .ge 42, 3) := by decide +kernel
theorem dX8_dropOld_27 : decode cX8_dropOld 27 = .ok (.aload_n 0, 1) := by decide +kernel
theorem dX8_dropOld_28 : decode cX8_dropOld 28 = .ok (.iload_n 2, 1) := by decide +kernel
theorem dX8_dropOld_29 : decode cX8_dropOld 29 = .ok (.aload_n 1, 1) := by decide +kernel
theorem dX8_dropOld_30 : decode cX8_dropOld 30 = .ok (.getfield 187, 3) := by decide +kernel
theorem dX8_dropOld_33 : decode cX8_dropOld 33 = .ok (.invokevirtual 190, 3) := by decide +kernel
theorem dX8_dropOld_36 : decode cX8_dropOld 36 = .ok (.ifCond .eq 30, 3) := by decide +kernel
theorem dX8_dropOld_39 : decode cX8_dropOld 39 = .ok (.aload_n 0, 1) := by decide +kernel
theorem dX8_dropOld_40 : decode cX8_dropOld 40 = .ok (.getfield 31, 3) := by decide +kernel
theorem dX8_dropOld_43 : decode cX8_dropOld 43 = .ok (.iload_n 2, 1) := by decide +kernel
theorem dX8_dropOld_44 : decode cX8_dropOld 44 = .ok (.invokevirtual 194, 3) := by decide +kernel
theorem dX8_dropOld_47 : decode cX8_dropOld 47 = .ok (.aload_n 0, 1) := by decide +kernel
theorem dX8_dropOld_48 : decode cX8_dropOld 48 = .ok (.getfield 38, 3) := by decide +kernel
theorem dX8_dropOld_51 : decode cX8_dropOld 51 = .ok (.getfield 116, 3) := by decide +kernel
theorem dX8_dropOld_54 : decode cX8_dropOld 54 = .ok (.iload_n 2, 1) := by decide +kernel
theorem dX8_dropOld_55 : decode cX8_dropOld 55 = .ok (.dup2, 1) := by decide +kernel
theorem dX8_dropOld_56 : decode cX8_dropOld 56 = .ok (.iaload, 1) := by decide +kernel
theorem dX8_dropOld_57 : decode cX8_dropOld 57 = .ok (.iconst 1, 1) := by decide +kernel
theorem dX8_dropOld_58 : decode cX8_dropOld 58 = .ok (.iadd, 1) := by decide +kernel
theorem dX8_dropOld_59 : decode cX8_dropOld 59 = .ok (.iastore, 1) := by decide +kernel
theorem dX8_dropOld_60 : decode cX8_dropOld 60 = .ok (.iinc 3 1, 3) := by decide +kernel
theorem dX8_dropOld_63 : decode cX8_dropOld 63 = .ok (.goto (-42), 3) := by decide +kernel
theorem dX8_dropOld_66 : decode cX8_dropOld 66 = .ok (.iinc 2 1, 3) := by decide +kernel
theorem dX8_dropOld_69 : decode cX8_dropOld 69 = .ok (.goto (-58), 3) := by decide +kernel
theorem dX8_dropOld_72 : decode cX8_dropOld 72 = .ok (.return_, 1) := by decide +kernel
theorem dX8_isFrontOld_0 : decode cX8_isFrontOld 0 = .ok (.aload_n 0, 1) := by decide +kernel
theorem dX8_isFrontOld_1 : decode cX8_isFrontOld 1 = .ok (.getfield 31, 3) := by decide +kernel
theorem dX8_isFrontOld_4 : decode cX8_isFrontOld 4 = .ok (.getfield 198, 3) := by decide +kernel
theorem dX8_isFrontOld_7 : decode cX8_isFrontOld 7 = .ok (.iload_n 1, 1) := by decide +kernel
theorem dX8_isFrontOld_8 : decode cX8_isFrontOld 8 = .ok (.iaload, 1) := by decide +kernel
theorem dX8_isFrontOld_9 : decode cX8_isFrontOld 9 = .ok (.ifCond .le 28, 3) := by decide +kernel
theorem dX8_isFrontOld_12 : decode cX8_isFrontOld 12 = .ok (.aload_n 0, 1) := by decide +kernel
theorem dX8_isFrontOld_13 : decode cX8_isFrontOld 13 = .ok (.getfield 49, 3) := by decide +kernel
theorem dX8_isFrontOld_16 : decode cX8_isFrontOld 16 = .ok (.aload_n 0, 1) := by decide +kernel
theorem dX8_isFrontOld_17 : decode cX8_isFrontOld 17 = .ok (.getfield 31, 3) := by decide +kernel
theorem dX8_isFrontOld_20 : decode cX8_isFrontOld 20 = .ok (.getfield 201, 3) := by decide +kernel
theorem dX8_isFrontOld_23 : decode cX8_isFrontOld 23 = .ok (.iload_n 1, 1) := by decide +kernel
theorem dX8_isFrontOld_24 : decode cX8_isFrontOld 24 = .ok (.bipush 16, 2) := by decide +kernel
theorem dX8_isFrontOld_26 : decode cX8_isFrontOld 26 = .ok (.imul, 1) := by decide +kernel
theorem dX8_isFrontOld_27 : decode cX8_isFrontOld 27 = .ok (.iaload, 1) := by decide +kernel
theorem dX8_isFrontOld_28 : decode cX8_isFrontOld 28 = .ok (.isub, 1) := by decide +kernel
theorem dX8_isFrontOld_29 : decode cX8_isFrontOld 29 = .ok (.iload_n 2, 1) := by decide +kernel
theorem dX8_isFrontOld_30 : decode cX8_isFrontOld 30 = .ok (.if_icmp .le 7, 3) := by decide +kernel
theorem dX8_isFrontOld_33 : decode cX8_isFrontOld 33 = .ok (.iconst 1, 1) := by decide +kernel
theorem dX8_isFrontOld_34 : decode cX8_isFrontOld 34 = .ok (.goto 4, 3) := by decide +kernel
theorem dX8_isFrontOld_37 : decode cX8_isFrontOld 37 = .ok (.iconst 0, 1) := by decide +kernel
theorem dX8_isFrontOld_38 : decode cX8_isFrontOld 38 = .ok (.ireturn, 1) := by decide +kernel
theorem dX8_dispatch_0 : decode cX8_dispatch 0 = .ok (.iconst 0, 1) := by decide +kernel
theorem dX8_dispatch_1 : decode cX8_dispatch 1 = .ok (.istore_n 2, 1) := by decide +kernel
theorem dX8_dispatch_2 : decode cX8_dispatch 2 = .ok (.iload_n 2, 1) := by decide +kernel
theorem dX8_dispatch_3 : decode cX8_dispatch 3 = .ok (.aload_n 1, 1) := by decide +kernel
theorem dX8_dispatch_4 : decode cX8_dispatch 4 = .ok (.getfield 204, 3) := by decide +kernel
theorem dX8_dispatch_7 : decode cX8_dispatch 7 = .ok (.if_icmp .ge 64, 3) := by decide +kernel
theorem dX8_dispatch_10 : decode cX8_dispatch 10 = .ok (.aload_n 0, 1) := by decide +kernel
theorem dX8_dispatch_11 : decode cX8_dispatch 11 = .ok (.aload_n 1, 1) := by decide +kernel
theorem dX8_dispatch_12 : decode cX8_dispatch 12 = .ok (.invokevirtual 207, 3) := by decide +kernel
theorem dX8_dispatch_15 : decode cX8_dispatch 15 = .ok (.istore_n 3, 1) := by decide +kernel
theorem dX8_dispatch_16 : decode cX8_dispatch 16 = .ok (.iload_n 3, 1) := by decide +kernel
theorem dX8_dispatch_17 : decode cX8_dispatch 17 = .ok (.bipush (-2), 2) := by decide +kernel
theorem dX8_dispatch_19 : decode cX8_dispatch 19 = .ok (.if_icmp .ne 5, 3) := by decide +kernel
theorem dX8_dispatch_22 : decode cX8_dispatch 22 = .ok (.iload_n 2, 1) := by decide +kernel
theorem dX8_dispatch_23 : decode cX8_dispatch 23 = .ok (.ireturn, 1) := by decide +kernel
theorem dX8_dispatch_24 : decode cX8_dispatch 24 = .ok (.aload_n 0, 1) := by decide +kernel
theorem dX8_dispatch_25 : decode cX8_dispatch 25 = .ok (.getfield 31, 3) := by decide +kernel
theorem dX8_dispatch_28 : decode cX8_dispatch 28 = .ok (.getfield 210, 3) := by decide +kernel
theorem dX8_dispatch_31 : decode cX8_dispatch 31 = .ok (.iload_n 3, 1) := by decide +kernel
theorem dX8_dispatch_32 : decode cX8_dispatch 32 = .ok (.bipush 16, 2) := by decide +kernel
theorem dX8_dispatch_34 : decode cX8_dispatch 34 = .ok (.imul, 1) := by decide +kernel
theorem dX8_dispatch_35 : decode cX8_dispatch 35 = .ok (.iaload, 1) := by decide +kernel
theorem dX8_dispatch_36 : decode cX8_dispatch 36 = .ok (.istore 4, 2) := by decide +kernel
theorem dX8_dispatch_38 : decode cX8_dispatch 38 = .ok (.aload_n 0, 1) := by decide +kernel
theorem dX8_dispatch_39 : decode cX8_dispatch 39 = .ok (.aload_n 1, 1) := by decide +kernel
theorem dX8_dispatch_40 : decode cX8_dispatch 40 = .ok (.iload_n 3, 1) := by decide +kernel
theorem dX8_dispatch_41 : decode cX8_dispatch 41 = .ok (.aload_n 0, 1) := by decide +kernel
theorem dX8_dispatch_42 : decode cX8_dispatch 42 = .ok (.getfield 24, 3) := by decide +kernel
theorem dX8_dispatch_45 : decode cX8_dispatch 45 = .ok (.aload_n 1, 1) := by decide +kernel
theorem dX8_dispatch_46 : decode cX8_dispatch 46 = .ok (.iload_n 3, 1) := by decide +kernel
theorem dX8_dispatch_47 : decode cX8_dispatch 47 = .ok (.iload 4, 2) := by decide +kernel
theorem dX8_dispatch_49 : decode cX8_dispatch 49 = .ok (.invokevirtual 213, 3) := by decide +kernel
theorem dX8_dispatch_52 : decode cX8_dispatch 52 = .ok (.iload 4, 2) := by decide +kernel
theorem dX8_dispatch_54 : decode cX8_dispatch 54 = .ok (.invokevirtual 217, 3) := by decide +kernel
theorem dX8_dispatch_57 : decode cX8_dispatch 57 = .ok (.aload_n 0, 1) := by decide +kernel
theorem dX8_dispatch_58 : decode cX8_dispatch 58 = .ok (.getfield 31, 3) := by decide +kernel
theorem dX8_dispatch_61 : decode cX8_dispatch 61 = .ok (.iload_n 3, 1) := by decide +kernel
theorem dX8_dispatch_62 : decode cX8_dispatch 62 = .ok (.invokevirtual 194, 3) := by decide +kernel
theorem dX8_dispatch_65 : decode cX8_dispatch 65 = .ok (.iinc 2 1, 3) := by decide +kernel
theorem dX8_dispatch_68 : decode cX8_dispatch 68 = .ok (.goto (-66), 3) := by decide +kernel
theorem dX8_dispatch_71 : decode cX8_dispatch 71 = .ok (.aload_n 1, 1) := by decide +kernel
theorem dX8_dispatch_72 : decode cX8_dispatch 72 = .ok (.getfield 204, 3) := by decide +kernel
theorem dX8_dispatch_75 : decode cX8_dispatch 75 = .ok (.ireturn, 1) := by decide +kernel
theorem dX8_chooseLeaf_0 : decode cX8_chooseLeaf 0 = .ok (.bipush (-2), 2) := by decide +kernel
theorem dX8_chooseLeaf_2 : decode cX8_chooseLeaf 2 = .ok (.istore_n 2, 1) := by decide +kernel
theorem dX8_chooseLeaf_3 : decode cX8_chooseLeaf 3 = .ok (.bipush (-2), 2) := by decide +kernel
theorem dX8_chooseLeaf_5 : decode cX8_chooseLeaf 5 = .ok (.istore_n 3, 1) := by decide +kernel
theorem dX8_chooseLeaf_6 : decode cX8_chooseLeaf 6 = .ok (.iconst 0, 1) := by decide +kernel
theorem dX8_chooseLeaf_7 : decode cX8_chooseLeaf 7 = .ok (.istore 4, 2) := by decide +kernel
theorem dX8_chooseLeaf_9 : decode cX8_chooseLeaf 9 = .ok (.iload 4, 2) := by decide +kernel
theorem dX8_chooseLeaf_11 : decode cX8_chooseLeaf 11 = .ok (.aload_n 1, 1) := by decide +kernel
theorem dX8_chooseLeaf_12 : decode cX8_chooseLeaf 12 = .ok (.getfield 85, 3) := by decide +kernel
theorem dX8_chooseLeaf_15 : decode cX8_chooseLeaf 15 = .ok (.if_icmp .ge 72, 3) := by decide +kernel
theorem dX8_chooseLeaf_18 : decode cX8_chooseLeaf 18 = .ok (.aload_n 0, 1) := by decide +kernel
theorem dX8_chooseLeaf_19 : decode cX8_chooseLeaf 19 = .ok (.aload_n 1, 1) := by decide +kernel
theorem dX8_chooseLeaf_20 : decode cX8_chooseLeaf 20 = .ok (.iload 4, 2) := by decide +kernel
theorem dX8_chooseLeaf_22 : decode cX8_chooseLeaf 22 = .ok (.invokevirtual 220, 3) := by decide +kernel
theorem dX8_chooseLeaf_25 : decode cX8_chooseLeaf 25 = .ok (.istore 5, 2) := by decide +kernel
theorem dX8_chooseLeaf_27 : decode cX8_chooseLeaf 27 = .ok (.iload_n 2, 1) := by decide +kernel
theorem dX8_chooseLeaf_28 : decode cX8_chooseLeaf 28 = .ok (.bipush (-2), 2) := by decide +kernel
theorem dX8_chooseLeaf_30 : decode cX8_chooseLeaf 30 = .ok (.if_icmp .eq 9, 3) := by decide +kernel
theorem dX8_chooseLeaf_33 : decode cX8_chooseLeaf 33 = .ok (.iload 5, 2) := by decide +kernel
theorem dX8_chooseLeaf_35 : decode cX8_chooseLeaf 35 = .ok (.iload_n 3, 1) := by decide +kernel
theorem dX8_chooseLeaf_36 : decode cX8_chooseLeaf 36 = .ok (.if_icmp .ge 7, 3) := by decide +kernel
theorem dX8_chooseLeaf_39 : decode cX8_chooseLeaf 39 = .ok (.iconst 1, 1) := by decide +kernel
theorem dX8_chooseLeaf_40 : decode cX8_chooseLeaf 40 = .ok (.goto 4, 3) := by decide +kernel
theorem dX8_chooseLeaf_43 : decode cX8_chooseLeaf 43 = .ok (.iconst 0, 1) := by decide +kernel
theorem dX8_chooseLeaf_44 : decode cX8_chooseLeaf 44 = .ok (.istore 6, 2) := by decide +kernel
theorem dX8_chooseLeaf_46 : decode cX8_chooseLeaf 46 = .ok (.iload 5, 2) := by decide +kernel
theorem dX8_chooseLeaf_48 : decode cX8_chooseLeaf 48 = .ok (.bipush (-2), 2) := by decide +kernel
theorem dX8_chooseLeaf_50 : decode cX8_chooseLeaf 50 = .ok (.if_icmp .eq 31, 3) := by decide +kernel
theorem dX8_chooseLeaf_53 : decode cX8_chooseLeaf 53 = .ok (.iload 6, 2) := by decide +kernel
theorem dX8_chooseLeaf_55 : decode cX8_chooseLeaf 55 = .ok (.ifCond .ne 20, 3) := by decide +kernel
theorem dX8_chooseLeaf_58 : decode cX8_chooseLeaf 58 = .ok (.iload 5, 2) := by decide +kernel
theorem dX8_chooseLeaf_60 : decode cX8_chooseLeaf 60 = .ok (.iload_n 3, 1) := by decide +kernel
theorem dX8_chooseLeaf_61 : decode cX8_chooseLeaf 61 = .ok (.if_icmp .ne 20, 3) := by decide +kernel
theorem dX8_chooseLeaf_64 : decode cX8_chooseLeaf 64 = .ok (.aload_n 0, 1) := by decide +kernel
theorem dX8_chooseLeaf_65 : decode cX8_chooseLeaf 65 = .ok (.aload_n 1, 1) := by decide +kernel
theorem dX8_chooseLeaf_66 : decode cX8_chooseLeaf 66 = .ok (.iload 4, 2) := by decide +kernel
theorem dX8_chooseLeaf_68 : decode cX8_chooseLeaf 68 = .ok (.iload_n 2, 1) := by decide +kernel
theorem dX8_chooseLeaf_69 : decode cX8_chooseLeaf 69 = .ok (.invokevirtual 224, 3) := by decide +kernel
theorem dX8_chooseLeaf_72 : decode cX8_chooseLeaf 72 = .ok (.ifCond .eq 9, 3) := by decide +kernel
theorem dX8_chooseLeaf_75 : decode cX8_chooseLeaf 75 = .ok (.iload 4, 2) := by decide +kernel
theorem dX8_chooseLeaf_77 : decode cX8_chooseLeaf 77 = .ok (.istore_n 2, 1) := by decide +kernel
theorem dX8_chooseLeaf_78 : decode cX8_chooseLeaf 78 = .ok (.iload 5, 2) := by decide +kernel
theorem dX8_chooseLeaf_80 : decode cX8_chooseLeaf 80 = .ok (.istore_n 3, 1) := by decide +kernel
theorem dX8_chooseLeaf_81 : decode cX8_chooseLeaf 81 = .ok (.iinc 4 1, 3) := by decide +kernel
theorem dX8_chooseLeaf_84 : decode cX8_chooseLeaf 84 = .ok (.goto (-75), 3) := by decide +kernel
theorem dX8_chooseLeaf_87 : decode cX8_chooseLeaf 87 = .ok (.iload_n 2, 1) := by decide +kernel
theorem dX8_chooseLeaf_88 : decode cX8_chooseLeaf 88 = .ok (.ireturn, 1) := by decide +kernel
theorem dX8_frontDistance_0 : decode cX8_frontDistance 0 = .ok (.aload_n 0, 1) := by decide +kernel
theorem dX8_frontDistance_1 : decode cX8_frontDistance 1 = .ok (.getfield 31, 3) := by decide +kernel
theorem dX8_frontDistance_4 : decode cX8_frontDistance 4 = .ok (.getfield 198, 3) := by decide +kernel
theorem dX8_frontDistance_7 : decode cX8_frontDistance 7 = .ok (.iload_n 2, 1) := by decide +kernel
theorem dX8_frontDistance_8 : decode cX8_frontDistance 8 = .ok (.iaload, 1) := by decide +kernel
theorem dX8_frontDistance_9 : decode cX8_frontDistance 9 = .ok (.ifCond .ne 6, 3) := by decide +kernel
theorem dX8_frontDistance_12 : decode cX8_frontDistance 12 = .ok (.bipush (-2), 2) := by decide +kernel
theorem dX8_frontDistance_14 : decode cX8_frontDistance 14 = .ok (.ireturn, 1) := by decide +kernel
theorem dX8_frontDistance_15 : decode cX8_frontDistance 15 = .ok (.aload_n 1, 1) := by decide +kernel
theorem dX8_frontDistance_16 : decode cX8_frontDistance 16 = .ok (.iload_n 2, 1) := by decide +kernel
theorem dX8_frontDistance_17 : decode cX8_frontDistance 17 = .ok (.aload_n 0, 1) := by decide +kernel
theorem dX8_frontDistance_18 : decode cX8_frontDistance 18 = .ok (.getfield 24, 3) := by decide +kernel
theorem dX8_frontDistance_21 : decode cX8_frontDistance 21 = .ok (.aload_n 1, 1) := by decide +kernel
theorem dX8_frontDistance_22 : decode cX8_frontDistance 22 = .ok (.iload_n 2, 1) := by decide +kernel
theorem dX8_frontDistance_23 : decode cX8_frontDistance 23 = .ok (.aload_n 0, 1) := by decide +kernel
theorem dX8_frontDistance_24 : decode cX8_frontDistance 24 = .ok (.getfield 31, 3) := by decide +kernel
theorem dX8_frontDistance_27 : decode cX8_frontDistance 27 = .ok (.getfield 210, 3) := by decide +kernel
