theorem dX8_dropOld_29 : decode cX8_dropOld 29 = .ok (.aload_n 1, 1) := by decide +kernel
theorem dX8_dropOld_30 : decode cX8_dropOld 30 = .ok (.getfield 187, 3) := by decide +kernel
theorem dX8_dropOld_33 : decode cX8_dropOld 33 = .ok (.invokevirtual 190, 3) := by decide +kernel
theorem dX8_dropOld_36 : decode cX8_dropOld 36 = .ok (.ifCond .eq 30, 3) := by decide +kernel
theorem dX8_dropOld_39 : decode cX8_dropOld 39 = .ok (.aload_n 0, 1) := by decide +kernel
theorem dX8_dropOld_40 : decode cX8_dropOld 40 = .ok (.getfield 31, 3) := by decide +kernel
theorem dX8_dropOld_43 : decode cX8_dropOld 43 = .ok (.iload_n 2, 1) := by decide +kernel
theorem dX8_dropOld_44 : decode cX8_dropOld 44 = .ok (.invokevirtual 194, 3) := by decide +kernel
theorem dX8_dropOld_47 : decode cX8_dropOld 47 = .ok (.aload_n 0, 1) := by decide +kernel
theorem dX8_dropOld_48 : decode cX8_dropOld 48 = .ok (.getfield 38, 3) := by decide +kernel
theorem dX8_dropOld_51 : decode cX8_dropOld 51 = .ok (.getfield 116, 3) := by decide +kernel
theorem dX8_dropOld_54 : decode cX8_dropOld 54 = .ok (.iload_n 2, 1) := by decide +kernel
theorem dX8_dropOld_55 : decode cX8_dropOld 55 = .ok (.dup2, 1) := by decide +kernel
theorem dX8_dropOld_56 : decode cX8_dropOld 56 = .ok (.iaload, 1) := by decide +kernel
theorem dX8_dropOld_57 : decode cX8_dropOld 57 = .ok (.iconst 1, 1) := by decide +kernel
theorem dX8_dropOld_58 : decode cX8_dropOld 58 = .ok (.iadd, 1) := by decide +kernel
theorem dX8_dropOld_59 : decode cX8_dropOld 59 = .ok (.iastore, 1) := by decide +kernel
theorem dX8_dropOld_60 : decode cX8_dropOld 60 = .ok (.iinc 3 1, 3) := by decide +kernel
theorem dX8_dropOld_63 : decode cX8_dropOld 63 = .ok (.goto (-42), 3) := by decide +kernel
theorem dX8_dropOld_66 : decode cX8_dropOld 66 = .ok (.iinc 2 1, 3) := by decide +kernel
theorem dX8_dropOld_69 : decode cX8_dropOld 69 = .ok (.goto (-58), 3) := by decide +kernel
theorem dX8_dropOld_72 : decode cX8_dropOld 72 = .ok (.return_, 1) := by decide +kernel
theorem dX8_isFrontOld_0 : decode cX8_isFrontOld 0 = .ok (.aload_n 0, 1) := by decide +kernel
theorem dX8_isFrontOld_1 : decode cX8_isFrontOld 1 = .ok (.getfield 31, 3) := by decide +kernel
theorem dX8_isFrontOld_4 : decode cX8_isFrontOld 4 = .ok (.getfield 198, 3) := by decide +kernel
theorem dX8_isFrontOld_7 : decode cX8_isFrontOld 7 = .ok (.iload_n 1, 1) := by decide +kernel
theorem dX8_isFrontOld_8 : decode cX8_isFrontOld 8 = .ok (.iaload, 1) := by decide +kernel
theorem dX8_isFrontOld_9 : decode cX8_isFrontOld 9 = .ok (.ifCond .le 28, 3) := by decide +kernel
theorem dX8_isFrontOld_12 : decode cX8_isFrontOld 12 = .ok (.aload_n 0, 1) := by decide +kernel
theorem dX8_isFrontOld_13 : decode cX8_isFrontOld 13 = .ok (.getfield 49, 3) := by decide +kernel
theorem dX8_isFrontOld_16 : decode cX8_isFrontOld 16 = .ok (.aload_n 0, 1) := by decide +kernel
theorem dX8_isFrontOld_17 : decode cX8_isFrontOld 17 = .ok (.getfield 31, 3) := by decide +kernel
theorem dX8_isFrontOld_20 : decode cX8_isFrontOld 20 = .ok (.getfield 201, 3) := by decide +kernel
theorem dX8_isFrontOld_23 : decode cX8_isFrontOld 23 = .ok (.iload_n 1, 1) := by decide +kernel
theorem dX8_isFrontOld_24 : decode cX8_isFrontOld 24 = .ok (.bipush 16, 2) := by decide +kernel
theorem dX8_isFrontOld_26 : decode cX8_isFrontOld 26 = .ok (.imul, 1) := by decide +kernel
theorem dX8_isFrontOld_27 : decode cX8_isFrontOld 27 = .ok (.iaload, 1) := by decide +kernel
theorem dX8_isFrontOld_28 : decode cX8_isFrontOld 28 = .ok (.isub, 1) := by decide +kernel
theorem dX8_isFrontOld_29 : decode cX8_isFrontOld 29 = .ok (.iload_n 2, 1) := by decide +kernel
theorem dX8_isFrontOld_30 : decode cX8_isFrontOld 30 = .ok (.if_icmp .le 7, 3) := by decide +kernel
theorem dX8_isFrontOld_33 : decode cX8_isFrontOld 33 = .ok (.iconst 1, 1) := by decide +kernel
theorem dX8_isFrontOld_34 : decode cX8_isFrontOld 34 = .ok (.goto 4, 3) := by decide +kernel
theorem dX8_isFrontOld_37 : decode cX8_isFrontOld 37 = .ok (.iconst 0, 1) := by decide +kernel
theorem dX8_isFrontOld_38 : decode cX8_isFrontOld 38 = .ok (.ireturn, 1) := by decide +kernel
theorem dX8_dispatch_0 : decode cX8_dispatch 0 = .ok (.iconst 0, 1) := by decide +kernel
theorem dX8_dispatch_1 : decode cX8_dispatch 1 = .ok (.istore_n 2, 1) := by decide +kernel
theorem dX8_dispatch_2 : decode cX8_dispatch 2 = .ok (.iload_n 2, 1) := by decide +kernel
theorem dX8_dispatch_3 : decode cX8_dispatch 3 = .ok (.aload_n 1, 1) := by decide +kernel
theorem dX8_dispatch_4 : decode cX8_dispatch 4 = .ok (.getfield 204, 3) := by decide +kernel
theorem dX8_dispatch_7 : decode cX8_dispatch 7 = .ok (.if_icmp .ge 64, 3) := by decide +kernel
theorem dX8_dispatch_10 : decode cX8_dispatch 10 = .ok (.aload_n 0, 1) := by decide +kernel
theorem dX8_dispatch_11 : decode cX8_dispatch 11 = .ok (.aload_n 1, 1) := by decide +kernel
theorem dX8_dispatch_12 : decode cX8_dispatch 12 = .ok (.invokevirtual 207, 3) := by decide +kernel
theorem dX8_dispatch_15 : decode cX8_dispatch 15 = .ok (.istore_n 3, 1) := by decide +kernel
theorem dX8_dispatch_16 : decode cX8_dispatch 16 = .ok (.iload_n 3, 1) := by decide +kernel
theorem dX8_dispatch_17 : decode cX8_dispatch 17 = .ok (.bipush (-2), 2) := by decide +kernel
theorem dX8_dispatch_19 : decode cX8_dispatch 19 = .ok (.if_icmp .ne 5, 3) := by decide +kernel
theorem dX8_dispatch_22 : decode cX8_dispatch 22 = .ok (.iload_n 2, 1) := by decide +kernel
theorem dX8_dispatch_23 : decode cX8_dispatch 23 = .ok (.ireturn, 1) := by decide +kernel
theorem dX8_dispatch_24 : decode cX8_dispatch 24 = .ok (.aload_n 0, 1) := by decide +kernel
theorem dX8_dispatch_25 : decode cX8_dispatch 25 = .ok (.getfield 31, 3) := by decide +kernel
theorem dX8_dispatch_28 : decode cX8_dispatch 28 = .ok (.getfield 210, 3) := by decide +kernel
theorem dX8_dispatch_31 : decode cX8_dispatch 31 = .ok (.iload_n 3, 1) := by decide +kernel
theorem dX8_dispatch_32 : decode cX8_dispatch 32 = .ok (.bipush 16, 2) := by decide +kernel
theorem dX8_dispatch_34 : decode cX8_dispatch 34 = .ok (.imul, 1) := by decide +kernel
theorem dX8_dispatch_35 : decode cX8_dispatch 35 = .ok (.iaload, 1) := by decide +kernel
theorem dX8_dispatch_36 : decode cX8_dispatch 36 = .ok (.istore 4, 2) := by decide +kernel
theorem dX8_dispatch_38 : decode cX8_dispatch 38 = .ok (.aload_n 0, 1) := by decide +kernel
theorem dX8_dispatch_39 : decode cX8_dispatch 39 = .ok (.aload_n 1, 1) := by decide +kernel
theorem dX8_dispatch_40 : decode cX8_dispatch 40 = .ok (.iload_n 3, 1) := by decide +kernel
theorem dX8_dispatch_41 : decode cX8_dispatch 41 = .ok (.aload_n 0, 1) := by decide +kernel
theorem dX8_dispatch_42 : decode cX8_dispatch 42 = .ok (.getfield 24, 3) := by decide +kernel
theorem dX8_dispatch_45 : decode cX8_dispatch 45 = .ok (.aload_n 1, 1) := by decide +kernel
theorem dX8_dispatch_46 : decode cX8_dispatch 46 = .ok (.iload_n 3, 1) := by decide +kernel
theorem dX8_dispatch_47 : decode cX8_dispatch 47 = .ok (.iload 4, 2) := by decide +kernel
theorem dX8_dispatch_49 : decode cX8_dispatch 49 = .ok (.invokevirtual 213, 3) := by decide +kernel
theorem dX8_dispatch_52 : decode cX8_dispatch 52 = .ok (.iload 4, 2) := by decide +kernel
theorem dX8_dispatch_54 : decode cX8_dispatch 54 = .ok (.invokevirtual 217, 3) := by decide +kernel
theorem dX8_dispatch_57 : decode cX8_dispatch 57 = .ok (.aload_n 0, 1) := by decide +kernel
theorem dX8_dispatch_58 : decode cX8_dispatch 58 = .ok (.getfield 31, 3) := by decide +kernel
theorem dX8_dispatch_61 : decode cX8_dispatch 61 = .ok (.iload_n 3, 1) := by decide +kernel
theorem dX8_dispatch_62 : decode cX8_dispatch 62 = .ok (.invokevirtual 194, 3) := by decide +kernel
theorem dX8_dispatch_65 : decode cX8_dispatch 65 = .ok (.iinc 2 1, 3) := by decide +kernel
theorem dX8_dispatch_68 : decode cX8_dispatch 68 = .ok (.goto (-66), 3) := by decide +kernel
theorem dX8_dispatch_71 : decode cX8_dispatch 71 = .ok (.aload_n 1, 1) := by decide +kernel
theorem dX8_dispatch_72 : decode cX8_dispatch 72 = .ok (.getfield 204, 3) := by decide +kernel
theorem dX8_dispatch_75 : decode cX8_dispatch 75 = .ok (.ireturn, 1) := by decide +kernel
theorem dX8_chooseLeaf_0 : decode cX8_chooseLeaf 0 = .ok (.bipush (-2), 2) := by decide +kernel
theorem dX8_chooseLeaf_2 : decode cX8_chooseLeaf 2 = .ok (.istore_n 2, 1) := by decide +kernel
theorem dX8_chooseLeaf_3 : decode cX8_chooseLeaf 3 = .ok (.bipush (-2), 2) := by decide +kernel
theorem dX8_chooseLeaf_5 : decode cX8_chooseLeaf 5 = .ok (.istore_n 3, 1) := by decide +kernel
theorem dX8_chooseLeaf_6 : decode cX8_chooseLeaf 6 = .ok (.iconst 0, 1) := by decide +kernel
theorem dX8_chooseLeaf_7 : decode cX8_chooseLeaf 7 = .ok (.istore 4, 2) := by decide +kernel
theorem dX8_chooseLeaf_9 : decode cX8_chooseLeaf 9 = .ok (.iload 4, 2) := by decide +kernel
theorem dX8_chooseLeaf_11 : decode cX8_chooseLeaf 11 = .ok (.aload_n 1, 1) := by decide +kernel
theorem dX8_chooseLeaf_12 : decode cX8_chooseLeaf 12 = .ok (.getfield 85, 3) := by decide +kernel
theorem dX8_chooseLeaf_15 : decode cX8_chooseLeaf 15 = .ok (.if_icmp .ge 72, 3) := by decide +kernel
theorem dX8_chooseLeaf_18 : decode cX8_chooseLeaf 18 = .ok (.aload_n 0, 1) := by decide +kernel
theorem dX8_chooseLeaf_19 : decode cX8_chooseLeaf 19 = .ok (.aload_n 1, 1) := by decide +kernel
theorem dX8_chooseLeaf_20 : decode cX8_chooseLeaf 20 = .ok (.iload 4, 2) := by decide +kernel
theorem dX8_chooseLeaf_22 : decode cX8_chooseLeaf 22 = .ok (.invokevirtual 220, 3) := by decide +kernel
theorem dX8_chooseLeaf_25 : decode cX8_chooseLeaf 25 = .ok (.istore 5, 2) := by decide +kernel
theorem dX8_chooseLeaf_27 : decode cX8_chooseLeaf 27 = .ok (.iload_n 2, 1) := by decide +kernel
theorem dX8_chooseLeaf_28 : decode cX8_chooseLeaf 28 = .ok (.bipush (-2), 2) := by decide +kernel
theorem dX8_chooseLeaf_30 : decode cX8_chooseLeaf 30 = .ok (.if_icmp .eq 9, 3) := by decide +kernel
theorem dX8_chooseLeaf_33 : decode cX8_chooseLeaf 33 = .ok (.iload 5, 2) := by decide +kernel
theorem dX8_chooseLeaf_35 : decode cX8_chooseLeaf 35 = .ok (.iload_n 3, 1) := by decide +kernel
theorem dX8_chooseLeaf_36 : decode cX8_chooseLeaf 36 = .ok (.if_icmp .ge 7, 3) := by decide +kernel
theorem dX8_chooseLeaf_39 : decode cX8_chooseLeaf 39 = .ok (.iconst 1, 1) := by decide +kernel
theorem dX8_chooseLeaf_40 : decode cX8_chooseLeaf 40 = .ok (.goto 4, 3) := by decide +kernel
theorem dX8_chooseLeaf_43 : decode cX8_chooseLeaf 43 = .ok (.iconst 0, 1) := by decide +kernel
theorem dX8_chooseLeaf_44 : decode cX8_chooseLeaf 44 = .ok (.istore 6, 2) := by decide +kernel
theorem dX8_chooseLeaf_46 : decode cX8_chooseLeaf 46 = .ok (.iload 5, 2) := by decide +kernel
theorem dX8_chooseLeaf_48 : decode cX8_chooseLeaf 48 = .ok (.bipush (-2), 2) := by decide +kernel
theorem dX8_chooseLeaf_50 : decode cX8_chooseLeaf 50 = .ok (.if_icmp .eq 31, 3) := by decide +kernel
theorem dX8_chooseLeaf_53 : decode cX8_chooseLeaf 53 = .ok (.iload 6, 2) := by decide +kernel
theorem dX8_chooseLeaf_55 : decode cX8_chooseLeaf 55 = .ok (.ifCond .ne 20, 3) := by decide +kernel
theorem dX8_chooseLeaf_58 : decode cX8_chooseLeaf 58 = .ok (.iload 5, 2) := by decide +kernel
theorem dX8_chooseLeaf_60 : decode cX8_chooseLeaf 60 = .ok (.iload_n 3, 1) := by decide +kernel
theorem dX8_chooseLeaf_61 : decode cX8_chooseLeaf 61 = .ok (.if_icmp .ne 20, 3) := by decide +kernel
theorem dX8_chooseLeaf_64 : decode cX8_chooseLeaf 64 = .ok (.aload_n 0, 1) := by decide +kernel
theorem dX8_chooseLeaf_65 : decode cX8_chooseLeaf 65 = .ok (.aload_n 1, 1) := by decide +kernel
theorem dX8_chooseLeaf_66 : decode cX8_chooseLeaf 66 = .ok (.iload 4, 2) := by decide +kernel
theorem dX8_chooseLeaf_68 : decode cX8_chooseLeaf 68 = .ok (.iload_n 2, 1) := by decide +kernel
theorem dX8_chooseLeaf_69 : decode cX8_chooseLeaf 69 = .ok (.invokevirtual 224, 3) := by decide +kernel
theorem dX8_chooseLeaf_72 : decode cX8_chooseLeaf 72 = .ok (.ifCond .eq 9, 3) := by decide +kernel
theorem dX8_chooseLeaf_75 : decode cX8_chooseLeaf 75 = .ok (.iload 4, 2) := by decide +kernel
theorem dX8_chooseLeaf_77 : decode cX8_chooseLeaf 77 = .ok (.istore_n 2, 1) := by decide +kernel
theorem dX8_chooseLeaf_78 : decode cX8_chooseLeaf 78 = .ok (.iload 5, 2) := by decide +kernel
theorem dX8_chooseLeaf_80 : decode cX8_chooseLeaf 80 = .ok (.istore_n 3, 1) := by decide +kernel
theorem dX8_chooseLeaf_81 : decode cX8_chooseLeaf 81 = .ok (.iinc 4 1, 3) := by decide +kernel
theorem dX8_chooseLeaf_84 : decode cX8_chooseLeaf 84 = .ok (.goto (-75), 3) := by decide +kernel
theorem dX8_chooseLeaf_87 : decode cX8_chooseLeaf 87 = .ok (.iload_n 2, 1) := by decide +kernel
theorem dX8_chooseLeaf_88 : decode cX8_chooseLeaf 88 = .ok (.ireturn, 1) := by decide +kernel
theorem dX8_frontDistance_0 : decode cX8_frontDistance 0 = .ok (.aload_n 0, 1) := by decide +kernel
theorem dX8_frontDistance_1 : decode cX8_frontDistance 1 = .ok (.getfield 31, 3) := by decide +kernel
theorem dX8_frontDistance_4 : decode cX8_frontDistance 4 = .ok (.getfield 198, 3) := by decide +kernel
theorem dX8_frontDistance_7 : decode cX8_frontDistance 7 = .ok (.iload_n 2, 1) := by decide +kernel
theorem dX8_frontDistance_8 : decode cX8_frontDistance 8 = .ok (.iaload, 1) := by decide +kernel
theorem dX8_frontDistance_9 : decode cX8_frontDistance 9 = .ok (.ifCond .ne 6, 3) := by decide +kernel
theorem dX8_frontDistance_12 : decode cX8_frontDistance 12 = .ok (.bipush (-2), 2) := by decide +kernel
theorem dX8_frontDistance_14 : decode cX8_frontDistance 14 = .ok (.ireturn, 1) := by decide +kernel
theorem dX8_frontDistance_15 : decode cX8_frontDistance 15 = .ok (.aload_n 1, 1) := by decide +kernel
theorem dX8_frontDistance_16 : decode cX8_frontDistance 16 = .ok (.iload_n 2, 1) := by decide +kernel
theorem dX8_frontDistance_17 : decode cX8_frontDistance 17 = .ok (.aload_n 0, 1) := by decide +kernel
theorem dX8_frontDistance_18 : decode cX8_frontDistance 18 = .ok (.getfield 24, 3) := by decide +kernel
theorem dX8_frontDistance_21 : decode cX8_frontDistance 21 = .ok (.aload_n 1, 1) := by decide +kernel
theorem dX8_frontDistance_22 : decode cX8_frontDistance 22 = .ok (.iload_n 2, 1) := by decide +kernel
theorem dX8_frontDistance_23 : decode cX8_frontDistance 23 = .ok (.aload_n 0, 1) := by decide +kernel
theorem dX8_frontDistance_24 : decode cX8_frontDistance 24 = .ok (.getfield 31, 3) := by decide +kernel
theorem dX8_frontDistance_27 : decode cX8_frontDistance 27 = .ok (.getfield 210, 3) := by decide +kernel
theorem dX8_frontDistance_30 : decode cX8_frontDistance 30 = .ok (.iload_n 2, 1) := by decide +kernel
theorem dX8_frontDistance_31 : decode cX8_frontDistance 31 = .ok (.bipush 16, 2) := by decide +kernel
theorem dX8_frontDistance_33 : decode cX8_frontDistance 33 = .ok (.imul, 1) := by decide +kernel
theorem dX8_frontDistance_34 : decode cX8_frontDistance 34 = .ok (.iaload, 1) := by decide +kernel
theorem dX8_frontDistance_35 : decode cX8_frontDistance 35 = .ok (.invokevirtual 213, 3) := by decide +kernel
theorem dX8_frontDistance_38 : decode cX8_frontDistance 38 = .ok (.invokevirtual 228, 3) := by decide +kernel
theorem dX8_frontDistance_41 : decode cX8_frontDistance 41 = .ok (.ireturn, 1) := by decide +kernel
theorem dX8_precedes_0 : decode cX8_precedes 0 = .ok (.aload_n 1, 1) := by decide +kernel
theorem dX8_precedes_1 : decode cX8_precedes 1 = .ok (.getfield 231, 3) := by decide +kernel
theorem dX8_precedes_4 : decode cX8_precedes 4 = .ok (.iload_n 2, 1) := by decide +kernel
theorem dX8_precedes_5 : decode cX8_precedes 5 = .ok (.iaload, 1) := by decide +kernel
theorem dX8_precedes_6 : decode cX8_precedes 6 = .ok (.aload_n 1, 1) := by decide +kernel
theorem dX8_precedes_7 : decode cX8_precedes 7 = .ok (.getfield 231, 3) := by decide +kernel
theorem dX8_precedes_10 : decode cX8_precedes 10 = .ok (.iload_n 3, 1) := by decide +kernel
theorem dX8_precedes_11 : decode cX8_precedes 11 = .ok (.iaload, 1) := by decide +kernel
theorem dX8_precedes_12 : decode cX8_precedes 12 = .ok (.if_icmp .eq 24, 3) := by decide +kernel
theorem dX8_precedes_15 : decode cX8_precedes 15 = .ok (.aload_n 1, 1) := by decide +kernel
theorem dX8_precedes_16 : decode cX8_precedes 16 = .ok (.getfield 231, 3) := by decide +kernel
theorem dX8_precedes_19 : decode cX8_precedes 19 = .ok (.iload_n 2, 1) := by decide +kernel
theorem dX8_precedes_20 : decode cX8_precedes 20 = .ok (.iaload, 1) := by decide +kernel
theorem dX8_precedes_21 : decode cX8_precedes 21 = .ok (.aload_n 1, 1) := by decide +kernel
theorem dX8_precedes_22 : decode cX8_precedes 22 = .ok (.getfield 231, 3) := by decide +kernel
theorem dX8_precedes_25 : decode cX8_precedes 25 = .ok (.iload_n 3, 1) := by decide +kernel
theorem dX8_precedes_26 : decode cX8_precedes 26 = .ok (.iaload, 1) := by decide +kernel
theorem dX8_precedes_27 : decode cX8_precedes 27 = .ok (.if_icmp .ge 7, 3) := by decide +kernel
theorem dX8_precedes_30 : decode cX8_precedes 30 = .ok (.iconst 1, 1) := by decide +kernel
theorem dX8_precedes_31 : decode cX8_precedes 31 = .ok (.goto 4, 3) := by decide +kernel
theorem dX8_precedes_34 : decode cX8_precedes 34 = .ok (.iconst 0, 1) := by decide +kernel
theorem dX8_precedes_35 : decode cX8_precedes 35 = .ok (.ireturn, 1) := by decide +kernel
theorem dX8_precedes_36 : decode cX8_precedes 36 = .ok (.aload_n 0, 1) := by decide +kernel
theorem dX8_precedes_37 : decode cX8_precedes 37 = .ok (.iload_n 2, 1) := by decide +kernel
theorem dX8_precedes_38 : decode cX8_precedes 38 = .ok (.iload_n 3, 1) := by decide +kernel
theorem dX8_precedes_39 : decode cX8_precedes 39 = .ok (.invokevirtual 234, 3) := by decide +kernel
theorem dX8_precedes_42 : decode cX8_precedes 42 = .ok (.ifCond .ge 7, 3) := by decide +kernel
theorem dX8_precedes_45 : decode cX8_precedes 45 = .ok (.iconst 1, 1) := by decide +kernel
theorem dX8_precedes_46 : decode cX8_precedes 46 = .ok (.goto 4, 3) := by decide +kernel
theorem dX8_precedes_49 : decode cX8_precedes 49 = .ok (.iconst 0, 1) := by decide +kernel
theorem dX8_precedes_50 : decode cX8_precedes 50 = .ok (.ireturn, 1) := by decide +kernel
theorem dX8_compareServed_0 : decode cX8_compareServed 0 = .ok (.aload_n 0, 1) := by decide +kernel
theorem dX8_compareServed_1 : decode cX8_compareServed 1 = .ok (.getfield 38, 3) := by decide +kernel
theorem dX8_compareServed_4 : decode cX8_compareServed 4 = .ok (.getfield 237, 3) := by decide +kernel
theorem dX8_compareServed_7 : decode cX8_compareServed 7 = .ok (.iload_n 1, 1) := by decide +kernel
theorem dX8_compareServed_8 : decode cX8_compareServed 8 = .ok (.iaload, 1) := by decide +kernel
theorem dX8_compareServed_9 : decode cX8_compareServed 9 = .ok (.i2l, 1) := by decide +kernel
theorem dX8_compareServed_10 : decode cX8_compareServed 10 = .ok (.aload_n 0, 1) := by decide +kernel
theorem dX8_compareServed_11 : decode cX8_compareServed 11 = .ok (.getfield 18, 3) := by decide +kernel
theorem dX8_compareServed_14 : decode cX8_compareServed 14 = .ok (.iload_n 2, 1) := by decide +kernel
theorem dX8_compareServed_15 : decode cX8_compareServed 15 = .ok (.iaload, 1) := by decide +kernel
theorem dX8_compareServed_16 : decode cX8_compareServed 16 = .ok (.i2l, 1) := by decide +kernel
theorem dX8_compareServed_17 : decode cX8_compareServed 17 = .ok (.lmul, 1) := by decide +kernel
theorem dX8_compareServed_18 : decode cX8_compareServed 18 = .ok (.lstore_n 3, 1) := by decide +kernel
theorem dX8_compareServed_19 : decode cX8_compareServed 19 = .ok (.aload_n 0, 1) := by decide +kernel
theorem dX8_compareServed_20 : decode cX8_compareServed 20 = .ok (.getfield 38, 3) := by decide +kernel
theorem dX8_compareServed_23 : decode cX8_compareServed 23 = .ok (.getfield 237, 3) := by decide +kernel
theorem dX8_compareServed_26 : decode cX8_compareServed 26 = .ok (.iload_n 2, 1) := by decide +kernel
theorem dX8_compareServed_27 : decode cX8_compareServed 27 = .ok (.iaload, 1) := by decide +kernel
theorem dX8_compareServed_28 : decode cX8_compareServed 28 = .ok (.i2l, 1) := by decide +kernel
theorem dX8_compareServed_29 : decode cX8_compareServed 29 = .ok (.aload_n 0, 1) := by decide +kernel
theorem dX8_compareServed_30 : decode cX8_compareServed 30 = .ok (.getfield 18, 3) := by decide +kernel
theorem dX8_compareServed_33 : decode cX8_compareServed 33 = .ok (.iload_n 1, 1) := by decide +kernel
theorem dX8_compareServed_34 : decode cX8_compareServed 34 = .ok (.iaload, 1) := by decide +kernel
theorem dX8_compareServed_35 : decode cX8_compareServed 35 = .ok (.i2l, 1) := by decide +kernel
theorem dX8_compareServed_36 : decode cX8_compareServed 36 = .ok (.lmul, 1) := by decide +kernel
theorem dX8_compareServed_37 : decode cX8_compareServed 37 = .ok (.lstore 5, 2) := by decide +kernel
theorem dX8_compareServed_39 : decode cX8_compareServed 39 = .ok (.lload_n 3, 1) := by decide +kernel
theorem dX8_compareServed_40 : decode cX8_compareServed 40 = .ok (.lload 5, 2) := by decide +kernel
theorem dX8_compareServed_42 : decode cX8_compareServed 42 = .ok (.invokestatic 240, 3) := by decide +kernel
theorem dX8_compareServed_45 : decode cX8_compareServed 45 = .ok (.ireturn, 1) := by decide +kernel
theorem dX9_init_0 : decode cX9_init 0 = .ok (.aload_n 0, 1) := by decide +kernel
theorem dX9_init_1 : decode cX9_init 1 = .ok (.invokespecial 3, 3) := by decide +kernel
theorem dX9_init_4 : decode cX9_init 4 = .ok (.aload_n 0, 1) := by decide +kernel
theorem dX9_init_5 : decode cX9_init 5 = .ok (.sipush 900, 3) := by decide +kernel
theorem dX9_init_8 : decode cX9_init 8 = .ok (.newarray .byte, 2) := by decide +kernel
theorem dX9_init_10 : decode cX9_init 10 = .ok (.putfield 9, 3) := by decide +kernel
theorem dX9_init_13 : decode cX9_init 13 = .ok (.return_, 1) := by decide +kernel
theorem dX9_append_0 : decode cX9_append 0 = .ok (.bipush 24, 2) := by decide +kernel
theorem dX9_append_2 : decode cX9_append 2 = .ok (.istore_n 2, 1) := by decide +kernel
theorem dX9_append_3 : decode cX9_append 3 = .ok (.iload_n 2, 1) := by decide +kernel
theorem dX9_append_4 : decode cX9_append 4 = .ok (.ifCond .lt 51, 3) := by decide +kernel
theorem dX9_append_7 : decode cX9_append 7 = .ok (.aload_n 0, 1) := by decide +kernel
theorem dX9_append_8 : decode cX9_append 8 = .ok (.getfield 15, 3) := by decide +kernel
theorem dX9_append_11 : decode cX9_append 11 = .ok (.ifCond .lt 38, 3) := by decide +kernel
theorem dX9_append_14 : decode cX9_append 14 = .ok (.aload_n 0, 1) := by decide +kernel
theorem dX9_append_15 : decode cX9_append 15 = .ok (.getfield 15, 3) := by decide +kernel
theorem dX9_append_18 : decode cX9_append 18 = .ok (.aload_n 0, 1) := by decide +kernel
theorem dX9_append_19 : decode cX9_append 19 = .ok (.getfield 9, 3) := by decide +kernel
theorem dX9_append_22 : decode cX9_append 22 = .ok (.arraylength, 1) := by decide +kernel
theorem dX9_append_23 : decode cX9_append 23 = .ok (.if_icmp .ge 26, 3) := by decide +kernel
theorem dX9_append_26 : decode cX9_append 26 = .ok (.aload_n 0, 1) := by decide +kernel
theorem dX9_append_27 : decode cX9_append 27 = .ok (.getfield 9, 3) := by decide +kernel
theorem dX9_append_30 : decode cX9_append 30 = .ok (.aload_n 0, 1) := by decide +kernel
theorem dX9_append_31 : decode cX9_append 31 = .ok (.getfield 15, 3) := by decide +kernel
theorem dX9_append_34 : decode cX9_append 34 = .ok (.iload_n 1, 1) := by decide +kernel
theorem dX9_append_35 : decode cX9_append 35 = .ok (.iload_n 2, 1) := by decide +kernel
theorem dX9_append_36 : decode cX9_append 36 = .ok (.ishr, 1) := by decide +kernel
theorem dX9_append_37 : decode cX9_append 37 = .ok (.i2b, 1) := by decide +kernel
theorem dX9_append_38 : decode cX9_append 38 = .ok (.bastore, 1) := by decide +kernel
theorem dX9_append_39 : decode cX9_append 39 = .ok (.aload_n 0, 1) := by decide +kernel
theorem dX9_append_40 : decode cX9_append 40 = .ok (.dup, 1) := by decide +kernel
theorem dX9_append_41 : decode cX9_append 41 = .ok (.getfield 15, 3) := by decide +kernel
theorem dX9_append_44 : decode cX9_append 44 = .ok (.iconst 1, 1) := by decide +kernel
theorem dX9_append_45 : decode cX9_append 45 = .ok (.iadd, 1) := by decide +kernel
theorem dX9_append_46 : decode cX9_append 46 = .ok (.putfield 15, 3) := by decide +kernel
theorem dX9_append_49 : decode cX9_append 49 = .ok (.iinc 2 (-8), 3) := by decide +kernel
theorem dX9_append_52 : decode cX9_append 52 = .ok (.goto (-49), 3) := by decide +kernel
theorem dX9_append_55 : decode cX9_append 55 = .ok (.return_, 1) := by decide +kernel
theorem dX9_byteAt_0 : decode cX9_byteAt 0 = .ok (.iload_n 1, 1) := by decide +kernel
theorem dX9_byteAt_1 : decode cX9_byteAt 1 = .ok (.ifCond .lt 29, 3) := by decide +kernel
theorem dX9_byteAt_4 : decode cX9_byteAt 4 = .ok (.iload_n 1, 1) := by decide +kernel
theorem dX9_byteAt_5 : decode cX9_byteAt 5 = .ok (.aload_n 0, 1) := by decide +kernel
theorem dX9_byteAt_6 : decode cX9_byteAt 6 = .ok (.getfield 15, 3) := by decide +kernel
theorem dX9_byteAt_9 : decode cX9_byteAt 9 = .ok (.if_icmp .ge 21, 3) := by decide +kernel
theorem dX9_byteAt_12 : decode cX9_byteAt 12 = .ok (.iload_n 1, 1) := by decide +kernel
theorem dX9_byteAt_13 : decode cX9_byteAt 13 = .ok (.aload_n 0, 1) := by decide +kernel
theorem dX9_byteAt_14 : decode cX9_byteAt 14 = .ok (.getfield 9, 3) := by decide +kernel
theorem dX9_byteAt_17 : decode cX9_byteAt 17 = .ok (.arraylength, 1) := by decide +kernel
theorem dX9_byteAt_18 : decode cX9_byteAt 18 = .ok (.if_icmp .ge 12, 3) := by decide +kernel
theorem dX9_byteAt_21 : decode cX9_byteAt 21 = .ok (.aload_n 0, 1) := by decide +kernel
theorem dX9_byteAt_22 : decode cX9_byteAt 22 = .ok (.getfield 9, 3) := by decide +kernel
theorem dX9_byteAt_25 : decode cX9_byteAt 25 = .ok (.iload_n 1, 1) := by decide +kernel
theorem dX9_byteAt_26 : decode cX9_byteAt 26 = .ok (.baload, 1) := by decide +kernel
theorem dX9_byteAt_27 : decode cX9_byteAt 27 = .ok (.goto 4, 3) := by decide +kernel
theorem dX9_byteAt_30 : decode cX9_byteAt 30 = .ok (.iconst 0, 1) := by decide +kernel
theorem dX9_byteAt_31 : decode cX9_byteAt 31 = .ok (.ireturn, 1) := by decide +kernel
theorem dX10_init_0 : decode cX10_init 0 = .ok (.aload_n 0, 1) := by decide +kernel
theorem dX10_init_1 : decode cX10_init 1 = .ok (.invokespecial 3, 3) := by decide +kernel
theorem dX10_init_4 : decode cX10_init 4 = .ok (.return_, 1) := by decide +kernel
theorem dX11_init_0 : decode cX11_init 0 = .ok (.aload_n 0, 1) := by decide +kernel
theorem dX11_init_1 : decode cX11_init 1 = .ok (.invokespecial 1, 3) := by decide +kernel
theorem dX11_init_4 : decode cX11_init 4 = .ok (.aload_n 0, 1) := by decide +kernel
theorem dX11_init_5 : decode cX11_init 5 = .ok (.new 7, 3) := by decide +kernel
theorem dX11_init_8 : decode cX11_init 8 = .ok (.dup, 1) := by decide +kernel
theorem dX11_init_9 : decode cX11_init 9 = .ok (.invokespecial 9, 3) := by decide +kernel
theorem dX11_init_12 : decode cX11_init 12 = .ok (.putfield 10, 3) := by decide +kernel
theorem dX11_init_15 : decode cX11_init 15 = .ok (.aload_n 0, 1) := by decide +kernel
theorem dX11_init_16 : decode cX11_init 16 = .ok (.new 16, 3) := by decide +kernel
theorem dX11_init_19 : decode cX11_init 19 = .ok (.dup, 1) := by decide +kernel
theorem dX11_init_20 : decode cX11_init 20 = .ok (.invokespecial 18, 3) := by decide +kernel
theorem dX11_init_23 : decode cX11_init 23 = .ok (.putfield 19, 3) := by decide +kernel
theorem dX11_init_26 : decode cX11_init 26 = .ok (.aload_n 0, 1) := by decide +kernel
theorem dX11_init_27 : decode cX11_init 27 = .ok (.new 23, 3) := by decide +kernel
theorem dX11_init_30 : decode cX11_init 30 = .ok (.dup, 1) := by decide +kernel
theorem dX11_init_31 : decode cX11_init 31 = .ok (.invokespecial 25, 3) := by decide +kernel
theorem dX11_init_34 : decode cX11_init 34 = .ok (.putfield 26, 3) := by decide +kernel
theorem dX11_init_37 : decode cX11_init 37 = .ok (.aload_n 0, 1) := by decide +kernel
theorem dX11_init_38 : decode cX11_init 38 = .ok (.new 30, 3) := by decide +kernel
theorem dX11_init_41 : decode cX11_init 41 = .ok (.dup, 1) := by decide +kernel
theorem dX11_init_42 : decode cX11_init 42 = .ok (.invokespecial 32, 3) := by decide +kernel
theorem dX11_init_45 : decode cX11_init 45 = .ok (.putfield 33, 3) := by decide +kernel
theorem dX11_init_48 : decode cX11_init 48 = .ok (.aload_n 0, 1) := by decide +kernel
theorem dX11_init_49 : decode cX11_init 49 = .ok (.new 37, 3) := by decide +kernel
theorem dX11_init_52 : decode cX11_init 52 = .ok (.dup, 1) := by decide +kernel
theorem dX11_init_53 : decode cX11_init 53 = .ok (.invokespecial 39, 3) := by decide +kernel
theorem dX11_init_56 : decode cX11_init 56 = .ok (.putfield 40, 3) := by decide +kernel
theorem dX11_init_59 : decode cX11_init 59 = .ok (.aload_n 0, 1) := by decide +kernel
theorem dX11_init_60 : decode cX11_init 60 = .ok (.new 37, 3) := by decide +kernel
theorem dX11_init_63 : decode cX11_init 63 = .ok (.dup, 1) := by decide +kernel
theorem dX11_init_64 : decode cX11_init 64 = .ok (.invokespecial 39, 3) := by decide +kernel
theorem dX11_init_67 : decode cX11_init 67 = .ok (.putfield 44, 3) := by decide +kernel
theorem dX11_init_70 : decode cX11_init 70 = .ok (.aload_n 0, 1) := by decide +kernel
theorem dX11_init_71 : decode cX11_init 71 = .ok (.new 37, 3) := by decide +kernel
theorem dX11_init_74 : decode cX11_init 74 = .ok (.dup, 1) := by decide +kernel
theorem dX11_init_75 : decode cX11_init 75 = .ok (.invokespecial 39, 3) := by decide +kernel
theorem dX11_init_78 : decode cX11_init 78 = .ok (.putfield 47, 3) := by decide +kernel
theorem dX11_init_81 : decode cX11_init 81 = .ok (.aload_n 0, 1) := by decide +kernel
theorem dX11_init_82 : decode cX11_init 82 = .ok (.new 37, 3) := by decide +kernel
theorem dX11_init_85 : decode cX11_init 85 = .ok (.dup, 1) := by decide +kernel
theorem dX11_init_86 : decode cX11_init 86 = .ok (.invokespecial 39, 3) := by decide +kernel
theorem dX11_init_89 : decode cX11_init 89 = .ok (.putfield 50, 3) := by decide +kernel
theorem dX11_init_92 : decode cX11_init 92 = .ok (.return_, 1) := by decide +kernel
theorem dX11_feed_0 : decode cX11_feed 0 = .ok (.aload_n 0, 1) := by decide +kernel
theorem dX11_feed_1 : decode cX11_feed 1 = .ok (.getfield 10, 3) := by decide +kernel
theorem dX11_feed_4 : decode cX11_feed 4 = .ok (.getfield 53, 3) := by decide +kernel
theorem dX11_feed_7 : decode cX11_feed 7 = .ok (.bipush 20, 2) := by decide +kernel
theorem dX11_feed_9 : decode cX11_feed 9 = .ok (.iadd, 1) := by decide +kernel
theorem dX11_feed_10 : decode cX11_feed 10 = .ok (.sipush 900, 3) := by decide +kernel
theorem dX11_feed_13 : decode cX11_feed 13 = .ok (.if_icmp .le 5, 3) := by decide +kernel
theorem dX11_feed_16 : decode cX11_feed 16 = .ok (.iconst (-1), 1) := by decide +kernel
theorem dX11_feed_17 : decode cX11_feed 17 = .ok (.ireturn, 1) := by decide +kernel
theorem dX11_feed_18 : decode cX11_feed 18 = .ok (.aload_n 0, 1) := by decide +kernel
theorem dX11_feed_19 : decode cX11_feed 19 = .ok (.getfield 10, 3) := by decide +kernel
theorem dX11_feed_22 : decode cX11_feed 22 = .ok (.iload_n 1, 1) := by decide +kernel
theorem dX11_feed_23 : decode cX11_feed 23 = .ok (.invokevirtual 57, 3) := by decide +kernel
theorem dX11_feed_26 : decode cX11_feed 26 = .ok (.aload_n 0, 1) := by decide +kernel
theorem dX11_feed_27 : decode cX11_feed 27 = .ok (.getfield 10, 3) := by decide +kernel
theorem dX11_feed_30 : decode cX11_feed 30 = .ok (.iload_n 2, 1) := by decide +kernel
theorem dX11_feed_31 : decode cX11_feed 31 = .ok (.invokevirtual 57, 3) := by decide +kernel
theorem dX11_feed_34 : decode cX11_feed 34 = .ok (.aload_n 0, 1) := by decide +kernel
theorem dX11_feed_35 : decode cX11_feed 35 = .ok (.getfield 10, 3) := by decide +kernel
theorem dX11_feed_38 : decode cX11_feed 38 = .ok (.iload_n 3, 1) := by decide +kernel
theorem dX11_feed_39 : decode cX11_feed 39 = .ok (.invokevirtual 57, 3) := by decide +kernel
theorem dX11_feed_42 : decode cX11_feed 42 = .ok (.aload_n 0, 1) := by decide +kernel
theorem dX11_feed_43 : decode cX11_feed 43 = .ok (.getfield 10, 3) := by decide +kernel
theorem dX11_feed_46 : decode cX11_feed 46 = .ok (.iload 4, 2) := by decide +kernel
theorem dX11_feed_48 : decode cX11_feed 48 = .ok (.invokevirtual 57, 3) := by decide +kernel
theorem dX11_feed_51 : decode cX11_feed 51 = .ok (.aload_n 0, 1) := by decide +kernel
theorem dX11_feed_52 : decode cX11_feed 52 = .ok (.getfield 10, 3) := by decide +kernel
theorem dX11_feed_55 : decode cX11_feed 55 = .ok (.iload 5, 2) := by decide +kernel
theorem dX11_feed_57 : decode cX11_feed 57 = .ok (.invokevirtual 57, 3) := by decide +kernel
theorem dX11_feed_60 : decode cX11_feed 60 = .ok (.aload_n 0, 1) := by decide +kernel
theorem dX11_feed_61 : decode cX11_feed 61 = .ok (.getfield 10, 3) := by decide +kernel
theorem dX11_feed_64 : decode cX11_feed 64 = .ok (.getfield 53, 3) := by decide +kernel
theorem dX11_feed_67 : decode cX11_feed 67 = .ok (.ireturn, 1) := by decide +kernel
theorem dX11_truncate_0 : decode cX11_truncate 0 = .ok (.iload_n 1, 1) := by decide +kernel
theorem dX11_truncate_1 : decode cX11_truncate 1 = .ok (.ifCond .lt 14, 3) := by decide +kernel
theorem dX11_truncate_4 : decode cX11_truncate 4 = .ok (.iload_n 1, 1) := by decide +kernel
theorem dX11_truncate_5 : decode cX11_truncate 5 = .ok (.aload_n 0, 1) := by decide +kernel
theorem dX11_truncate_6 : decode cX11_truncate 6 = .ok (.getfield 10, 3) := by decide +kernel
theorem dX11_truncate_9 : decode cX11_truncate 9 = .ok (.getfield 53, 3) := by decide +kernel
theorem dX11_truncate_12 : decode cX11_truncate 12 = .ok (.if_icmp .le 5, 3) := by decide +kernel
theorem dX11_truncate_15 : decode cX11_truncate 15 = .ok (.iconst (-1), 1) := by decide +kernel
theorem dX11_truncate_16 : decode cX11_truncate 16 = .ok (.ireturn, 1) := by decide +kernel
theorem dX11_truncate_17 : decode cX11_truncate 17 = .ok (.aload_n 0, 1) := by decide +kernel
theorem dX11_truncate_18 : decode cX11_truncate 18 = .ok (.getfield 10, 3) := by decide +kernel
theorem dX11_truncate_21 : decode cX11_truncate 21 = .ok (.iload_n 1, 1) := by decide +kernel
theorem dX11_truncate_22 : decode cX11_truncate 22 = .ok (.putfield 53, 3) := by decide +kernel
theorem dX11_truncate_25 : decode cX11_truncate 25 = .ok (.iload_n 1, 1) := by decide +kernel
theorem dX11_truncate_26 : decode cX11_truncate 26 = .ok (.ireturn, 1) := by decide +kernel
theorem dX11_load_0 : decode cX11_load 0 = .ok (.aload_n 0, 1) := by decide +kernel
theorem dX11_load_1 : decode cX11_load 1 = .ok (.getfield 19, 3) := by decide +kernel
theorem dX11_load_4 : decode cX11_load 4 = .ok (.aload_n 0, 1) := by decide +kernel
theorem dX11_load_5 : decode cX11_load 5 = .ok (.getfield 10, 3) := by decide +kernel
theorem dX11_load_8 : decode cX11_load 8 = .ok (.invokevirtual 61, 3) := by decide +kernel
theorem dX11_load_11 : decode cX11_load 11 = .ok (.aload_n 0, 1) := by decide +kernel
theorem dX11_load_12 : decode cX11_load 12 = .ok (.getfield 10, 3) := by decide +kernel
theorem dX11_load_15 : decode cX11_load 15 = .ok (.iconst 0, 1) := by decide +kernel
theorem dX11_load_16 : decode cX11_load 16 = .ok (.putfield 53, 3) := by decide +kernel
theorem dX11_load_19 : decode cX11_load 19 = .ok (.aload_n 0, 1) := by decide +kernel
theorem dX11_load_20 : decode cX11_load 20 = .ok (.getfield 19, 3) := by decide +kernel
theorem dX11_load_23 : decode cX11_load 23 = .ok (.getfield 65, 3) := by decide +kernel
theorem dX11_load_26 : decode cX11_load 26 = .ok (.ifCond .eq 5, 3) := by decide +kernel
theorem dX11_load_29 : decode cX11_load 29 = .ok (.iconst (-1), 1) := by decide +kernel
theorem dX11_load_30 : decode cX11_load 30 = .ok (.ireturn, 1) := by decide +kernel
theorem dX11_load_31 : decode cX11_load 31 = .ok (.aload_n 0, 1) := by decide +kernel
theorem dX11_load_32 : decode cX11_load 32 = .ok (.getfield 33, 3) := by decide +kernel
theorem dX11_load_35 : decode cX11_load 35 = .ok (.astore_n 1, 1) := by decide +kernel
theorem dX11_load_36 : decode cX11_load 36 = .ok (.aload_n 0, 1) := by decide +kernel
theorem dX11_load_37 : decode cX11_load 37 = .ok (.aload_n 0, 1) := by decide +kernel
theorem dX11_load_38 : decode cX11_load 38 = .ok (.getfield 19, 3) := by decide +kernel
theorem dX11_load_41 : decode cX11_load 41 = .ok (.getfield 68, 3) := by decide +kernel
theorem dX11_load_44 : decode cX11_load 44 = .ok (.putfield 33, 3) := by decide +kernel
theorem dX11_load_47 : decode cX11_load 47 = .ok (.aload_n 0, 1) := by decide +kernel
theorem dX11_load_48 : decode cX11_load 48 = .ok (.getfield 19, 3) := by decide +kernel
theorem dX11_load_51 : decode cX11_load 51 = .ok (.aload_n 1, 1) := by decide +kernel
theorem dX11_load_52 : decode cX11_load 52 = .ok (.putfield 68, 3) := by decide +kernel
theorem dX11_load_55 : decode cX11_load 55 = .ok (.aload_n 0, 1) := by decide +kernel
theorem dX11_load_56 : decode cX11_load 56 = .ok (.getfield 40, 3) := by decide +kernel
theorem dX11_load_59 : decode cX11_load 59 = .ok (.aload_n 0, 1) := by decide +kernel
theorem dX11_load_60 : decode cX11_load 60 = .ok (.getfield 33, 3) := by decide +kernel
theorem dX11_load_63 : decode cX11_load 63 = .ok (.invokevirtual 71, 3) := by decide +kernel
theorem dX11_load_66 : decode cX11_load 66 = .ok (.aload_n 0, 1) := by decide +kernel
theorem dX11_load_67 : decode cX11_load 67 = .ok (.getfield 47, 3) := by decide +kernel
theorem dX11_load_70 : decode cX11_load 70 = .ok (.iconst 0, 1) := by decide +kernel
theorem dX11_load_71 : decode cX11_load 71 = .ok (.putfield 75, 3) := by decide +kernel
theorem dX11_load_74 : decode cX11_load 74 = .ok (.aload_n 0, 1) := by decide +kernel
theorem dX11_load_75 : decode cX11_load 75 = .ok (.getfield 50, 3) := by decide +kernel
theorem dX11_load_78 : decode cX11_load 78 = .ok (.iconst 0, 1) := by decide +kernel
theorem dX11_load_79 : decode cX11_load 79 = .ok (.putfield 75, 3) := by decide +kernel
theorem dX11_load_82 : decode cX11_load 82 = .ok (.aload_n 0, 1) := by decide +kernel
theorem dX11_load_83 : decode cX11_load 83 = .ok (.getfield 33, 3) := by decide +kernel
theorem dX11_load_86 : decode cX11_load 86 = .ok (.getfield 79, 3) := by decide +kernel
theorem dX11_load_89 : decode cX11_load 89 = .ok (.ireturn, 1) := by decide +kernel
theorem dX11_faultCode_0 : decode cX11_faultCode 0 = .ok (.aload_n 0, 1) := by decide +kernel
theorem dX11_faultCode_1 : decode cX11_faultCode 1 = .ok (.getfield 19, 3) := by decide +kernel
theorem dX11_faultCode_4 : decode cX11_faultCode 4 = .ok (.getfield 65, 3) := by decide +kernel
theorem dX11_faultCode_7 : decode cX11_faultCode 7 = .ok (.ireturn, 1) := by decide +kernel
theorem dX11_faultPosition_0 : decode cX11_faultPosition 0 = .ok (.aload_n 0, 1) := by decide +kernel
theorem dX11_faultPosition_1 : decode cX11_faultPosition 1 = .ok (.getfield 19, 3) := by decide +kernel
theorem dX11_faultPosition_4 : decode cX11_faultPosition 4 = .ok (.getfield 82, 3) := by decide +kernel
theorem dX11_faultPosition_7 : decode cX11_faultPosition 7 = .ok (.ireturn, 1) := by decide +kernel
theorem dX11_nodeCount_0 : decode cX11_nodeCount 0 = .ok (.aload_n 0, 1) := by decide +kernel
theorem dX11_nodeCount_1 : decode cX11_nodeCount 1 = .ok (.getfield 33, 3) := by decide +kernel
theorem dX11_nodeCount_4 : decode cX11_nodeCount 4 = .ok (.getfield 79, 3) := by decide +kernel
theorem dX11_nodeCount_7 : decode cX11_nodeCount 7 = .ok (.ireturn, 1) := by decide +kernel
theorem dX11_nameLetter_0 : decode cX11_nameLetter 0 = .ok (.aload_n 0, 1) := by decide +kernel
theorem dX11_nameLetter_1 : decode cX11_nameLetter 1 = .ok (.getfield 33, 3) := by decide +kernel
theorem dX11_nameLetter_4 : decode cX11_nameLetter 4 = .ok (.iload_n 1, 1) := by decide +kernel
theorem dX11_nameLetter_5 : decode cX11_nameLetter 5 = .ok (.invokevirtual 85, 3) := by decide +kernel
theorem dX11_nameLetter_8 : decode cX11_nameLetter 8 = .ok (.ifCond .eq 23, 3) := by decide +kernel
theorem dX11_nameLetter_11 : decode cX11_nameLetter 11 = .ok (.iload_n 2, 1) := by decide +kernel
theorem dX11_nameLetter_12 : decode cX11_nameLetter 12 = .ok (.ifCond .lt 19, 3) := by decide +kernel
theorem dX11_nameLetter_15 : decode cX11_nameLetter 15 = .ok (.aload_n 0, 1) := by decide +kernel
theorem dX11_nameLetter_16 : decode cX11_nameLetter 16 = .ok (.getfield 33, 3) := by decide +kernel
theorem dX11_nameLetter_19 : decode cX11_nameLetter 19 = .ok (.getfield 89, 3) := by decide +kernel
theorem dX11_nameLetter_22 : decode cX11_nameLetter 22 = .ok (.iload_n 1, 1) := by decide +kernel
theorem dX11_nameLetter_23 : decode cX11_nameLetter 23 = .ok (.laload, 1) := by decide +kernel
theorem dX11_nameLetter_24 : decode cX11_nameLetter 24 = .ok (.iload_n 2, 1) := by decide +kernel
theorem dX11_nameLetter_25 : decode cX11_nameLetter 25 = .ok (.invokestatic 93, 3) := by decide +kernel
theorem dX11_nameLetter_28 : decode cX11_nameLetter 28 = .ok (.goto 4, 3) := by decide +kernel
theorem dX11_nameLetter_31 : decode cX11_nameLetter 31 = .ok (.iconst (-1), 1) := by decide +kernel
theorem dX11_nameLetter_32 : decode cX11_nameLetter 32 = .ok (.ireturn, 1) := by decide +kernel
theorem dX11_parent_0 : decode cX11_parent 0 = .ok (.aload_n 0, 1) := by decide +kernel
theorem dX11_parent_1 : decode cX11_parent 1 = .ok (.getfield 33, 3) := by decide +kernel
theorem dX11_parent_4 : decode cX11_parent 4 = .ok (.iload_n 1, 1) := by decide +kernel
theorem dX11_parent_5 : decode cX11_parent 5 = .ok (.invokevirtual 85, 3) := by decide +kernel
theorem dX11_parent_8 : decode cX11_parent 8 = .ok (.ifCond .eq 15, 3) := by decide +kernel
theorem dX11_parent_11 : decode cX11_parent 11 = .ok (.aload_n 0, 1) := by decide +kernel
theorem dX11_parent_12 : decode cX11_parent 12 = .ok (.getfield 33, 3) := by decide +kernel
theorem dX11_parent_15 : decode cX11_parent 15 = .ok (.getfield 97, 3) := by decide +kernel
theorem dX11_parent_18 : decode cX11_parent 18 = .ok (.iload_n 1, 1) := by decide +kernel
theorem dX11_parent_19 : decode cX11_parent 19 = .ok (.iaload, 1) := by decide +kernel
theorem dX11_parent_20 : decode cX11_parent 20 = .ok (.goto 4, 3) := by decide +kernel
theorem dX11_parent_23 : decode cX11_parent 23 = .ok (.iconst (-1), 1) := by decide +kernel
theorem dX11_parent_24 : decode cX11_parent 24 = .ok (.ireturn, 1) := by decide +kernel
theorem dX11_child_0 : decode cX11_child 0 = .ok (.aload_n 0, 1) := by decide +kernel
theorem dX11_child_1 : decode cX11_child 1 = .ok (.getfield 33, 3) := by decide +kernel
theorem dX11_child_4 : decode cX11_child 4 = .ok (.iload_n 1, 1) := by decide +kernel
theorem dX11_child_5 : decode cX11_child 5 = .ok (.invokevirtual 85, 3) := by decide +kernel
theorem dX11_child_8 : decode cX11_child 8 = .ok (.ifCond .eq 19, 3) := by decide +kernel
theorem dX11_child_11 : decode cX11_child 11 = .ok (.iload_n 2, 1) := by decide +kernel
theorem dX11_child_12 : decode cX11_child 12 = .ok (.ifCond .lt 15, 3) := by decide +kernel
theorem dX11_child_15 : decode cX11_child 15 = .ok (.aload_n 0, 1) := by decide +kernel
theorem dX11_child_16 : decode cX11_child 16 = .ok (.getfield 33, 3) := by decide +kernel
theorem dX11_child_19 : decode cX11_child 19 = .ok (.iload_n 1, 1) := by decide +kernel
theorem dX11_child_20 : decode cX11_child 20 = .ok (.iload_n 2, 1) := by decide +kernel
theorem dX11_child_21 : decode cX11_child 21 = .ok (.invokevirtual 101, 3) := by decide +kernel
theorem dX11_child_24 : decode cX11_child 24 = .ok (.goto 4, 3) := by decide +kernel
theorem dX11_child_27 : decode cX11_child 27 = .ok (.iconst (-1), 1) := by decide +kernel
theorem dX11_child_28 : decode cX11_child 28 = .ok (.ireturn, 1) := by decide +kernel
theorem dX11_isLeaf_0 : decode cX11_isLeaf 0 = .ok (.aload_n 0, 1) := by decide +kernel
theorem dX11_isLeaf_1 : decode cX11_isLeaf 1 = .ok (.getfield 33, 3) := by decide +kernel
theorem dX11_isLeaf_4 : decode cX11_isLeaf 4 = .ok (.iload_n 1, 1) := by decide +kernel
theorem dX11_isLeaf_5 : decode cX11_isLeaf 5 = .ok (.invokevirtual 105, 3) := by decide +kernel
theorem dX11_isLeaf_8 : decode cX11_isLeaf 8 = .ok (.ireturn, 1) := by decide +kernel
theorem dX11_depth_0 : decode cX11_depth 0 = .ok (.aload_n 0, 1) := by decide +kernel
theorem dX11_depth_1 : decode cX11_depth 1 = .ok (.getfield 33, 3) := by decide +kernel
theorem dX11_depth_4 : decode cX11_depth 4 = .ok (.iload_n 1, 1) := by decide +kernel
theorem dX11_depth_5 : decode cX11_depth 5 = .ok (.invokevirtual 85, 3) := by decide +kernel
theorem dX11_depth_8 : decode cX11_depth 8 = .ok (.ifCond .eq 15, 3) := by decide +kernel
theorem dX11_depth_11 : decode cX11_depth 11 = .ok (.aload_n 0, 1) := by decide +kernel
theorem dX11_depth_12 : decode cX11_depth 12 = .ok (.getfield 33, 3) := by decide +kernel
theorem dX11_depth_15 : decode cX11_depth 15 = .ok (.getfield 108, 3) := by decide +kernel
theorem dX11_depth_18 : decode cX11_depth 18 = .ok (.iload_n 1, 1) := by decide +kernel
theorem dX11_depth_19 : decode cX11_depth 19 = .ok (.iaload, 1) := by decide +kernel
theorem dX11_depth_20 : decode cX11_depth 20 = .ok (.goto 4, 3) := by decide +kernel
theorem dX11_depth_23 : decode cX11_depth 23 = .ok (.iconst (-1), 1) := by decide +kernel
theorem dX11_depth_24 : decode cX11_depth 24 = .ok (.ireturn, 1) := by decide +kernel
theorem dX11_rate_0 : decode cX11_rate 0 = .ok (.aload_n 0, 1) := by decide +kernel
theorem dX11_rate_1 : decode cX11_rate 1 = .ok (.getfield 33, 3) := by decide +kernel
theorem dX11_rate_4 : decode cX11_rate 4 = .ok (.iload_n 1, 1) := by decide +kernel
theorem dX11_rate_5 : decode cX11_rate 5 = .ok (.invokevirtual 85, 3) := by decide +kernel
theorem dX11_rate_8 : decode cX11_rate 8 = .ok (.ifCond .eq 15, 3) := by decide +kernel
theorem dX11_rate_11 : decode cX11_rate 11 = .ok (.aload_n 0, 1) := by decide +kernel
theorem dX11_rate_12 : decode cX11_rate 12 = .ok (.getfield 40, 3) := by decide +kernel
theorem dX11_rate_15 : decode cX11_rate 15 = .ok (.getfield 111, 3) := by decide +kernel
theorem dX11_rate_18 : decode cX11_rate 18 = .ok (.iload_n 1, 1) := by decide +kernel
theorem dX11_rate_19 : decode cX11_rate 19 = .ok (.iaload, 1) := by decide +kernel
theorem dX11_rate_20 : decode cX11_rate 20 = .ok (.goto 4, 3) := by decide +kernel
theorem dX11_rate_23 : decode cX11_rate 23 = .ok (.iconst (-1), 1) := by decide +kernel
theorem dX11_rate_24 : decode cX11_rate 24 = .ok (.ireturn, 1) := by decide +kernel
theorem dX11_ceiling_0 : decode cX11_ceiling 0 = .ok (.aload_n 0, 1) := by decide +kernel
theorem dX11_ceiling_1 : decode cX11_ceiling 1 = .ok (.getfield 33, 3) := by decide +kernel
theorem dX11_ceiling_4 : decode cX11_ceiling 4 = .ok (.iload_n 1, 1) := by decide +kernel
theorem dX11_ceiling_5 : decode cX11_ceiling 5 = .ok (.invokevirtual 85, 3) := by decide +kernel
theorem dX11_ceiling_8 : decode cX11_ceiling 8 = .ok (.ifCond .eq 15, 3) := by decide +kernel
theorem dX11_ceiling_11 : decode cX11_ceiling 11 = .ok (.aload_n 0, 1) := by decide +kernel
theorem dX11_ceiling_12 : decode cX11_ceiling 12 = .ok (.getfield 40, 3) := by decide +kernel
theorem dX11_ceiling_15 : decode cX11_ceiling 15 = .ok (.getfield 114, 3) := by decide +kernel
theorem dX11_ceiling_18 : decode cX11_ceiling 18 = .ok (.iload_n 1, 1) := by decide +kernel
theorem dX11_ceiling_19 : decode cX11_ceiling 19 = .ok (.iaload, 1) := by decide +kernel
theorem dX11_ceiling_20 : decode cX11_ceiling 20 = .ok (.goto 4, 3) := by decide +kernel
theorem dX11_ceiling_23 : decode cX11_ceiling 23 = .ok (.iconst (-1), 1) := by decide +kernel
theorem dX11_ceiling_24 : decode cX11_ceiling 24 = .ok (.ireturn, 1) := by decide +kernel
theorem dX11_burst_0 : decode cX11_burst 0 = .ok (.aload_n 0, 1) := by decide +kernel
theorem dX11_burst_1 : decode cX11_burst 1 = .ok (.getfield 33, 3) := by decide +kernel
theorem dX11_burst_4 : decode cX11_burst 4 = .ok (.iload_n 1, 1) := by decide +kernel
theorem dX11_burst_5 : decode cX11_burst 5 = .ok (.invokevirtual 85, 3) := by decide +kernel
theorem dX11_burst_8 : decode cX11_burst 8 = .ok (.ifCond .eq 15, 3) := by decide +kernel
theorem dX11_burst_11 : decode cX11_burst 11 = .ok (.aload_n 0, 1) := by decide +kernel
theorem dX11_burst_12 : decode cX11_burst 12 = .ok (.getfield 33, 3) := by decide +kernel
theorem dX11_burst_15 : decode cX11_burst 15 = .ok (.getfield 117, 3) := by decide +kernel
theorem dX11_burst_18 : decode cX11_burst 18 = .ok (.iload_n 1, 1) := by decide +kernel
theorem dX11_burst_19 : decode cX11_burst 19 = .ok (.iaload, 1) := by decide +kernel
theorem dX11_burst_20 : decode cX11_burst 20 = .ok (.goto 4, 3) := by decide +kernel
theorem dX11_burst_23 : decode cX11_burst 23 = .ok (.iconst (-1), 1) := by decide +kernel
theorem dX11_burst_24 : decode cX11_burst 24 = .ok (.ireturn, 1) := by decide +kernel
theorem dX11_creditLimit_0 : decode cX11_creditLimit 0 = .ok (.aload_n 0, 1) := by decide +kernel
theorem dX11_creditLimit_1 : decode cX11_creditLimit 1 = .ok (.getfield 33, 3) := by decide +kernel
theorem dX11_creditLimit_4 : decode cX11_creditLimit 4 = .ok (.iload_n 1, 1) := by decide +kernel
theorem dX11_creditLimit_5 : decode cX11_creditLimit 5 = .ok (.invokevirtual 85, 3) := by decide +kernel
theorem dX11_creditLimit_8 : decode cX11_creditLimit 8 = .ok (.ifCond .eq 15, 3) := by decide +kernel
theorem dX11_creditLimit_11 : decode cX11_creditLimit 11 = .ok (.aload_n 0, 1) := by decide +kernel
theorem dX11_creditLimit_12 : decode cX11_creditLimit 12 = .ok (.getfield 33, 3) := by decide +kernel
theorem dX11_creditLimit_15 : decode cX11_creditLimit 15 = .ok (.getfield 120, 3) := by decide +kernel
theorem dX11_creditLimit_18 : decode cX11_creditLimit 18 = .ok (.iload_n 1, 1) := by decide +kernel
theorem dX11_creditLimit_19 : decode cX11_creditLimit 19 = .ok (.iaload, 1) := by decide +kernel
theorem dX11_creditLimit_20 : decode cX11_creditLimit 20 = .ok (.goto 4, 3) := by decide +kernel
theorem dX11_creditLimit_23 : decode cX11_creditLimit 23 = .ok (.iconst (-1), 1) := by decide +kernel
theorem dX11_creditLimit_24 : decode cX11_creditLimit 24 = .ok (.ireturn, 1) := by decide +kernel
theorem dX11_weight_0 : decode cX11_weight 0 = .ok (.aload_n 0, 1) := by decide +kernel
theorem dX11_weight_1 : decode cX11_weight 1 = .ok (.getfield 33, 3) := by decide +kernel
theorem dX11_weight_4 : decode cX11_weight 4 = .ok (.iload_n 1, 1) := by decide +kernel
theorem dX11_weight_5 : decode cX11_weight 5 = .ok (.invokevirtual 85, 3) := by decide +kernel
theorem dX11_weight_8 : decode cX11_weight 8 = .ok (.ifCond .eq 15, 3) := by decide +kernel
theorem dX11_weight_11 : decode cX11_weight 11 = .ok (.aload_n 0, 1) := by decide +kernel
theorem dX11_weight_12 : decode cX11_weight 12 = .ok (.getfield 40, 3) := by decide +kernel
theorem dX11_weight_15 : decode cX11_weight 15 = .ok (.getfield 123, 3) := by decide +kernel
theorem dX11_weight_18 : decode cX11_weight 18 = .ok (.iload_n 1, 1) := by decide +kernel
theorem dX11_weight_19 : decode cX11_weight 19 = .ok (.iaload, 1) := by decide +kernel
theorem dX11_weight_20 : decode cX11_weight 20 = .ok (.goto 4, 3) := by decide +kernel
theorem dX11_weight_23 : decode cX11_weight 23 = .ok (.iconst (-1), 1) := by decide +kernel
theorem dX11_weight_24 : decode cX11_weight 24 = .ok (.ireturn, 1) := by decide +kernel
theorem dX11_priority_0 : decode cX11_priority 0 = .ok (.aload_n 0, 1) := by decide +kernel
theorem dX11_priority_1 : decode cX11_priority 1 = .ok (.getfield 33, 3) := by decide +kernel
theorem dX11_priority_4 : decode cX11_priority 4 = .ok (.iload_n 1, 1) := by decide +kernel
theorem dX11_priority_5 : decode cX11_priority 5 = .ok (.invokevirtual 85, 3) := by decide +kernel
theorem dX11_priority_8 : decode cX11_priority 8 = .ok (.ifCond .eq 15, 3) := by decide +kernel
theorem dX11_priority_11 : decode cX11_priority 11 = .ok (.aload_n 0, 1) := by decide +kernel
theorem dX11_priority_12 : decode cX11_priority 12 = .ok (.getfield 33, 3) := by decide +kernel
theorem dX11_priority_15 : decode cX11_priority 15 = .ok (.getfield 126, 3) := by decide +kernel
theorem dX11_priority_18 : decode cX11_priority 18 = .ok (.iload_n 1, 1) := by decide +kernel
theorem dX11_priority_19 : decode cX11_priority 19 = .ok (.iaload, 1) := by decide +kernel
theorem dX11_priority_20 : decode cX11_priority 20 = .ok (.goto 4, 3) := by decide +kernel
theorem dX11_priority_23 : decode cX11_priority 23 = .ok (.iconst (-1), 1) := by decide +kernel
theorem dX11_priority_24 : decode cX11_priority 24 = .ok (.ireturn, 1) := by decide +kernel
theorem dX11_mayBorrow_0 : decode cX11_mayBorrow 0 = .ok (.aload_n 0, 1) := by decide +kernel
theorem dX11_mayBorrow_1 : decode cX11_mayBorrow 1 = .ok (.getfield 33, 3) := by decide +kernel
theorem dX11_mayBorrow_4 : decode cX11_mayBorrow 4 = .ok (.iload_n 1, 1) := by decide +kernel
theorem dX11_mayBorrow_5 : decode cX11_mayBorrow 5 = .ok (.invokevirtual 85, 3) := by decide +kernel
theorem dX11_mayBorrow_8 : decode cX11_mayBorrow 8 = .ok (.ifCond .eq 19, 3) := by decide +kernel
theorem dX11_mayBorrow_11 : decode cX11_mayBorrow 11 = .ok (.aload_n 0, 1) := by decide +kernel
theorem dX11_mayBorrow_12 : decode cX11_mayBorrow 12 = .ok (.getfield 33, 3) := by decide +kernel
theorem dX11_mayBorrow_15 : decode cX11_mayBorrow 15 = .ok (.getfield 129, 3) := by decide +kernel
theorem dX11_mayBorrow_18 : decode cX11_mayBorrow 18 = .ok (.iload_n 1, 1) := by decide +kernel
theorem dX11_mayBorrow_19 : decode cX11_mayBorrow 19 = .ok (.baload, 1) := by decide +kernel
theorem dX11_mayBorrow_20 : decode cX11_mayBorrow 20 = .ok (.ifCond .ne 7, 3) := by decide +kernel
theorem dX11_mayBorrow_23 : decode cX11_mayBorrow 23 = .ok (.iconst 1, 1) := by decide +kernel
theorem dX11_mayBorrow_24 : decode cX11_mayBorrow 24 = .ok (.goto 4, 3) := by decide +kernel
theorem dX11_mayBorrow_27 : decode cX11_mayBorrow 27 = .ok (.iconst 0, 1) := by decide +kernel
theorem dX11_mayBorrow_28 : decode cX11_mayBorrow 28 = .ok (.ireturn, 1) := by decide +kernel
theorem dX11_isOversubscribed_0 : decode cX11_isOversubscribed 0 = .ok (.aload_n 0, 1) := by decide +kernel
theorem dX11_isOversubscribed_1 : decode cX11_isOversubscribed 1 = .ok (.getfield 33, 3) := by decide +kernel
theorem dX11_isOversubscribed_4 : decode cX11_isOversubscribed 4 = .ok (.iload_n 1, 1) := by decide +kernel
theorem dX11_isOversubscribed_5 : decode cX11_isOversubscribed 5 = .ok (.invokevirtual 85, 3) := by decide +kernel
theorem dX11_isOversubscribed_8 : decode cX11_isOversubscribed 8 = .ok (.ifCond .eq 31, 3) := by decide +kernel
theorem dX11_isOversubscribed_11 : decode cX11_isOversubscribed 11 = .ok (.aload_n 0, 1) := by decide +kernel
theorem dX11_isOversubscribed_12 : decode cX11_isOversubscribed 12 = .ok (.getfield 40, 3) := by decide +kernel
theorem dX11_isOversubscribed_15 : decode cX11_isOversubscribed 15 = .ok (.aload_n 0, 1) := by decide +kernel
theorem dX11_isOversubscribed_16 : decode cX11_isOversubscribed 16 = .ok (.getfield 33, 3) := by decide +kernel
theorem dX11_isOversubscribed_19 : decode cX11_isOversubscribed 19 = .ok (.iload_n 1, 1) := by decide +kernel
theorem dX11_isOversubscribed_20 : decode cX11_isOversubscribed 20 = .ok (.invokevirtual 133, 3) := by decide +kernel
theorem dX11_isOversubscribed_23 : decode cX11_isOversubscribed 23 = .ok (.aload_n 0, 1) := by decide +kernel
theorem dX11_isOversubscribed_24 : decode cX11_isOversubscribed 24 = .ok (.getfield 40, 3) := by decide +kernel
theorem dX11_isOversubscribed_27 : decode cX11_isOversubscribed 27 = .ok (.getfield 111, 3) := by decide +kernel
theorem dX11_isOversubscribed_30 : decode cX11_isOversubscribed 30 = .ok (.iload_n 1, 1) := by decide +kernel
theorem dX11_isOversubscribed_31 : decode cX11_isOversubscribed 31 = .ok (.iaload, 1) := by decide +kernel
theorem dX11_isOversubscribed_32 : decode cX11_isOversubscribed 32 = .ok (.if_icmp .le 7, 3) := by decide +kernel
theorem dX11_isOversubscribed_35 : decode cX11_isOversubscribed 35 = .ok (.iconst 1, 1) := by decide +kernel
theorem dX11_isOversubscribed_36 : decode cX11_isOversubscribed 36 = .ok (.goto 4, 3) := by decide +kernel
theorem dX11_isOversubscribed_39 : decode cX11_isOversubscribed 39 = .ok (.iconst 0, 1) := by decide +kernel
theorem dX11_isOversubscribed_40 : decode cX11_isOversubscribed 40 = .ok (.ireturn, 1) := by decide +kernel
theorem dX11_pathCeiling_0 : decode cX11_pathCeiling 0 = .ok (.aload_n 0, 1) := by decide +kernel
theorem dX11_pathCeiling_1 : decode cX11_pathCeiling 1 = .ok (.getfield 33, 3) := by decide +kernel
theorem dX11_pathCeiling_4 : decode cX11_pathCeiling 4 = .ok (.iload_n 1, 1) := by decide +kernel
theorem dX11_pathCeiling_5 : decode cX11_pathCeiling 5 = .ok (.invokevirtual 85, 3) := by decide +kernel
theorem dX11_pathCeiling_8 : decode cX11_pathCeiling 8 = .ok (.ifCond .eq 18, 3) := by decide +kernel
theorem dX11_pathCeiling_11 : decode cX11_pathCeiling 11 = .ok (.aload_n 0, 1) := by decide +kernel
theorem dX11_pathCeiling_12 : decode cX11_pathCeiling 12 = .ok (.getfield 40, 3) := by decide +kernel
theorem dX11_pathCeiling_15 : decode cX11_pathCeiling 15 = .ok (.aload_n 0, 1) := by decide +kernel
theorem dX11_pathCeiling_16 : decode cX11_pathCeiling 16 = .ok (.getfield 33, 3) := by decide +kernel
theorem dX11_pathCeiling_19 : decode cX11_pathCeiling 19 = .ok (.iload_n 1, 1) := by decide +kernel
theorem dX11_pathCeiling_20 : decode cX11_pathCeiling 20 = .ok (.invokevirtual 137, 3) := by decide +kernel
theorem dX11_pathCeiling_23 : decode cX11_pathCeiling 23 = .ok (.goto 4, 3) := by decide +kernel
theorem dX11_pathCeiling_26 : decode cX11_pathCeiling 26 = .ok (.iconst (-1), 1) := by decide +kernel
theorem dX11_pathCeiling_27 : decode cX11_pathCeiling 27 = .ok (.ireturn, 1) := by decide +kernel
theorem dX11_time_0 : decode cX11_time 0 = .ok (.aload_n 0, 1) := by decide +kernel
theorem dX11_time_1 : decode cX11_time 1 = .ok (.getfield 40, 3) := by decide +kernel
theorem dX11_time_4 : decode cX11_time 4 = .ok (.getfield 140, 3) := by decide +kernel
theorem dX11_time_7 : decode cX11_time 7 = .ok (.ireturn, 1) := by decide +kernel
theorem dX11_tokens_0 : decode cX11_tokens 0 = .ok (.aload_n 0, 1) := by decide +kernel
theorem dX11_tokens_1 : decode cX11_tokens 1 = .ok (.getfield 33, 3) := by decide +kernel
theorem dX11_tokens_4 : decode cX11_tokens 4 = .ok (.iload_n 1, 1) := by decide +kernel
theorem dX11_tokens_5 : decode cX11_tokens 5 = .ok (.invokevirtual 85, 3) := by decide +kernel
theorem dX11_tokens_8 : decode cX11_tokens 8 = .ok (.ifCond .eq 18, 3) := by decide +kernel
theorem dX11_tokens_11 : decode cX11_tokens 11 = .ok (.aload_n 0, 1) := by decide +kernel
theorem dX11_tokens_12 : decode cX11_tokens 12 = .ok (.getfield 40, 3) := by decide +kernel
theorem dX11_tokens_15 : decode cX11_tokens 15 = .ok (.getfield 143, 3) := by decide +kernel
theorem dX11_tokens_18 : decode cX11_tokens 18 = .ok (.getfield 147, 3) := by decide +kernel
theorem dX11_tokens_21 : decode cX11_tokens 21 = .ok (.iload_n 1, 1) := by decide +kernel
theorem dX11_tokens_22 : decode cX11_tokens 22 = .ok (.iaload, 1) := by decide +kernel
theorem dX11_tokens_23 : decode cX11_tokens 23 = .ok (.goto 4, 3) := by decide +kernel
theorem dX11_tokens_26 : decode cX11_tokens 26 = .ok (.iconst (-1), 1) := by decide +kernel
theorem dX11_tokens_27 : decode cX11_tokens 27 = .ok (.ireturn, 1) := by decide +kernel
theorem dX11_credit_0 : decode cX11_credit 0 = .ok (.aload_n 0, 1) := by decide +kernel
theorem dX11_credit_1 : decode cX11_credit 1 = .ok (.getfield 33, 3) := by decide +kernel
theorem dX11_credit_4 : decode cX11_credit 4 = .ok (.iload_n 1, 1) := by decide +kernel
theorem dX11_credit_5 : decode cX11_credit 5 = .ok (.invokevirtual 85, 3) := by decide +kernel
theorem dX11_credit_8 : decode cX11_credit 8 = .ok (.ifCond .eq 18, 3) := by decide +kernel
theorem dX11_credit_11 : decode cX11_credit 11 = .ok (.aload_n 0, 1) := by decide +kernel
theorem dX11_credit_12 : decode cX11_credit 12 = .ok (.getfield 40, 3) := by decide +kernel
theorem dX11_credit_15 : decode cX11_credit 15 = .ok (.getfield 143, 3) := by decide +kernel
theorem dX11_credit_18 : decode cX11_credit 18 = .ok (.getfield 152, 3) := by decide +kernel
theorem dX11_credit_21 : decode cX11_credit 21 = .ok (.iload_n 1, 1) := by decide +kernel
theorem dX11_credit_22 : decode cX11_credit 22 = .ok (.iaload, 1) := by decide +kernel
theorem dX11_credit_23 : decode cX11_credit 23 = .ok (.goto 4, 3) := by decide +kernel
theorem dX11_credit_26 : decode cX11_credit 26 = .ok (.iconst (-1), 1) := by decide +kernel
theorem dX11_credit_27 : decode cX11_credit 27 = .ok (.ireturn, 1) := by decide +kernel
theorem dX11_headroom_0 : decode cX11_headroom 0 = .ok (.aload_n 0, 1) := by decide +kernel
theorem dX11_headroom_1 : decode cX11_headroom 1 = .ok (.getfield 33, 3) := by decide +kernel
theorem dX11_headroom_4 : decode cX11_headroom 4 = .ok (.iload_n 1, 1) := by decide +kernel
theorem dX11_headroom_5 : decode cX11_headroom 5 = .ok (.invokevirtual 85, 3) := by decide +kernel
theorem dX11_headroom_8 : decode cX11_headroom 8 = .ok (.ifCond .eq 18, 3) := by decide +kernel
theorem dX11_headroom_11 : decode cX11_headroom 11 = .ok (.aload_n 0, 1) := by decide +kernel
theorem dX11_headroom_12 : decode cX11_headroom 12 = .ok (.getfield 40, 3) := by decide +kernel
theorem dX11_headroom_15 : decode cX11_headroom 15 = .ok (.getfield 143, 3) := by decide +kernel
theorem dX11_headroom_18 : decode cX11_headroom 18 = .ok (.getfield 155, 3) := by decide +kernel
theorem dX11_headroom_21 : decode cX11_headroom 21 = .ok (.iload_n 1, 1) := by decide +kernel
theorem dX11_headroom_22 : decode cX11_headroom 22 = .ok (.iaload, 1) := by decide +kernel
theorem dX11_headroom_23 : decode cX11_headroom 23 = .ok (.goto 4, 3) := by decide +kernel
theorem dX11_headroom_26 : decode cX11_headroom 26 = .ok (.iconst (-1), 1) := by decide +kernel
theorem dX11_headroom_27 : decode cX11_headroom 27 = .ok (.ireturn, 1) := by decide +kernel
theorem dX11_lender_0 : decode cX11_lender 0 = .ok (.aload_n 0, 1) := by decide +kernel
theorem dX11_lender_1 : decode cX11_lender 1 = .ok (.iload_n 1, 1) := by decide +kernel
theorem dX11_lender_2 : decode cX11_lender 2 = .ok (.iload_n 2, 1) := by decide +kernel
theorem dX11_lender_3 : decode cX11_lender 3 = .ok (.invokevirtual 158, 3) := by decide +kernel
theorem dX11_lender_6 : decode cX11_lender 6 = .ok (.ifCond .eq 22, 3) := by decide +kernel
theorem dX11_lender_9 : decode cX11_lender 9 = .ok (.aload_n 0, 1) := by decide +kernel
theorem dX11_lender_10 : decode cX11_lender 10 = .ok (.getfield 40, 3) := by decide +kernel
theorem dX11_lender_13 : decode cX11_lender 13 = .ok (.getfield 143, 3) := by decide +kernel
theorem dX11_lender_16 : decode cX11_lender 16 = .ok (.aload_n 0, 1) := by decide +kernel
theorem dX11_lender_17 : decode cX11_lender 17 = .ok (.getfield 33, 3) := by decide +kernel
theorem dX11_lender_20 : decode cX11_lender 20 = .ok (.iload_n 1, 1) := by decide +kernel
theorem dX11_lender_21 : decode cX11_lender 21 = .ok (.iload_n 2, 1) := by decide +kernel
theorem dX11_lender_22 : decode cX11_lender 22 = .ok (.invokevirtual 162, 3) := by decide +kernel
theorem dX11_lender_25 : decode cX11_lender 25 = .ok (.goto 4, 3) := by decide +kernel
theorem dX11_lender_28 : decode cX11_lender 28 = .ok (.iconst (-1), 1) := by decide +kernel
theorem dX11_lender_29 : decode cX11_lender 29 = .ok (.ireturn, 1) := by decide +kernel
theorem dX11_greatestCost_0 : decode cX11_greatestCost 0 = .ok (.aload_n 0, 1) := by decide +kernel
theorem dX11_greatestCost_1 : decode cX11_greatestCost 1 = .ok (.getfield 33, 3) := by decide +kernel
theorem dX11_greatestCost_4 : decode cX11_greatestCost 4 = .ok (.iload_n 1, 1) := by decide +kernel
theorem dX11_greatestCost_5 : decode cX11_greatestCost 5 = .ok (.invokevirtual 105, 3) := by decide +kernel
theorem dX11_greatestCost_8 : decode cX11_greatestCost 8 = .ok (.ifCond .ne 5, 3) := by decide +kernel
theorem dX11_greatestCost_11 : decode cX11_greatestCost 11 = .ok (.iconst (-1), 1) := by decide +kernel
theorem dX11_greatestCost_12 : decode cX11_greatestCost 12 = .ok (.ireturn, 1) := by decide +kernel
theorem dX11_greatestCost_13 : decode cX11_greatestCost 13 = .ok (.bipush 99, 2) := by decide +kernel
theorem dX11_greatestCost_15 : decode cX11_greatestCost 15 = .ok (.istore_n 2, 1) := by decide +kernel
theorem dX11_greatestCost_16 : decode cX11_greatestCost 16 = .ok (.iload_n 2, 1) := by decide +kernel
theorem dX11_greatestCost_17 : decode cX11_greatestCost 17 = .ok (.ifCond .le 32, 3) := by decide +kernel
theorem dX11_greatestCost_20 : decode cX11_greatestCost 20 = .ok (.aload_n 0, 1) := by decide +kernel
theorem dX11_greatestCost_21 : decode cX11_greatestCost 21 = .ok (.getfield 40, 3) := by decide +kernel
theorem dX11_greatestCost_24 : decode cX11_greatestCost 24 = .ok (.getfield 143, 3) := by decide +kernel
theorem dX11_greatestCost_27 : decode cX11_greatestCost 27 = .ok (.aload_n 0, 1) := by decide +kernel
theorem dX11_greatestCost_28 : decode cX11_greatestCost 28 = .ok (.getfield 33, 3) := by decide +kernel
theorem dX11_greatestCost_31 : decode cX11_greatestCost 31 = .ok (.iload_n 1, 1) := by decide +kernel
theorem dX11_greatestCost_32 : decode cX11_greatestCost 32 = .ok (.iload_n 2, 1) := by decide +kernel
theorem dX11_greatestCost_33 : decode cX11_greatestCost 33 = .ok (.invokevirtual 162, 3) := by decide +kernel
theorem dX11_greatestCost_36 : decode cX11_greatestCost 36 = .ok (.bipush (-2), 2) := by decide +kernel
theorem dX11_greatestCost_38 : decode cX11_greatestCost 38 = .ok (.if_icmp .eq 5, 3) := by decide +kernel
theorem dX11_greatestCost_41 : decode cX11_greatestCost 41 = .ok (.iload_n 2, 1) := by decide +kernel
theorem dX11_greatestCost_42 : decode cX11_greatestCost 42 = .ok (.ireturn, 1) := by decide +kernel
theorem dX11_greatestCost_43 : decode cX11_greatestCost 43 = .ok (.iinc 2 (-1), 3) := by decide +kernel
theorem dX11_greatestCost_46 : decode cX11_greatestCost 46 = .ok (.goto (-30), 3) := by decide +kernel
theorem dX11_greatestCost_49 : decode cX11_greatestCost 49 = .ok (.iconst 0, 1) := by decide +kernel
theorem dX11_greatestCost_50 : decode cX11_greatestCost 50 = .ok (.ireturn, 1) := by decide +kernel
theorem dX11_acquire_0 : decode cX11_acquire 0 = .ok (.aload_n 0, 1) := by decide +kernel
theorem dX11_acquire_1 : decode cX11_acquire 1 = .ok (.iload_n 1, 1) := by decide +kernel
theorem dX11_acquire_2 : decode cX11_acquire 2 = .ok (.iload_n 2, 1) := by decide +kernel
theorem dX11_acquire_3 : decode cX11_acquire 3 = .ok (.invokevirtual 158, 3) := by decide +kernel
theorem dX11_acquire_6 : decode cX11_acquire 6 = .ok (.ifCond .ne 5, 3) := by decide +kernel
theorem dX11_acquire_9 : decode cX11_acquire 9 = .ok (.iconst (-1), 1) := by decide +kernel
theorem dX11_acquire_10 : decode cX11_acquire 10 = .ok (.ireturn, 1) := by decide +kernel
theorem dX11_acquire_11 : decode cX11_acquire 11 = .ok (.aload_n 0, 1) := by decide +kernel
theorem dX11_acquire_12 : decode cX11_acquire 12 = .ok (.getfield 40, 3) := by decide +kernel
theorem dX11_acquire_15 : decode cX11_acquire 15 = .ok (.getfield 143, 3) := by decide +kernel
theorem dX11_acquire_18 : decode cX11_acquire 18 = .ok (.aload_n 0, 1) := by decide +kernel
theorem dX11_acquire_19 : decode cX11_acquire 19 = .ok (.getfield 33, 3) := by decide +kernel
theorem dX11_acquire_22 : decode cX11_acquire 22 = .ok (.iload_n 1, 1) := by decide +kernel
theorem dX11_acquire_23 : decode cX11_acquire 23 = .ok (.iload_n 2, 1) := by decide +kernel
theorem dX11_acquire_24 : decode cX11_acquire 24 = .ok (.invokevirtual 162, 3) := by decide +kernel
theorem dX11_acquire_27 : decode cX11_acquire 27 = .ok (.istore_n 3, 1) := by decide +kernel
theorem dX11_acquire_28 : decode cX11_acquire 28 = .ok (.iload_n 3, 1) := by decide +kernel
theorem dX11_acquire_29 : decode cX11_acquire 29 = .ok (.bipush (-2), 2) := by decide +kernel
theorem dX11_acquire_31 : decode cX11_acquire 31 = .ok (.if_icmp .ne 6, 3) := by decide +kernel
theorem dX11_acquire_34 : decode cX11_acquire 34 = .ok (.bipush (-2), 2) := by decide +kernel
theorem dX11_acquire_36 : decode cX11_acquire 36 = .ok (.ireturn, 1) := by decide +kernel
theorem dX11_acquire_37 : decode cX11_acquire 37 = .ok (.aload_n 0, 1) := by decide +kernel
theorem dX11_acquire_38 : decode cX11_acquire 38 = .ok (.getfield 40, 3) := by decide +kernel
theorem dX11_acquire_41 : decode cX11_acquire 41 = .ok (.aload_n 0, 1) := by decide +kernel
theorem dX11_acquire_42 : decode cX11_acquire 42 = .ok (.getfield 33, 3) := by decide +kernel
theorem dX11_acquire_45 : decode cX11_acquire 45 = .ok (.iload_n 1, 1) := by decide +kernel
theorem dX11_acquire_46 : decode cX11_acquire 46 = .ok (.iload_n 3, 1) := by decide +kernel
theorem dX11_acquire_47 : decode cX11_acquire 47 = .ok (.iload_n 2, 1) := by decide +kernel
theorem dX11_acquire_48 : decode cX11_acquire 48 = .ok (.invokevirtual 166, 3) := by decide +kernel
theorem dX11_acquire_51 : decode cX11_acquire 51 = .ok (.aload_n 0, 1) := by decide +kernel
theorem dX11_acquire_52 : decode cX11_acquire 52 = .ok (.getfield 33, 3) := by decide +kernel
theorem dX11_acquire_55 : decode cX11_acquire 55 = .ok (.iload_n 1, 1) := by decide +kernel
theorem dX11_acquire_56 : decode cX11_acquire 56 = .ok (.iload_n 3, 1) := by decide +kernel
theorem dX11_acquire_57 : decode cX11_acquire 57 = .ok (.invokevirtual 170, 3) := by decide +kernel
theorem dX11_acquire_60 : decode cX11_acquire 60 = .ok (.ireturn, 1) := by decide +kernel
theorem dX11_waitTime_0 : decode cX11_waitTime 0 = .ok (.aload_n 0, 1) := by decide +kernel
theorem dX11_waitTime_1 : decode cX11_waitTime 1 = .ok (.iload_n 1, 1) := by decide +kernel
theorem dX11_waitTime_2 : decode cX11_waitTime 2 = .ok (.iload_n 2, 1) := by decide +kernel
theorem dX11_waitTime_3 : decode cX11_waitTime 3 = .ok (.invokevirtual 158, 3) := by decide +kernel
theorem dX11_waitTime_6 : decode cX11_waitTime 6 = .ok (.ifCond .eq 19, 3) := by decide +kernel
theorem dX11_waitTime_9 : decode cX11_waitTime 9 = .ok (.aload_n 0, 1) := by decide +kernel
theorem dX11_waitTime_10 : decode cX11_waitTime 10 = .ok (.getfield 40, 3) := by decide +kernel
theorem dX11_waitTime_13 : decode cX11_waitTime 13 = .ok (.aload_n 0, 1) := by decide +kernel
theorem dX11_waitTime_14 : decode cX11_waitTime 14 = .ok (.getfield 33, 3) := by decide +kernel
theorem dX11_waitTime_17 : decode cX11_waitTime 17 = .ok (.iload_n 1, 1) := by decide +kernel
theorem dX11_waitTime_18 : decode cX11_waitTime 18 = .ok (.iload_n 2, 1) := by decide +kernel
theorem dX11_waitTime_19 : decode cX11_waitTime 19 = .ok (.invokevirtual 176, 3) := by decide +kernel
theorem dX11_waitTime_22 : decode cX11_waitTime 22 = .ok (.goto 4, 3) := by decide +kernel
theorem dX11_waitTime_25 : decode cX11_waitTime 25 = .ok (.iconst (-1), 1) := by decide +kernel
theorem dX11_waitTime_26 : decode cX11_waitTime 26 = .ok (.ireturn, 1) := by decide +kernel
theorem dX11_repeats_0 : decode cX11_repeats 0 = .ok (.aload_n 0, 1) := by decide +kernel
theorem dX11_repeats_1 : decode cX11_repeats 1 = .ok (.iload_n 1, 1) := by decide +kernel
theorem dX11_repeats_2 : decode cX11_repeats 2 = .ok (.iload_n 2, 1) := by decide +kernel
theorem dX11_repeats_3 : decode cX11_repeats 3 = .ok (.invokevirtual 158, 3) := by decide +kernel
theorem dX11_repeats_6 : decode cX11_repeats 6 = .ok (.ifCond .ne 5, 3) := by decide +kernel
theorem dX11_repeats_9 : decode cX11_repeats 9 = .ok (.iconst (-1), 1) := by decide +kernel
theorem dX11_repeats_10 : decode cX11_repeats 10 = .ok (.ireturn, 1) := by decide +kernel
theorem dX11_repeats_11 : decode cX11_repeats 11 = .ok (.aload_n 0, 1) := by decide +kernel
theorem dX11_repeats_12 : decode cX11_repeats 12 = .ok (.getfield 44, 3) := by decide +kernel
theorem dX11_repeats_15 : decode cX11_repeats 15 = .ok (.getfield 143, 3) := by decide +kernel
theorem dX11_repeats_18 : decode cX11_repeats 18 = .ok (.aload_n 0, 1) := by decide +kernel
theorem dX11_repeats_19 : decode cX11_repeats 19 = .ok (.getfield 40, 3) := by decide +kernel
theorem dX11_repeats_22 : decode cX11_repeats 22 = .ok (.getfield 143, 3) := by decide +kernel
theorem dX11_repeats_25 : decode cX11_repeats 25 = .ok (.invokevirtual 179, 3) := by decide +kernel
theorem dX11_repeats_28 : decode cX11_repeats 28 = .ok (.aload_n 0, 1) := by decide +kernel
theorem dX11_repeats_29 : decode cX11_repeats 29 = .ok (.getfield 44, 3) := by decide +kernel
theorem dX11_repeats_32 : decode cX11_repeats 32 = .ok (.getfield 143, 3) := by decide +kernel
theorem dX11_repeats_35 : decode cX11_repeats 35 = .ok (.aload_n 0, 1) := by decide +kernel
theorem dX11_repeats_36 : decode cX11_repeats 36 = .ok (.getfield 33, 3) := by decide +kernel
theorem dX11_repeats_39 : decode cX11_repeats 39 = .ok (.iload_n 1, 1) := by decide +kernel
theorem dX11_repeats_40 : decode cX11_repeats 40 = .ok (.iload_n 2, 1) := by decide +kernel
theorem dX11_repeats_41 : decode cX11_repeats 41 = .ok (.invokevirtual 183, 3) := by decide +kernel
theorem dX11_repeats_44 : decode cX11_repeats 44 = .ok (.ireturn, 1) := by decide +kernel
theorem dX11_refusal_0 : decode cX11_refusal 0 = .ok (.aload_n 0, 1) := by decide +kernel
theorem dX11_refusal_1 : decode cX11_refusal 1 = .ok (.iload_n 1, 1) := by decide +kernel
theorem dX11_refusal_2 : decode cX11_refusal 2 = .ok (.iload_n 2, 1) := by decide +kernel
theorem dX11_refusal_3 : decode cX11_refusal 3 = .ok (.invokevirtual 158, 3) := by decide +kernel
theorem dX11_refusal_6 : decode cX11_refusal 6 = .ok (.ifCond .ne 5, 3) := by decide +kernel
theorem dX11_refusal_9 : decode cX11_refusal 9 = .ok (.iconst (-1), 1) := by decide +kernel
theorem dX11_refusal_10 : decode cX11_refusal 10 = .ok (.ireturn, 1) := by decide +kernel
theorem dX11_refusal_11 : decode cX11_refusal 11 = .ok (.aload_n 0, 1) := by decide +kernel
theorem dX11_refusal_12 : decode cX11_refusal 12 = .ok (.getfield 40, 3) := by decide +kernel
theorem dX11_refusal_15 : decode cX11_refusal 15 = .ok (.getfield 143, 3) := by decide +kernel
theorem dX11_refusal_18 : decode cX11_refusal 18 = .ok (.aload_n 0, 1) := by decide +kernel
theorem dX11_refusal_19 : decode cX11_refusal 19 = .ok (.getfield 33, 3) := by decide +kernel
theorem dX11_refusal_22 : decode cX11_refusal 22 = .ok (.iload_n 1, 1) := by decide +kernel
theorem dX11_refusal_23 : decode cX11_refusal 23 = .ok (.iload_n 2, 1) := by decide +kernel
theorem dX11_refusal_24 : decode cX11_refusal 24 = .ok (.invokevirtual 186, 3) := by decide +kernel
theorem dX11_refusal_27 : decode cX11_refusal 27 = .ok (.bipush (-2), 2) := by decide +kernel
theorem dX11_refusal_29 : decode cX11_refusal 29 = .ok (.if_icmp .eq 5, 3) := by decide +kernel
theorem dX11_refusal_32 : decode cX11_refusal 32 = .ok (.iconst 1, 1) := by decide +kernel
theorem dX11_refusal_33 : decode cX11_refusal 33 = .ok (.ireturn, 1) := by decide +kernel
theorem dX11_refusal_34 : decode cX11_refusal 34 = .ok (.aload_n 0, 1) := by decide +kernel
theorem dX11_refusal_35 : decode cX11_refusal 35 = .ok (.getfield 40, 3) := by decide +kernel
theorem dX11_refusal_38 : decode cX11_refusal 38 = .ok (.getfield 143, 3) := by decide +kernel
theorem dX11_refusal_41 : decode cX11_refusal 41 = .ok (.aload_n 0, 1) := by decide +kernel
theorem dX11_refusal_42 : decode cX11_refusal 42 = .ok (.getfield 33, 3) := by decide +kernel
theorem dX11_refusal_45 : decode cX11_refusal 45 = .ok (.iload_n 1, 1) := by decide +kernel
theorem dX11_refusal_46 : decode cX11_refusal 46 = .ok (.iload_n 2, 1) := by decide +kernel
theorem dX11_refusal_47 : decode cX11_refusal 47 = .ok (.invokevirtual 162, 3) := by decide +kernel
theorem dX11_refusal_50 : decode cX11_refusal 50 = .ok (.bipush (-2), 2) := by decide +kernel
theorem dX11_refusal_52 : decode cX11_refusal 52 = .ok (.if_icmp .ne 7, 3) := by decide +kernel
theorem dX11_refusal_55 : decode cX11_refusal 55 = .ok (.iconst 2, 1) := by decide +kernel
theorem dX11_refusal_56 : decode cX11_refusal 56 = .ok (.goto 4, 3) := by decide +kernel
theorem dX11_refusal_59 : decode cX11_refusal 59 = .ok (.iconst 0, 1) := by decide +kernel
theorem dX11_refusal_60 : decode cX11_refusal 60 = .ok (.ireturn, 1) := by decide +kernel
theorem dX11_blockingNode_0 : decode cX11_blockingNode 0 = .ok (.aload_n 0, 1) := by decide +kernel
theorem dX11_blockingNode_1 : decode cX11_blockingNode 1 = .ok (.iload_n 1, 1) := by decide +kernel
theorem dX11_blockingNode_2 : decode cX11_blockingNode 2 = .ok (.iload_n 2, 1) := by decide +kernel
theorem dX11_blockingNode_3 : decode cX11_blockingNode 3 = .ok (.invokevirtual 158, 3) := by decide +kernel
theorem dX11_blockingNode_6 : decode cX11_blockingNode 6 = .ok (.ifCond .eq 22, 3) := by decide +kernel
theorem dX11_blockingNode_9 : decode cX11_blockingNode 9 = .ok (.aload_n 0, 1) := by decide +kernel
theorem dX11_blockingNode_10 : decode cX11_blockingNode 10 = .ok (.getfield 40, 3) := by decide +kernel
theorem dX11_blockingNode_13 : decode cX11_blockingNode 13 = .ok (.getfield 143, 3) := by decide +kernel
theorem dX11_blockingNode_16 : decode cX11_blockingNode 16 = .ok (.aload_n 0, 1) := by decide +kernel
theorem dX11_blockingNode_17 : decode cX11_blockingNode 17 = .ok (.getfield 33, 3) := by decide +kernel
theorem dX11_blockingNode_20 : decode cX11_blockingNode 20 = .ok (.iload_n 1, 1) := by decide +kernel
theorem dX11_blockingNode_21 : decode cX11_blockingNode 21 = .ok (.iload_n 2, 1) := by decide +kernel
theorem dX11_blockingNode_22 : decode cX11_blockingNode 22 = .ok (.invokevirtual 186, 3) := by decide +kernel
theorem dX11_blockingNode_25 : decode cX11_blockingNode 25 = .ok (.goto 4, 3) := by decide +kernel
theorem dX11_blockingNode_28 : decode cX11_blockingNode 28 = .ok (.iconst (-1), 1) := by decide +kernel
theorem dX11_blockingNode_29 : decode cX11_blockingNode 29 = .ok (.ireturn, 1) := by decide +kernel
theorem dX11_queueLength_0 : decode cX11_queueLength 0 = .ok (.aload_n 0, 1) := by decide +kernel
theorem dX11_queueLength_1 : decode cX11_queueLength 1 = .ok (.getfield 33, 3) := by decide +kernel
theorem dX11_queueLength_4 : decode cX11_queueLength 4 = .ok (.iload_n 1, 1) := by decide +kernel
theorem dX11_queueLength_5 : decode cX11_queueLength 5 = .ok (.invokevirtual 105, 3) := by decide +kernel
theorem dX11_queueLength_8 : decode cX11_queueLength 8 = .ok (.ifCond .eq 18, 3) := by decide +kernel
theorem dX11_queueLength_11 : decode cX11_queueLength 11 = .ok (.aload_n 0, 1) := by decide +kernel
theorem dX11_queueLength_12 : decode cX11_queueLength 12 = .ok (.getfield 40, 3) := by decide +kernel
theorem dX11_queueLength_15 : decode cX11_queueLength 15 = .ok (.getfield 189, 3) := by decide +kernel
theorem dX11_queueLength_18 : decode cX11_queueLength 18 = .ok (.getfield 193, 3) := by decide +kernel
theorem dX11_queueLength_21 : decode cX11_queueLength 21 = .ok (.iload_n 1, 1) := by decide +kernel
theorem dX11_queueLength_22 : decode cX11_queueLength 22 = .ok (.iaload, 1) := by decide +kernel
theorem dX11_queueLength_23 : decode cX11_queueLength 23 = .ok (.goto 4, 3) := by decide +kernel
theorem dX11_queueLength_26 : decode cX11_queueLength 26 = .ok (.iconst (-1), 1) := by decide +kernel
theorem dX11_queueLength_27 : decode cX11_queueLength 27 = .ok (.ireturn, 1) := by decide +kernel
theorem dX11_nextLeaf_0 : decode cX11_nextLeaf 0 = .ok (.aload_n 0, 1) := by decide +kernel
theorem dX11_nextLeaf_1 : decode cX11_nextLeaf 1 = .ok (.getfield 40, 3) := by decide +kernel
theorem dX11_nextLeaf_4 : decode cX11_nextLeaf 4 = .ok (.aload_n 0, 1) := by decide +kernel
theorem dX11_nextLeaf_5 : decode cX11_nextLeaf 5 = .ok (.getfield 33, 3) := by decide +kernel
theorem dX11_nextLeaf_8 : decode cX11_nextLeaf 8 = .ok (.invokevirtual 197, 3) := by decide +kernel
theorem dX11_nextLeaf_11 : decode cX11_nextLeaf 11 = .ok (.ireturn, 1) := by decide +kernel
theorem dX11_advance_0 : decode cX11_advance 0 = .ok (.aload_n 0, 1) := by decide +kernel
theorem dX11_advance_1 : decode cX11_advance 1 = .ok (.iload_n 1, 1) := by decide +kernel
theorem dX11_advance_2 : decode cX11_advance 2 = .ok (.invokevirtual 217, 3) := by decide +kernel
theorem dX11_advance_5 : decode cX11_advance 5 = .ok (.ifCond .eq 18, 3) := by decide +kernel
theorem dX11_advance_8 : decode cX11_advance 8 = .ok (.aload_n 0, 1) := by decide +kernel
theorem dX11_advance_9 : decode cX11_advance 9 = .ok (.getfield 40, 3) := by decide +kernel
theorem dX11_advance_12 : decode cX11_advance 12 = .ok (.aload_n 0, 1) := by decide +kernel
theorem dX11_advance_13 : decode cX11_advance 13 = .ok (.getfield 33, 3) := by decide +kernel
theorem dX11_advance_16 : decode cX11_advance 16 = .ok (.iload_n 1, 1) := by decide +kernel
theorem dX11_advance_17 : decode cX11_advance 17 = .ok (.invokevirtual 220, 3) := by decide +kernel
theorem dX11_advance_20 : decode cX11_advance 20 = .ok (.goto 4, 3) := by decide +kernel
theorem dX11_advance_23 : decode cX11_advance 23 = .ok (.iconst (-1), 1) := by decide +kernel
theorem dX11_advance_24 : decode cX11_advance 24 = .ok (.ireturn, 1) := by decide +kernel
theorem dX11_sentCost_0 : decode cX11_sentCost 0 = .ok (.aload_n 0, 1) := by decide +kernel
theorem dX11_sentCost_1 : decode cX11_sentCost 1 = .ok (.getfield 33, 3) := by decide +kernel
theorem dX11_sentCost_4 : decode cX11_sentCost 4 = .ok (.iload_n 1, 1) := by decide +kernel
theorem dX11_sentCost_5 : decode cX11_sentCost 5 = .ok (.invokevirtual 105, 3) := by decide +kernel
theorem dX11_sentCost_8 : decode cX11_sentCost 8 = .ok (.ifCond .eq 18, 3) := by decide +kernel
theorem dX11_sentCost_11 : decode cX11_sentCost 11 = .ok (.aload_n 0, 1) := by decide +kernel
theorem dX11_sentCost_12 : decode cX11_sentCost 12 = .ok (.getfield 40, 3) := by decide +kernel
theorem dX11_sentCost_15 : decode cX11_sentCost 15 = .ok (.getfield 226, 3) := by decide +kernel
theorem dX11_sentCost_18 : decode cX11_sentCost 18 = .ok (.getfield 243, 3) := by decide +kernel
theorem dX11_sentCost_21 : decode cX11_sentCost 21 = .ok (.iload_n 1, 1) := by decide +kernel
theorem dX11_sentCost_22 : decode cX11_sentCost 22 = .ok (.iaload, 1) := by decide +kernel
theorem dX11_sentCost_23 : decode cX11_sentCost 23 = .ok (.goto 4, 3) := by decide +kernel
theorem dX11_sentCost_26 : decode cX11_sentCost 26 = .ok (.iconst (-1), 1) := by decide +kernel
theorem dX11_sentCost_27 : decode cX11_sentCost 27 = .ok (.ireturn, 1) := by decide +kernel
theorem dX11_sentCount_0 : decode cX11_sentCount 0 = .ok (.aload_n 0, 1) := by decide +kernel
theorem dX11_sentCount_1 : decode cX11_sentCount 1 = .ok (.getfield 33, 3) := by decide +kernel
theorem dX11_sentCount_4 : decode cX11_sentCount 4 = .ok (.iload_n 1, 1) := by decide +kernel
theorem dX11_sentCount_5 : decode cX11_sentCount 5 = .ok (.invokevirtual 105, 3) := by decide +kernel
theorem dX11_sentCount_8 : decode cX11_sentCount 8 = .ok (.ifCond .eq 18, 3) := by decide +kernel
theorem dX11_sentCount_11 : decode cX11_sentCount 11 = .ok (.aload_n 0, 1) := by decide +kernel
theorem dX11_sentCount_12 : decode cX11_sentCount 12 = .ok (.getfield 40, 3) := by decide +kernel
theorem dX11_sentCount_15 : decode cX11_sentCount 15 = .ok (.getfield 226, 3) := by decide +kernel
theorem dX11_sentCount_18 : decode cX11_sentCount 18 = .ok (.getfield 230, 3) := by decide +kernel
theorem dX11_sentCount_21 : decode cX11_sentCount 21 = .ok (.iload_n 1, 1) := by decide +kernel
theorem dX11_sentCount_22 : decode cX11_sentCount 22 = .ok (.iaload, 1) := by decide +kernel
theorem dX11_sentCount_23 : decode cX11_sentCount 23 = .ok (.goto 4, 3) := by decide +kernel
theorem dX11_sentCount_26 : decode cX11_sentCount 26 = .ok (.iconst (-1), 1) := by decide +kernel
theorem dX11_sentCount_27 : decode cX11_sentCount 27 = .ok (.ireturn, 1) := by decide +kernel
theorem dX11_borrowedCost_0 : decode cX11_borrowedCost 0 = .ok (.aload_n 0, 1) := by decide +kernel
theorem dX11_borrowedCost_1 : decode cX11_borrowedCost 1 = .ok (.getfield 33, 3) := by decide +kernel
theorem dX11_borrowedCost_4 : decode cX11_borrowedCost 4 = .ok (.iload_n 1, 1) := by decide +kernel
theorem dX11_borrowedCost_5 : decode cX11_borrowedCost 5 = .ok (.invokevirtual 105, 3) := by decide +kernel
theorem dX11_borrowedCost_8 : decode cX11_borrowedCost 8 = .ok (.ifCond .eq 18, 3) := by decide +kernel
theorem dX11_borrowedCost_11 : decode cX11_borrowedCost 11 = .ok (.aload_n 0, 1) := by decide +kernel
theorem dX11_borrowedCost_12 : decode cX11_borrowedCost 12 = .ok (.getfield 40, 3) := by decide +kernel
theorem dX11_borrowedCost_15 : decode cX11_borrowedCost 15 = .ok (.getfield 226, 3) := by decide +kernel
theorem dX11_borrowedCost_18 : decode cX11_borrowedCost 18 = .ok (.getfield 246, 3) := by decide +kernel
theorem dX11_borrowedCost_21 : decode cX11_borrowedCost 21 = .ok (.iload_n 1, 1) := by decide +kernel
theorem dX11_borrowedCost_22 : decode cX11_borrowedCost 22 = .ok (.iaload, 1) := by decide +kernel
theorem dX11_borrowedCost_23 : decode cX11_borrowedCost 23 = .ok (.goto 4, 3) := by decide +kernel
theorem dX11_borrowedCost_26 : decode cX11_borrowedCost 26 = .ok (.iconst (-1), 1) := by decide +kernel
theorem dX11_borrowedCost_27 : decode cX11_borrowedCost 27 = .ok (.ireturn, 1) := by decide +kernel
theorem dX11_lentCost_0 : decode cX11_lentCost 0 = .ok (.aload_n 0, 1) := by decide +kernel
theorem dX11_lentCost_1 : decode cX11_lentCost 1 = .ok (.getfield 33, 3) := by decide +kernel
theorem dX11_lentCost_4 : decode cX11_lentCost 4 = .ok (.iload_n 1, 1) := by decide +kernel
theorem dX11_lentCost_5 : decode cX11_lentCost 5 = .ok (.invokevirtual 85, 3) := by decide +kernel
theorem dX11_lentCost_8 : decode cX11_lentCost 8 = .ok (.ifCond .eq 18, 3) := by decide +kernel
theorem dX11_lentCost_11 : decode cX11_lentCost 11 = .ok (.aload_n 0, 1) := by decide +kernel
theorem dX11_lentCost_12 : decode cX11_lentCost 12 = .ok (.getfield 40, 3) := by decide +kernel
theorem dX11_lentCost_15 : decode cX11_lentCost 15 = .ok (.getfield 226, 3) := by decide +kernel
theorem dX11_lentCost_18 : decode cX11_lentCost 18 = .ok (.getfield 249, 3) := by decide +kernel
theorem dX11_lentCost_21 : decode cX11_lentCost 21 = .ok (.iload_n 1, 1) := by decide +kernel
theorem dX11_lentCost_22 : decode cX11_lentCost 22 = .ok (.iaload, 1) := by decide +kernel
theorem dX11_lentCost_23 : decode cX11_lentCost 23 = .ok (.goto 4, 3) := by decide +kernel
theorem dX11_lentCost_26 : decode cX11_lentCost 26 = .ok (.iconst (-1), 1) := by decide +kernel
theorem dX11_lentCost_27 : decode cX11_lentCost 27 = .ok (.ireturn, 1) := by decide +kernel
theorem dX11_droppedCount_0 : decode cX11_droppedCount 0 = .ok (.aload_n 0, 1) := by decide +kernel
theorem dX11_droppedCount_1 : decode cX11_droppedCount 1 = .ok (.getfield 33, 3) := by decide +kernel
theorem dX11_droppedCount_4 : decode cX11_droppedCount 4 = .ok (.iload_n 1, 1) := by decide +kernel
theorem dX11_droppedCount_5 : decode cX11_droppedCount 5 = .ok (.invokevirtual 105, 3) := by decide +kernel
theorem dX11_droppedCount_8 : decode cX11_droppedCount 8 = .ok (.ifCond .eq 18, 3) := by decide +kernel
theorem dX11_droppedCount_11 : decode cX11_droppedCount 11 = .ok (.aload_n 0, 1) := by decide +kernel
theorem dX11_droppedCount_12 : decode cX11_droppedCount 12 = .ok (.getfield 40, 3) := by decide +kernel
theorem dX11_droppedCount_15 : decode cX11_droppedCount 15 = .ok (.getfield 226, 3) := by decide +kernel
theorem dX11_droppedCount_18 : decode cX11_droppedCount 18 = .ok (.getfield 252, 3) := by decide +kernel
theorem dX11_droppedCount_21 : decode cX11_droppedCount 21 = .ok (.iload_n 1, 1) := by decide +kernel
theorem dX11_droppedCount_22 : decode cX11_droppedCount 22 = .ok (.iaload, 1) := by decide +kernel
theorem dX11_droppedCount_23 : decode cX11_droppedCount 23 = .ok (.goto 4, 3) := by decide +kernel
theorem dX11_droppedCount_26 : decode cX11_droppedCount 26 = .ok (.iconst (-1), 1) := by decide +kernel
theorem dX11_droppedCount_27 : decode cX11_droppedCount 27 = .ok (.ireturn, 1) := by decide +kernel
theorem dX11_fairness_0 : decode cX11_fairness 0 = .ok (.aload_n 0, 1) := by decide +kernel
theorem dX11_fairness_1 : decode cX11_fairness 1 = .ok (.getfield 33, 3) := by decide +kernel
theorem dX11_fairness_4 : decode cX11_fairness 4 = .ok (.getfield 79, 3) := by decide +kernel
theorem dX11_fairness_7 : decode cX11_fairness 7 = .ok (.ifCond .ne 5, 3) := by decide +kernel
theorem dX11_fairness_10 : decode cX11_fairness 10 = .ok (.iconst (-1), 1) := by decide +kernel
theorem dX11_fairness_11 : decode cX11_fairness 11 = .ok (.ireturn, 1) := by decide +kernel
theorem dX11_fairness_12 : decode cX11_fairness 12 = .ok (.lconst 0, 1) := by decide +kernel
theorem dX11_fairness_13 : decode cX11_fairness 13 = .ok (.lstore_n 1, 1) := by decide +kernel
theorem dX11_fairness_14 : decode cX11_fairness 14 = .ok (.lconst 0, 1) := by decide +kernel
theorem dX11_fairness_15 : decode cX11_fairness 15 = .ok (.lstore_n 3, 1) := by decide +kernel
theorem dX11_fairness_16 : decode cX11_fairness 16 = .ok (.lconst 0, 1) := by decide +kernel
theorem dX11_fairness_17 : decode cX11_fairness 17 = .ok (.lstore 5, 2) := by decide +kernel
theorem dX11_fairness_19 : decode cX11_fairness 19 = .ok (.iconst 0, 1) := by decide +kernel
theorem dX11_fairness_20 : decode cX11_fairness 20 = .ok (.istore 7, 2) := by decide +kernel
theorem dX11_fairness_22 : decode cX11_fairness 22 = .ok (.iload 7, 2) := by decide +kernel
theorem dX11_fairness_24 : decode cX11_fairness 24 = .ok (.aload_n 0, 1) := by decide +kernel
theorem dX11_fairness_25 : decode cX11_fairness 25 = .ok (.getfield 33, 3) := by decide +kernel
theorem dX11_fairness_28 : decode cX11_fairness 28 = .ok (.getfield 79, 3) := by decide +kernel
theorem dX11_fairness_31 : decode cX11_fairness 31 = .ok (.if_icmp .ge 74, 3) := by decide +kernel
theorem dX11_fairness_34 : decode cX11_fairness 34 = .ok (.aload_n 0, 1) := by decide +kernel
theorem dX11_fairness_35 : decode cX11_fairness 35 = .ok (.getfield 33, 3) := by decide +kernel
theorem dX11_fairness_38 : decode cX11_fairness 38 = .ok (.iload 7, 2) := by decide +kernel
theorem dX11_fairness_40 : decode cX11_fairness 40 = .ok (.invokevirtual 105, 3) := by decide +kernel
theorem dX11_fairness_43 : decode cX11_fairness 43 = .ok (.ifCond .eq 56, 3) := by decide +kernel
theorem dX11_fairness_46 : decode cX11_fairness 46 = .ok (.ldc2_w 255, 3) := by decide +kernel
theorem dX11_fairness_49 : decode cX11_fairness 49 = .ok (.aload_n 0, 1) := by decide +kernel
theorem dX11_fairness_50 : decode cX11_fairness 50 = .ok (.getfield 40, 3) := by decide +kernel
theorem dX11_fairness_53 : decode cX11_fairness 53 = .ok (.getfield 226, 3) := by decide +kernel
theorem dX11_fairness_56 : decode cX11_fairness 56 = .ok (.getfield 243, 3) := by decide +kernel
theorem dX11_fairness_59 : decode cX11_fairness 59 = .ok (.iload 7, 2) := by decide +kernel
theorem dX11_fairness_61 : decode cX11_fairness 61 = .ok (.iaload, 1) := by decide +kernel
theorem dX11_fairness_62 : decode cX11_fairness 62 = .ok (.i2l, 1) := by decide +kernel
theorem dX11_fairness_63 : decode cX11_fairness 63 = .ok (.lmul, 1) := by decide +kernel
theorem dX11_fairness_64 : decode cX11_fairness 64 = .ok (.aload_n 0, 1) := by decide +kernel
theorem dX11_fairness_65 : decode cX11_fairness 65 = .ok (.getfield 40, 3) := by decide +kernel
theorem dX11_fairness_68 : decode cX11_fairness 68 = .ok (.getfield 123, 3) := by decide +kernel
theorem dX11_fairness_71 : decode cX11_fairness 71 = .ok (.iload 7, 2) := by decide +kernel
theorem dX11_fairness_73 : decode cX11_fairness 73 = .ok (.iaload, 1) := by decide +kernel
theorem dX11_fairness_74 : decode cX11_fairness 74 = .ok (.i2l, 1) := by decide +kernel
theorem dX11_fairness_75 : decode cX11_fairness 75 = .ok (.invokestatic 257, 3) := by decide +kernel
theorem dX11_fairness_78 : decode cX11_fairness 78 = .ok (.lstore 8, 2) := by decide +kernel
theorem dX11_fairness_80 : decode cX11_fairness 80 = .ok (.lload_n 1, 1) := by decide +kernel
theorem dX11_fairness_81 : decode cX11_fairness 81 = .ok (.lconst 1, 1) := by decide +kernel
theorem dX11_fairness_82 : decode cX11_fairness 82 = .ok (.ladd, 1) := by decide +kernel
theorem dX11_fairness_83 : decode cX11_fairness 83 = .ok (.lstore_n 1, 1) := by decide +kernel
theorem dX11_fairness_84 : decode cX11_fairness 84 = .ok (.lload_n 3, 1) := by decide +kernel
theorem dX11_fairness_85 : decode cX11_fairness 85 = .ok (.lload 8, 2) := by decide +kernel
theorem dX11_fairness_87 : decode cX11_fairness 87 = .ok (.ladd, 1) := by decide +kernel
theorem dX11_fairness_88 : decode cX11_fairness 88 = .ok (.lstore_n 3, 1) := by decide +kernel
theorem dX11_fairness_89 : decode cX11_fairness 89 = .ok (.lload 5, 2) := by decide +kernel
theorem dX11_fairness_91 : decode cX11_fairness 91 = .ok (.lload 8, 2) := by decide +kernel
theorem dX11_fairness_93 : decode cX11_fairness 93 = .ok (.lload 8, 2) := by decide +kernel
