theorem d_RB_findStrata_68 : decode b_RB_findStrata 68 = .ok (.goto 9, 3) := by decide +kernel
theorem d_RB_findStrata_71 : decode b_RB_findStrata 71 = .ok (.aload_n 0, 1) := by decide +kernel
theorem d_RB_findStrata_72 : decode b_RB_findStrata 72 = .ok (.invokevirtual 41, 3) := by decide +kernel
theorem d_RB_findStrata_75 : decode b_RB_findStrata 75 = .ok (.iconst 1, 1) := by decide +kernel
theorem d_RB_findStrata_76 : decode b_RB_findStrata 76 = .ok (.iadd, 1) := by decide +kernel
theorem d_RB_findStrata_77 : decode b_RB_findStrata 77 = .ok (.putfield 31, 3) := by decide +kernel
theorem d_RB_findStrata_80 : decode b_RB_findStrata 80 = .ok (.return_, 1) := by decide +kernel
theorem d_RB_raiseHeads_0 : decode b_RB_raiseHeads 0 = .ok (.iconst 0, 1) := by decide +kernel
theorem d_RB_raiseHeads_1 : decode b_RB_raiseHeads 1 = .ok (.istore_n 1, 1) := by decide +kernel
theorem d_RB_raiseHeads_2 : decode b_RB_raiseHeads 2 = .ok (.iconst 0, 1) := by decide +kernel
theorem d_RB_raiseHeads_3 : decode b_RB_raiseHeads 3 = .ok (.istore_n 2, 1) := by decide +kernel
theorem d_RB_raiseHeads_4 : decode b_RB_raiseHeads 4 = .ok (.iload_n 2, 1) := by decide +kernel
theorem d_RB_raiseHeads_5 : decode b_RB_raiseHeads 5 = .ok (.aload_n 0, 1) := by decide +kernel
theorem d_RB_raiseHeads_6 : decode b_RB_raiseHeads 6 = .ok (.getfield 28, 3) := by decide +kernel
theorem d_RB_raiseHeads_9 : decode b_RB_raiseHeads 9 = .ok (.if_icmp .ge 55, 3) := by decide +kernel
theorem d_RB_raiseHeads_12 : decode b_RB_raiseHeads 12 = .ok (.aload_n 0, 1) := by decide +kernel
theorem d_RB_raiseHeads_13 : decode b_RB_raiseHeads 13 = .ok (.getfield 17, 3) := by decide +kernel
theorem d_RB_raiseHeads_16 : decode b_RB_raiseHeads 16 = .ok (.iload_n 2, 1) := by decide +kernel
theorem d_RB_raiseHeads_17 : decode b_RB_raiseHeads 17 = .ok (.aaload, 1) := by decide +kernel
theorem d_RB_raiseHeads_18 : decode b_RB_raiseHeads 18 = .ok (.getfield 45, 3) := by decide +kernel
theorem d_RB_raiseHeads_21 : decode b_RB_raiseHeads 21 = .ok (.getfield 49, 3) := by decide +kernel
theorem d_RB_raiseHeads_24 : decode b_RB_raiseHeads 24 = .ok (.istore_n 3, 1) := by decide +kernel
theorem d_RB_raiseHeads_25 : decode b_RB_raiseHeads 25 = .ok (.aload_n 0, 1) := by decide +kernel
theorem d_RB_raiseHeads_26 : decode b_RB_raiseHeads 26 = .ok (.aload_n 0, 1) := by decide +kernel
theorem d_RB_raiseHeads_27 : decode b_RB_raiseHeads 27 = .ok (.getfield 17, 3) := by decide +kernel
theorem d_RB_raiseHeads_30 : decode b_RB_raiseHeads 30 = .ok (.iload_n 2, 1) := by decide +kernel
theorem d_RB_raiseHeads_31 : decode b_RB_raiseHeads 31 = .ok (.aaload, 1) := by decide +kernel
theorem d_RB_raiseHeads_32 : decode b_RB_raiseHeads 32 = .ok (.invokevirtual 54, 3) := by decide +kernel
theorem d_RB_raiseHeads_35 : decode b_RB_raiseHeads 35 = .ok (.istore 4, 2) := by decide +kernel
theorem d_RB_raiseHeads_37 : decode b_RB_raiseHeads 37 = .ok (.aload_n 0, 1) := by decide +kernel
theorem d_RB_raiseHeads_38 : decode b_RB_raiseHeads 38 = .ok (.getfield 21, 3) := by decide +kernel
theorem d_RB_raiseHeads_41 : decode b_RB_raiseHeads 41 = .ok (.iload_n 3, 1) := by decide +kernel
theorem d_RB_raiseHeads_42 : decode b_RB_raiseHeads 42 = .ok (.iaload, 1) := by decide +kernel
theorem d_RB_raiseHeads_43 : decode b_RB_raiseHeads 43 = .ok (.iload 4, 2) := by decide +kernel
theorem d_RB_raiseHeads_45 : decode b_RB_raiseHeads 45 = .ok (.if_icmp .ge 13, 3) := by decide +kernel
theorem d_RB_raiseHeads_48 : decode b_RB_raiseHeads 48 = .ok (.aload_n 0, 1) := by decide +kernel
theorem d_RB_raiseHeads_49 : decode b_RB_raiseHeads 49 = .ok (.getfield 21, 3) := by decide +kernel
theorem d_RB_raiseHeads_52 : decode b_RB_raiseHeads 52 = .ok (.iload_n 3, 1) := by decide +kernel
theorem d_RB_raiseHeads_53 : decode b_RB_raiseHeads 53 = .ok (.iload 4, 2) := by decide +kernel
theorem d_RB_raiseHeads_55 : decode b_RB_raiseHeads 55 = .ok (.iastore, 1) := by decide +kernel
theorem d_RB_raiseHeads_56 : decode b_RB_raiseHeads 56 = .ok (.iconst 1, 1) := by decide +kernel
theorem d_RB_raiseHeads_57 : decode b_RB_raiseHeads 57 = .ok (.istore_n 1, 1) := by decide +kernel
theorem d_RB_raiseHeads_58 : decode b_RB_raiseHeads 58 = .ok (.iinc 2 1, 3) := by decide +kernel
theorem d_RB_raiseHeads_61 : decode b_RB_raiseHeads 61 = .ok (.goto (-57), 3) := by decide +kernel
theorem d_RB_raiseHeads_64 : decode b_RB_raiseHeads 64 = .ok (.iload_n 1, 1) := by decide +kernel
theorem d_RB_raiseHeads_65 : decode b_RB_raiseHeads 65 = .ok (.ireturn, 1) := by decide +kernel
theorem d_RB_leastStratum_0 : decode b_RB_leastStratum 0 = .ok (.iconst 0, 1) := by decide +kernel
theorem d_RB_leastStratum_1 : decode b_RB_leastStratum 1 = .ok (.istore_n 2, 1) := by decide +kernel
theorem d_RB_leastStratum_2 : decode b_RB_leastStratum 2 = .ok (.iconst 0, 1) := by decide +kernel
theorem d_RB_leastStratum_3 : decode b_RB_leastStratum 3 = .ok (.istore_n 3, 1) := by decide +kernel
theorem d_RB_leastStratum_4 : decode b_RB_leastStratum 4 = .ok (.iload_n 3, 1) := by decide +kernel
theorem d_RB_leastStratum_5 : decode b_RB_leastStratum 5 = .ok (.aload_n 1, 1) := by decide +kernel
theorem d_RB_leastStratum_6 : decode b_RB_leastStratum 6 = .ok (.getfield 58, 3) := by decide +kernel
theorem d_RB_leastStratum_9 : decode b_RB_leastStratum 9 = .ok (.if_icmp .ge 28, 3) := by decide +kernel
theorem d_RB_leastStratum_12 : decode b_RB_leastStratum 12 = .ok (.iload_n 2, 1) := by decide +kernel
theorem d_RB_leastStratum_13 : decode b_RB_leastStratum 13 = .ok (.aload_n 0, 1) := by decide +kernel
theorem d_RB_leastStratum_14 : decode b_RB_leastStratum 14 = .ok (.getfield 21, 3) := by decide +kernel
theorem d_RB_leastStratum_17 : decode b_RB_leastStratum 17 = .ok (.aload_n 1, 1) := by decide +kernel
theorem d_RB_leastStratum_18 : decode b_RB_leastStratum 18 = .ok (.getfield 61, 3) := by decide +kernel
theorem d_RB_leastStratum_21 : decode b_RB_leastStratum 21 = .ok (.iload_n 3, 1) := by decide +kernel
theorem d_RB_leastStratum_22 : decode b_RB_leastStratum 22 = .ok (.aaload, 1) := by decide +kernel
theorem d_RB_leastStratum_23 : decode b_RB_leastStratum 23 = .ok (.getfield 49, 3) := by decide +kernel
theorem d_RB_leastStratum_26 : decode b_RB_leastStratum 26 = .ok (.iaload, 1) := by decide +kernel
theorem d_RB_leastStratum_27 : decode b_RB_leastStratum 27 = .ok (.invokestatic 65, 3) := by decide +kernel
theorem d_RB_leastStratum_30 : decode b_RB_leastStratum 30 = .ok (.istore_n 2, 1) := by decide +kernel
theorem d_RB_leastStratum_31 : decode b_RB_leastStratum 31 = .ok (.iinc 3 1, 3) := by decide +kernel
theorem d_RB_leastStratum_34 : decode b_RB_leastStratum 34 = .ok (.goto (-30), 3) := by decide +kernel
theorem d_RB_leastStratum_37 : decode b_RB_leastStratum 37 = .ok (.iconst 0, 1) := by decide +kernel
theorem d_RB_leastStratum_38 : decode b_RB_leastStratum 38 = .ok (.istore_n 3, 1) := by decide +kernel
theorem d_RB_leastStratum_39 : decode b_RB_leastStratum 39 = .ok (.iload_n 3, 1) := by decide +kernel
theorem d_RB_leastStratum_40 : decode b_RB_leastStratum 40 = .ok (.aload_n 1, 1) := by decide +kernel
theorem d_RB_leastStratum_41 : decode b_RB_leastStratum 41 = .ok (.getfield 71, 3) := by decide +kernel
theorem d_RB_leastStratum_44 : decode b_RB_leastStratum 44 = .ok (.if_icmp .ge 43, 3) := by decide +kernel
theorem d_RB_leastStratum_47 : decode b_RB_leastStratum 47 = .ok (.aload_n 1, 1) := by decide +kernel
theorem d_RB_leastStratum_48 : decode b_RB_leastStratum 48 = .ok (.getfield 74, 3) := by decide +kernel
theorem d_RB_leastStratum_51 : decode b_RB_leastStratum 51 = .ok (.iload_n 3, 1) := by decide +kernel
theorem d_RB_leastStratum_52 : decode b_RB_leastStratum 52 = .ok (.aaload, 1) := by decide +kernel
theorem d_RB_leastStratum_53 : decode b_RB_leastStratum 53 = .ok (.getfield 77, 3) := by decide +kernel
theorem d_RB_leastStratum_56 : decode b_RB_leastStratum 56 = .ok (.iconst 1, 1) := by decide +kernel
theorem d_RB_leastStratum_57 : decode b_RB_leastStratum 57 = .ok (.if_icmp .ne 24, 3) := by decide +kernel
theorem d_RB_leastStratum_60 : decode b_RB_leastStratum 60 = .ok (.iload_n 2, 1) := by decide +kernel
theorem d_RB_leastStratum_61 : decode b_RB_leastStratum 61 = .ok (.aload_n 0, 1) := by decide +kernel
theorem d_RB_leastStratum_62 : decode b_RB_leastStratum 62 = .ok (.getfield 21, 3) := by decide +kernel
theorem d_RB_leastStratum_65 : decode b_RB_leastStratum 65 = .ok (.aload_n 1, 1) := by decide +kernel
theorem d_RB_leastStratum_66 : decode b_RB_leastStratum 66 = .ok (.getfield 74, 3) := by decide +kernel
theorem d_RB_leastStratum_69 : decode b_RB_leastStratum 69 = .ok (.iload_n 3, 1) := by decide +kernel
theorem d_RB_leastStratum_70 : decode b_RB_leastStratum 70 = .ok (.aaload, 1) := by decide +kernel
theorem d_RB_leastStratum_71 : decode b_RB_leastStratum 71 = .ok (.getfield 49, 3) := by decide +kernel
theorem d_RB_leastStratum_74 : decode b_RB_leastStratum 74 = .ok (.iaload, 1) := by decide +kernel
theorem d_RB_leastStratum_75 : decode b_RB_leastStratum 75 = .ok (.iconst 1, 1) := by decide +kernel
theorem d_RB_leastStratum_76 : decode b_RB_leastStratum 76 = .ok (.iadd, 1) := by decide +kernel
theorem d_RB_leastStratum_77 : decode b_RB_leastStratum 77 = .ok (.invokestatic 65, 3) := by decide +kernel
theorem d_RB_leastStratum_80 : decode b_RB_leastStratum 80 = .ok (.istore_n 2, 1) := by decide +kernel
theorem d_RB_leastStratum_81 : decode b_RB_leastStratum 81 = .ok (.iinc 3 1, 3) := by decide +kernel
theorem d_RB_leastStratum_84 : decode b_RB_leastStratum 84 = .ok (.goto (-45), 3) := by decide +kernel
theorem d_RB_leastStratum_87 : decode b_RB_leastStratum 87 = .ok (.iload_n 2, 1) := by decide +kernel
theorem d_RB_leastStratum_88 : decode b_RB_leastStratum 88 = .ok (.ireturn, 1) := by decide +kernel
theorem d_RB_greatestStratum_0 : decode b_RB_greatestStratum 0 = .ok (.iconst (-1), 1) := by decide +kernel
theorem d_RB_greatestStratum_1 : decode b_RB_greatestStratum 1 = .ok (.istore_n 1, 1) := by decide +kernel
theorem d_RB_greatestStratum_2 : decode b_RB_greatestStratum 2 = .ok (.iconst 0, 1) := by decide +kernel
theorem d_RB_greatestStratum_3 : decode b_RB_greatestStratum 3 = .ok (.istore_n 2, 1) := by decide +kernel
theorem d_RB_greatestStratum_4 : decode b_RB_greatestStratum 4 = .ok (.iload_n 2, 1) := by decide +kernel
theorem d_RB_greatestStratum_5 : decode b_RB_greatestStratum 5 = .ok (.aload_n 0, 1) := by decide +kernel
theorem d_RB_greatestStratum_6 : decode b_RB_greatestStratum 6 = .ok (.getfield 24, 3) := by decide +kernel
theorem d_RB_greatestStratum_9 : decode b_RB_greatestStratum 9 = .ok (.if_icmp .ge 20, 3) := by decide +kernel
theorem d_RB_greatestStratum_12 : decode b_RB_greatestStratum 12 = .ok (.iload_n 1, 1) := by decide +kernel
theorem d_RB_greatestStratum_13 : decode b_RB_greatestStratum 13 = .ok (.aload_n 0, 1) := by decide +kernel
theorem d_RB_greatestStratum_14 : decode b_RB_greatestStratum 14 = .ok (.getfield 21, 3) := by decide +kernel
theorem d_RB_greatestStratum_17 : decode b_RB_greatestStratum 17 = .ok (.iload_n 2, 1) := by decide +kernel
theorem d_RB_greatestStratum_18 : decode b_RB_greatestStratum 18 = .ok (.iaload, 1) := by decide +kernel
theorem d_RB_greatestStratum_19 : decode b_RB_greatestStratum 19 = .ok (.invokestatic 65, 3) := by decide +kernel
theorem d_RB_greatestStratum_22 : decode b_RB_greatestStratum 22 = .ok (.istore_n 1, 1) := by decide +kernel
theorem d_RB_greatestStratum_23 : decode b_RB_greatestStratum 23 = .ok (.iinc 2 1, 3) := by decide +kernel
theorem d_RB_greatestStratum_26 : decode b_RB_greatestStratum 26 = .ok (.goto (-22), 3) := by decide +kernel
theorem d_RB_greatestStratum_29 : decode b_RB_greatestStratum 29 = .ok (.iload_n 1, 1) := by decide +kernel
theorem d_RB_greatestStratum_30 : decode b_RB_greatestStratum 30 = .ok (.ireturn, 1) := by decide +kernel
theorem d_TU_init_0 : decode b_TU_init 0 = .ok (.aload_n 0, 1) := by decide +kernel
theorem d_TU_init_1 : decode b_TU_init 1 = .ok (.invokespecial 3, 3) := by decide +kernel
theorem d_TU_init_4 : decode b_TU_init 4 = .ok (.aload_n 0, 1) := by decide +kernel
theorem d_TU_init_5 : decode b_TU_init 5 = .ok (.sipush 301, 3) := by decide +kernel
theorem d_TU_init_8 : decode b_TU_init 8 = .ok (.newarray .int, 2) := by decide +kernel
theorem d_TU_init_10 : decode b_TU_init 10 = .ok (.putfield 11, 3) := by decide +kernel
theorem d_TU_init_13 : decode b_TU_init 13 = .ok (.aload_n 0, 1) := by decide +kernel
theorem d_TU_init_14 : decode b_TU_init 14 = .ok (.sipush 301, 3) := by decide +kernel
theorem d_TU_init_17 : decode b_TU_init 17 = .ok (.newarray .int, 2) := by decide +kernel
theorem d_TU_init_19 : decode b_TU_init 19 = .ok (.putfield 15, 3) := by decide +kernel
theorem d_TU_init_22 : decode b_TU_init 22 = .ok (.aload_n 0, 1) := by decide +kernel
theorem d_TU_init_23 : decode b_TU_init 23 = .ok (.sipush 301, 3) := by decide +kernel
theorem d_TU_init_26 : decode b_TU_init 26 = .ok (.newarray .int, 2) := by decide +kernel
theorem d_TU_init_28 : decode b_TU_init 28 = .ok (.putfield 18, 3) := by decide +kernel
theorem d_TU_init_31 : decode b_TU_init 31 = .ok (.aload_n 0, 1) := by decide +kernel
theorem d_TU_init_32 : decode b_TU_init 32 = .ok (.iconst 0, 1) := by decide +kernel
theorem d_TU_init_33 : decode b_TU_init 33 = .ok (.putfield 21, 3) := by decide +kernel
theorem d_TU_init_36 : decode b_TU_init 36 = .ok (.return_, 1) := by decide +kernel
theorem d_TU_placeOf_0 : decode b_TU_placeOf 0 = .ok (.iconst 0, 1) := by decide +kernel
theorem d_TU_placeOf_1 : decode b_TU_placeOf 1 = .ok (.istore_n 2, 1) := by decide +kernel
theorem d_TU_placeOf_2 : decode b_TU_placeOf 2 = .ok (.sipush 256, 3) := by decide +kernel
theorem d_TU_placeOf_5 : decode b_TU_placeOf 5 = .ok (.istore_n 3, 1) := by decide +kernel
theorem d_TU_placeOf_6 : decode b_TU_placeOf 6 = .ok (.iload_n 3, 1) := by decide +kernel
theorem d_TU_placeOf_7 : decode b_TU_placeOf 7 = .ok (.ifCond .le 40, 3) := by decide +kernel
theorem d_TU_placeOf_10 : decode b_TU_placeOf 10 = .ok (.iload_n 2, 1) := by decide +kernel
theorem d_TU_placeOf_11 : decode b_TU_placeOf 11 = .ok (.iload_n 3, 1) := by decide +kernel
theorem d_TU_placeOf_12 : decode b_TU_placeOf 12 = .ok (.iadd, 1) := by decide +kernel
theorem d_TU_placeOf_13 : decode b_TU_placeOf 13 = .ok (.istore 4, 2) := by decide +kernel
theorem d_TU_placeOf_15 : decode b_TU_placeOf 15 = .ok (.iload 4, 2) := by decide +kernel
theorem d_TU_placeOf_17 : decode b_TU_placeOf 17 = .ok (.aload_n 0, 1) := by decide +kernel
theorem d_TU_placeOf_18 : decode b_TU_placeOf 18 = .ok (.getfield 21, 3) := by decide +kernel
theorem d_TU_placeOf_21 : decode b_TU_placeOf 21 = .ok (.if_icmp .gt 19, 3) := by decide +kernel
theorem d_TU_placeOf_24 : decode b_TU_placeOf 24 = .ok (.aload_n 0, 1) := by decide +kernel
theorem d_TU_placeOf_25 : decode b_TU_placeOf 25 = .ok (.getfield 11, 3) := by decide +kernel
theorem d_TU_placeOf_28 : decode b_TU_placeOf 28 = .ok (.iload 4, 2) := by decide +kernel
theorem d_TU_placeOf_30 : decode b_TU_placeOf 30 = .ok (.iconst 1, 1) := by decide +kernel
theorem d_TU_placeOf_31 : decode b_TU_placeOf 31 = .ok (.isub, 1) := by decide +kernel
theorem d_TU_placeOf_32 : decode b_TU_placeOf 32 = .ok (.iaload, 1) := by decide +kernel
theorem d_TU_placeOf_33 : decode b_TU_placeOf 33 = .ok (.iload_n 1, 1) := by decide +kernel
theorem d_TU_placeOf_34 : decode b_TU_placeOf 34 = .ok (.if_icmp .ge 6, 3) := by decide +kernel
theorem d_TU_placeOf_37 : decode b_TU_placeOf 37 = .ok (.iload 4, 2) := by decide +kernel
theorem d_TU_placeOf_39 : decode b_TU_placeOf 39 = .ok (.istore_n 2, 1) := by decide +kernel
theorem d_TU_placeOf_40 : decode b_TU_placeOf 40 = .ok (.iload_n 3, 1) := by decide +kernel
theorem d_TU_placeOf_41 : decode b_TU_placeOf 41 = .ok (.iconst 2, 1) := by decide +kernel
theorem d_TU_placeOf_42 : decode b_TU_placeOf 42 = .ok (.idiv, 1) := by decide +kernel
theorem d_TU_placeOf_43 : decode b_TU_placeOf 43 = .ok (.istore_n 3, 1) := by decide +kernel
theorem d_TU_placeOf_44 : decode b_TU_placeOf 44 = .ok (.goto (-38), 3) := by decide +kernel
theorem d_TU_placeOf_47 : decode b_TU_placeOf 47 = .ok (.iload_n 2, 1) := by decide +kernel
theorem d_TU_placeOf_48 : decode b_TU_placeOf 48 = .ok (.ireturn, 1) := by decide +kernel
theorem d_TU_contains_0 : decode b_TU_contains 0 = .ok (.aload_n 0, 1) := by decide +kernel
theorem d_TU_contains_1 : decode b_TU_contains 1 = .ok (.iload_n 1, 1) := by decide +kernel
theorem d_TU_contains_2 : decode b_TU_contains 2 = .ok (.invokevirtual 25, 3) := by decide +kernel
theorem d_TU_contains_5 : decode b_TU_contains 5 = .ok (.istore_n 2, 1) := by decide +kernel
theorem d_TU_contains_6 : decode b_TU_contains 6 = .ok (.iload_n 2, 1) := by decide +kernel
theorem d_TU_contains_7 : decode b_TU_contains 7 = .ok (.aload_n 0, 1) := by decide +kernel
theorem d_TU_contains_8 : decode b_TU_contains 8 = .ok (.getfield 21, 3) := by decide +kernel
theorem d_TU_contains_11 : decode b_TU_contains 11 = .ok (.if_icmp .ge 17, 3) := by decide +kernel
theorem d_TU_contains_14 : decode b_TU_contains 14 = .ok (.aload_n 0, 1) := by decide +kernel
theorem d_TU_contains_15 : decode b_TU_contains 15 = .ok (.getfield 11, 3) := by decide +kernel
theorem d_TU_contains_18 : decode b_TU_contains 18 = .ok (.iload_n 2, 1) := by decide +kernel
theorem d_TU_contains_19 : decode b_TU_contains 19 = .ok (.iaload, 1) := by decide +kernel
theorem d_TU_contains_20 : decode b_TU_contains 20 = .ok (.iload_n 1, 1) := by decide +kernel
theorem d_TU_contains_21 : decode b_TU_contains 21 = .ok (.if_icmp .ne 7, 3) := by decide +kernel
theorem d_TU_contains_24 : decode b_TU_contains 24 = .ok (.iconst 1, 1) := by decide +kernel
theorem d_TU_contains_25 : decode b_TU_contains 25 = .ok (.goto 4, 3) := by decide +kernel
theorem d_TU_contains_28 : decode b_TU_contains 28 = .ok (.iconst 0, 1) := by decide +kernel
theorem d_TU_contains_29 : decode b_TU_contains 29 = .ok (.ireturn, 1) := by decide +kernel
theorem d_TU_containsFact_0 : decode b_TU_containsFact 0 = .ok (.aload_n 0, 1) := by decide +kernel
theorem d_TU_containsFact_1 : decode b_TU_containsFact 1 = .ok (.iload_n 1, 1) := by decide +kernel
theorem d_TU_containsFact_2 : decode b_TU_containsFact 2 = .ok (.invokevirtual 25, 3) := by decide +kernel
theorem d_TU_containsFact_5 : decode b_TU_containsFact 5 = .ok (.istore_n 2, 1) := by decide +kernel
theorem d_TU_containsFact_6 : decode b_TU_containsFact 6 = .ok (.iload_n 2, 1) := by decide +kernel
theorem d_TU_containsFact_7 : decode b_TU_containsFact 7 = .ok (.aload_n 0, 1) := by decide +kernel
theorem d_TU_containsFact_8 : decode b_TU_containsFact 8 = .ok (.getfield 21, 3) := by decide +kernel
theorem d_TU_containsFact_11 : decode b_TU_containsFact 11 = .ok (.if_icmp .ge 26, 3) := by decide +kernel
theorem d_TU_containsFact_14 : decode b_TU_containsFact 14 = .ok (.aload_n 0, 1) := by decide +kernel
theorem d_TU_containsFact_15 : decode b_TU_containsFact 15 = .ok (.getfield 11, 3) := by decide +kernel
theorem d_TU_containsFact_18 : decode b_TU_containsFact 18 = .ok (.iload_n 2, 1) := by decide +kernel
theorem d_TU_containsFact_19 : decode b_TU_containsFact 19 = .ok (.iaload, 1) := by decide +kernel
theorem d_TU_containsFact_20 : decode b_TU_containsFact 20 = .ok (.iload_n 1, 1) := by decide +kernel
theorem d_TU_containsFact_21 : decode b_TU_containsFact 21 = .ok (.if_icmp .ne 16, 3) := by decide +kernel
theorem d_TU_containsFact_24 : decode b_TU_containsFact 24 = .ok (.aload_n 0, 1) := by decide +kernel
theorem d_TU_containsFact_25 : decode b_TU_containsFact 25 = .ok (.getfield 15, 3) := by decide +kernel
theorem d_TU_containsFact_28 : decode b_TU_containsFact 28 = .ok (.iload_n 2, 1) := by decide +kernel
theorem d_TU_containsFact_29 : decode b_TU_containsFact 29 = .ok (.iaload, 1) := by decide +kernel
theorem d_TU_containsFact_30 : decode b_TU_containsFact 30 = .ok (.ifCond .ne 7, 3) := by decide +kernel
theorem d_TU_containsFact_33 : decode b_TU_containsFact 33 = .ok (.iconst 1, 1) := by decide +kernel
theorem d_TU_containsFact_34 : decode b_TU_containsFact 34 = .ok (.goto 4, 3) := by decide +kernel
theorem d_TU_containsFact_37 : decode b_TU_containsFact 37 = .ok (.iconst 0, 1) := by decide +kernel
theorem d_TU_containsFact_38 : decode b_TU_containsFact 38 = .ok (.ireturn, 1) := by decide +kernel
theorem d_TU_insert_0 : decode b_TU_insert 0 = .ok (.aload_n 0, 1) := by decide +kernel
theorem d_TU_insert_1 : decode b_TU_insert 1 = .ok (.getfield 21, 3) := by decide +kernel
theorem d_TU_insert_4 : decode b_TU_insert 4 = .ok (.sipush 301, 3) := by decide +kernel
theorem d_TU_insert_7 : decode b_TU_insert 7 = .ok (.if_icmp .lt 4, 3) := by decide +kernel
theorem d_TU_insert_10 : decode b_TU_insert 10 = .ok (.return_, 1) := by decide +kernel
theorem d_TU_insert_11 : decode b_TU_insert 11 = .ok (.aload_n 0, 1) := by decide +kernel
theorem d_TU_insert_12 : decode b_TU_insert 12 = .ok (.iload_n 1, 1) := by decide +kernel
theorem d_TU_insert_13 : decode b_TU_insert 13 = .ok (.invokevirtual 25, 3) := by decide +kernel
theorem d_TU_insert_16 : decode b_TU_insert 16 = .ok (.istore 4, 2) := by decide +kernel
theorem d_TU_insert_18 : decode b_TU_insert 18 = .ok (.aload_n 0, 1) := by decide +kernel
theorem d_TU_insert_19 : decode b_TU_insert 19 = .ok (.iload 4, 2) := by decide +kernel
theorem d_TU_insert_21 : decode b_TU_insert 21 = .ok (.iload 4, 2) := by decide +kernel
theorem d_TU_insert_23 : decode b_TU_insert 23 = .ok (.iconst 1, 1) := by decide +kernel
theorem d_TU_insert_24 : decode b_TU_insert 24 = .ok (.iadd, 1) := by decide +kernel
theorem d_TU_insert_25 : decode b_TU_insert 25 = .ok (.invokevirtual 29, 3) := by decide +kernel
theorem d_TU_insert_28 : decode b_TU_insert 28 = .ok (.aload_n 0, 1) := by decide +kernel
theorem d_TU_insert_29 : decode b_TU_insert 29 = .ok (.getfield 11, 3) := by decide +kernel
theorem d_TU_insert_32 : decode b_TU_insert 32 = .ok (.iload 4, 2) := by decide +kernel
theorem d_TU_insert_34 : decode b_TU_insert 34 = .ok (.iload_n 1, 1) := by decide +kernel
theorem d_TU_insert_35 : decode b_TU_insert 35 = .ok (.iastore, 1) := by decide +kernel
theorem d_TU_insert_36 : decode b_TU_insert 36 = .ok (.aload_n 0, 1) := by decide +kernel
theorem d_TU_insert_37 : decode b_TU_insert 37 = .ok (.getfield 15, 3) := by decide +kernel
theorem d_TU_insert_40 : decode b_TU_insert 40 = .ok (.iload 4, 2) := by decide +kernel
theorem d_TU_insert_42 : decode b_TU_insert 42 = .ok (.iload_n 2, 1) := by decide +kernel
theorem d_TU_insert_43 : decode b_TU_insert 43 = .ok (.iastore, 1) := by decide +kernel
theorem d_TU_insert_44 : decode b_TU_insert 44 = .ok (.aload_n 0, 1) := by decide +kernel
theorem d_TU_insert_45 : decode b_TU_insert 45 = .ok (.getfield 18, 3) := by decide +kernel
theorem d_TU_insert_48 : decode b_TU_insert 48 = .ok (.iload 4, 2) := by decide +kernel
theorem d_TU_insert_50 : decode b_TU_insert 50 = .ok (.iload_n 3, 1) := by decide +kernel
theorem d_TU_insert_51 : decode b_TU_insert 51 = .ok (.iastore, 1) := by decide +kernel
theorem d_TU_insert_52 : decode b_TU_insert 52 = .ok (.aload_n 0, 1) := by decide +kernel
theorem d_TU_insert_53 : decode b_TU_insert 53 = .ok (.dup, 1) := by decide +kernel
theorem d_TU_insert_54 : decode b_TU_insert 54 = .ok (.getfield 21, 3) := by decide +kernel
theorem d_TU_insert_57 : decode b_TU_insert 57 = .ok (.iconst 1, 1) := by decide +kernel
theorem d_TU_insert_58 : decode b_TU_insert 58 = .ok (.iadd, 1) := by decide +kernel
theorem d_TU_insert_59 : decode b_TU_insert 59 = .ok (.putfield 21, 3) := by decide +kernel
theorem d_TU_insert_62 : decode b_TU_insert 62 = .ok (.return_, 1) := by decide +kernel
theorem d_TU_remove_0 : decode b_TU_remove 0 = .ok (.aload_n 0, 1) := by decide +kernel
theorem d_TU_remove_1 : decode b_TU_remove 1 = .ok (.iload_n 1, 1) := by decide +kernel
theorem d_TU_remove_2 : decode b_TU_remove 2 = .ok (.invokevirtual 25, 3) := by decide +kernel
theorem d_TU_remove_5 : decode b_TU_remove 5 = .ok (.istore_n 2, 1) := by decide +kernel
theorem d_TU_remove_6 : decode b_TU_remove 6 = .ok (.iload_n 2, 1) := by decide +kernel
theorem d_TU_remove_7 : decode b_TU_remove 7 = .ok (.aload_n 0, 1) := by decide +kernel
theorem d_TU_remove_8 : decode b_TU_remove 8 = .ok (.getfield 21, 3) := by decide +kernel
theorem d_TU_remove_11 : decode b_TU_remove 11 = .ok (.if_icmp .ge 31, 3) := by decide +kernel
theorem d_TU_remove_14 : decode b_TU_remove 14 = .ok (.aload_n 0, 1) := by decide +kernel
theorem d_TU_remove_15 : decode b_TU_remove 15 = .ok (.getfield 11, 3) := by decide +kernel
theorem d_TU_remove_18 : decode b_TU_remove 18 = .ok (.iload_n 2, 1) := by decide +kernel
theorem d_TU_remove_19 : decode b_TU_remove 19 = .ok (.iaload, 1) := by decide +kernel
theorem d_TU_remove_20 : decode b_TU_remove 20 = .ok (.iload_n 1, 1) := by decide +kernel
theorem d_TU_remove_21 : decode b_TU_remove 21 = .ok (.if_icmp .ne 21, 3) := by decide +kernel
theorem d_TU_remove_24 : decode b_TU_remove 24 = .ok (.aload_n 0, 1) := by decide +kernel
theorem d_TU_remove_25 : decode b_TU_remove 25 = .ok (.iload_n 2, 1) := by decide +kernel
theorem d_TU_remove_26 : decode b_TU_remove 26 = .ok (.iconst 1, 1) := by decide +kernel
theorem d_TU_remove_27 : decode b_TU_remove 27 = .ok (.iadd, 1) := by decide +kernel
theorem d_TU_remove_28 : decode b_TU_remove 28 = .ok (.iload_n 2, 1) := by decide +kernel
theorem d_TU_remove_29 : decode b_TU_remove 29 = .ok (.invokevirtual 29, 3) := by decide +kernel
theorem d_TU_remove_32 : decode b_TU_remove 32 = .ok (.aload_n 0, 1) := by decide +kernel
theorem d_TU_remove_33 : decode b_TU_remove 33 = .ok (.dup, 1) := by decide +kernel
theorem d_TU_remove_34 : decode b_TU_remove 34 = .ok (.getfield 21, 3) := by decide +kernel
theorem d_TU_remove_37 : decode b_TU_remove 37 = .ok (.iconst 1, 1) := by decide +kernel
theorem d_TU_remove_38 : decode b_TU_remove 38 = .ok (.isub, 1) := by decide +kernel
theorem d_TU_remove_39 : decode b_TU_remove 39 = .ok (.putfield 21, 3) := by decide +kernel
theorem d_TU_remove_42 : decode b_TU_remove 42 = .ok (.return_, 1) := by decide +kernel
theorem d_TU_move_0 : decode b_TU_move 0 = .ok (.aload_n 0, 1) := by decide +kernel
theorem d_TU_move_1 : decode b_TU_move 1 = .ok (.getfield 21, 3) := by decide +kernel
theorem d_TU_move_4 : decode b_TU_move 4 = .ok (.iload_n 1, 1) := by decide +kernel
theorem d_TU_move_5 : decode b_TU_move 5 = .ok (.isub, 1) := by decide +kernel
theorem d_TU_move_6 : decode b_TU_move 6 = .ok (.istore_n 3, 1) := by decide +kernel
theorem d_TU_move_7 : decode b_TU_move 7 = .ok (.aload_n 0, 1) := by decide +kernel
theorem d_TU_move_8 : decode b_TU_move 8 = .ok (.getfield 11, 3) := by decide +kernel
theorem d_TU_move_11 : decode b_TU_move 11 = .ok (.iload_n 1, 1) := by decide +kernel
theorem d_TU_move_12 : decode b_TU_move 12 = .ok (.aload_n 0, 1) := by decide +kernel
theorem d_TU_move_13 : decode b_TU_move 13 = .ok (.getfield 11, 3) := by decide +kernel
theorem d_TU_move_16 : decode b_TU_move 16 = .ok (.iload_n 2, 1) := by decide +kernel
theorem d_TU_move_17 : decode b_TU_move 17 = .ok (.iload_n 3, 1) := by decide +kernel
theorem d_TU_move_18 : decode b_TU_move 18 = .ok (.invokestatic 33, 3) := by decide +kernel
theorem d_TU_move_21 : decode b_TU_move 21 = .ok (.aload_n 0, 1) := by decide +kernel
theorem d_TU_move_22 : decode b_TU_move 22 = .ok (.getfield 15, 3) := by decide +kernel
theorem d_TU_move_25 : decode b_TU_move 25 = .ok (.iload_n 1, 1) := by decide +kernel
theorem d_TU_move_26 : decode b_TU_move 26 = .ok (.aload_n 0, 1) := by decide +kernel
theorem d_TU_move_27 : decode b_TU_move 27 = .ok (.getfield 15, 3) := by decide +kernel
theorem d_TU_move_30 : decode b_TU_move 30 = .ok (.iload_n 2, 1) := by decide +kernel
theorem d_TU_move_31 : decode b_TU_move 31 = .ok (.iload_n 3, 1) := by decide +kernel
theorem d_TU_move_32 : decode b_TU_move 32 = .ok (.invokestatic 33, 3) := by decide +kernel
theorem d_TU_move_35 : decode b_TU_move 35 = .ok (.aload_n 0, 1) := by decide +kernel
theorem d_TU_move_36 : decode b_TU_move 36 = .ok (.getfield 18, 3) := by decide +kernel
theorem d_TU_move_39 : decode b_TU_move 39 = .ok (.iload_n 1, 1) := by decide +kernel
theorem d_TU_move_40 : decode b_TU_move 40 = .ok (.aload_n 0, 1) := by decide +kernel
theorem d_TU_move_41 : decode b_TU_move 41 = .ok (.getfield 18, 3) := by decide +kernel
theorem d_TU_move_44 : decode b_TU_move 44 = .ok (.iload_n 2, 1) := by decide +kernel
theorem d_TU_move_45 : decode b_TU_move 45 = .ok (.iload_n 3, 1) := by decide +kernel
theorem d_TU_move_46 : decode b_TU_move 46 = .ok (.invokestatic 33, 3) := by decide +kernel
theorem d_TU_move_49 : decode b_TU_move 49 = .ok (.return_, 1) := by decide +kernel
theorem d_TU_keepFacts_0 : decode b_TU_keepFacts 0 = .ok (.iconst 0, 1) := by decide +kernel
theorem d_TU_keepFacts_1 : decode b_TU_keepFacts 1 = .ok (.istore_n 1, 1) := by decide +kernel
theorem d_TU_keepFacts_2 : decode b_TU_keepFacts 2 = .ok (.iconst 0, 1) := by decide +kernel
theorem d_TU_keepFacts_3 : decode b_TU_keepFacts 3 = .ok (.istore_n 2, 1) := by decide +kernel
theorem d_TU_keepFacts_4 : decode b_TU_keepFacts 4 = .ok (.iload_n 2, 1) := by decide +kernel
theorem d_TU_keepFacts_5 : decode b_TU_keepFacts 5 = .ok (.aload_n 0, 1) := by decide +kernel
theorem d_TU_keepFacts_6 : decode b_TU_keepFacts 6 = .ok (.getfield 21, 3) := by decide +kernel
theorem d_TU_keepFacts_9 : decode b_TU_keepFacts 9 = .ok (.if_icmp .ge 47, 3) := by decide +kernel
theorem d_TU_keepFacts_12 : decode b_TU_keepFacts 12 = .ok (.aload_n 0, 1) := by decide +kernel
theorem d_TU_keepFacts_13 : decode b_TU_keepFacts 13 = .ok (.getfield 15, 3) := by decide +kernel
theorem d_TU_keepFacts_16 : decode b_TU_keepFacts 16 = .ok (.iload_n 2, 1) := by decide +kernel
theorem d_TU_keepFacts_17 : decode b_TU_keepFacts 17 = .ok (.iaload, 1) := by decide +kernel
theorem d_TU_keepFacts_18 : decode b_TU_keepFacts 18 = .ok (.ifCond .ne 32, 3) := by decide +kernel
theorem d_TU_keepFacts_21 : decode b_TU_keepFacts 21 = .ok (.aload_n 0, 1) := by decide +kernel
theorem d_TU_keepFacts_22 : decode b_TU_keepFacts 22 = .ok (.getfield 11, 3) := by decide +kernel
theorem d_TU_keepFacts_25 : decode b_TU_keepFacts 25 = .ok (.iload_n 1, 1) := by decide +kernel
theorem d_TU_keepFacts_26 : decode b_TU_keepFacts 26 = .ok (.aload_n 0, 1) := by decide +kernel
theorem d_TU_keepFacts_27 : decode b_TU_keepFacts 27 = .ok (.getfield 11, 3) := by decide +kernel
theorem d_TU_keepFacts_30 : decode b_TU_keepFacts 30 = .ok (.iload_n 2, 1) := by decide +kernel
theorem d_TU_keepFacts_31 : decode b_TU_keepFacts 31 = .ok (.iaload, 1) := by decide +kernel
theorem d_TU_keepFacts_32 : decode b_TU_keepFacts 32 = .ok (.iastore, 1) := by decide +kernel
theorem d_TU_keepFacts_33 : decode b_TU_keepFacts 33 = .ok (.aload_n 0, 1) := by decide +kernel
theorem d_TU_keepFacts_34 : decode b_TU_keepFacts 34 = .ok (.getfield 15, 3) := by decide +kernel
theorem d_TU_keepFacts_37 : decode b_TU_keepFacts 37 = .ok (.iload_n 1, 1) := by decide +kernel
theorem d_TU_keepFacts_38 : decode b_TU_keepFacts 38 = .ok (.iconst 0, 1) := by decide +kernel
theorem d_TU_keepFacts_39 : decode b_TU_keepFacts 39 = .ok (.iastore, 1) := by decide +kernel
theorem d_TU_keepFacts_40 : decode b_TU_keepFacts 40 = .ok (.aload_n 0, 1) := by decide +kernel
theorem d_TU_keepFacts_41 : decode b_TU_keepFacts 41 = .ok (.getfield 18, 3) := by decide +kernel
theorem d_TU_keepFacts_44 : decode b_TU_keepFacts 44 = .ok (.iload_n 1, 1) := by decide +kernel
theorem d_TU_keepFacts_45 : decode b_TU_keepFacts 45 = .ok (.iconst (-1), 1) := by decide +kernel
theorem d_TU_keepFacts_46 : decode b_TU_keepFacts 46 = .ok (.iastore, 1) := by decide +kernel
theorem d_TU_keepFacts_47 : decode b_TU_keepFacts 47 = .ok (.iinc 1 1, 3) := by decide +kernel
theorem d_TU_keepFacts_50 : decode b_TU_keepFacts 50 = .ok (.iinc 2 1, 3) := by decide +kernel
theorem d_TU_keepFacts_53 : decode b_TU_keepFacts 53 = .ok (.goto (-49), 3) := by decide +kernel
theorem d_TU_keepFacts_56 : decode b_TU_keepFacts 56 = .ok (.aload_n 0, 1) := by decide +kernel
theorem d_TU_keepFacts_57 : decode b_TU_keepFacts 57 = .ok (.iload_n 1, 1) := by decide +kernel
theorem d_TU_keepFacts_58 : decode b_TU_keepFacts 58 = .ok (.putfield 21, 3) := by decide +kernel
theorem d_TU_keepFacts_61 : decode b_TU_keepFacts 61 = .ok (.return_, 1) := by decide +kernel
theorem d_TU_copyCodes_0 : decode b_TU_copyCodes 0 = .ok (.aload_n 1, 1) := by decide +kernel
theorem d_TU_copyCodes_1 : decode b_TU_copyCodes 1 = .ok (.getfield 11, 3) := by decide +kernel
theorem d_TU_copyCodes_4 : decode b_TU_copyCodes 4 = .ok (.iconst 0, 1) := by decide +kernel
theorem d_TU_copyCodes_5 : decode b_TU_copyCodes 5 = .ok (.aload_n 0, 1) := by decide +kernel
theorem d_TU_copyCodes_6 : decode b_TU_copyCodes 6 = .ok (.getfield 11, 3) := by decide +kernel
theorem d_TU_copyCodes_9 : decode b_TU_copyCodes 9 = .ok (.iconst 0, 1) := by decide +kernel
theorem d_TU_copyCodes_10 : decode b_TU_copyCodes 10 = .ok (.aload_n 1, 1) := by decide +kernel
theorem d_TU_copyCodes_11 : decode b_TU_copyCodes 11 = .ok (.getfield 21, 3) := by decide +kernel
theorem d_TU_copyCodes_14 : decode b_TU_copyCodes 14 = .ok (.invokestatic 33, 3) := by decide +kernel
theorem d_TU_copyCodes_17 : decode b_TU_copyCodes 17 = .ok (.aload_n 0, 1) := by decide +kernel
theorem d_TU_copyCodes_18 : decode b_TU_copyCodes 18 = .ok (.aload_n 1, 1) := by decide +kernel
theorem d_TU_copyCodes_19 : decode b_TU_copyCodes 19 = .ok (.getfield 21, 3) := by decide +kernel
theorem d_TU_copyCodes_22 : decode b_TU_copyCodes 22 = .ok (.putfield 21, 3) := by decide +kernel
theorem d_TU_copyCodes_25 : decode b_TU_copyCodes 25 = .ok (.return_, 1) := by decide +kernel
