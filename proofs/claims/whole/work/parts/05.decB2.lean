theorem d_DE_nextRound_50 : decode b_DE_nextRound 50 = .ok (.if_icmp .ge 51, 3) := by decide +kernel
theorem d_DE_nextRound_53 : decode b_DE_nextRound 53 = .ok (.aload_n 0, 1) := by decide +kernel
theorem d_DE_nextRound_54 : decode b_DE_nextRound 54 = .ok (.invokevirtual 57, 3) := by decide +kernel
theorem d_DE_nextRound_57 : decode b_DE_nextRound 57 = .ok (.ifCond .ne 44, 3) := by decide +kernel
theorem d_DE_nextRound_60 : decode b_DE_nextRound 60 = .ok (.aload_n 0, 1) := by decide +kernel
theorem d_DE_nextRound_61 : decode b_DE_nextRound 61 = .ok (.getfield 9, 3) := by decide +kernel
theorem d_DE_nextRound_64 : decode b_DE_nextRound 64 = .ok (.getfield 61, 3) := by decide +kernel
theorem d_DE_nextRound_67 : decode b_DE_nextRound 67 = .ok (.aload_n 0, 1) := by decide +kernel
theorem d_DE_nextRound_68 : decode b_DE_nextRound 68 = .ok (.getfield 9, 3) := by decide +kernel
theorem d_DE_nextRound_71 : decode b_DE_nextRound 71 = .ok (.getfield 65, 3) := by decide +kernel
theorem d_DE_nextRound_74 : decode b_DE_nextRound 74 = .ok (.iload_n 1, 1) := by decide +kernel
theorem d_DE_nextRound_75 : decode b_DE_nextRound 75 = .ok (.aaload, 1) := by decide +kernel
theorem d_DE_nextRound_76 : decode b_DE_nextRound 76 = .ok (.getfield 69, 3) := by decide +kernel
theorem d_DE_nextRound_79 : decode b_DE_nextRound 79 = .ok (.getfield 75, 3) := by decide +kernel
theorem d_DE_nextRound_82 : decode b_DE_nextRound 82 = .ok (.iaload, 1) := by decide +kernel
theorem d_DE_nextRound_83 : decode b_DE_nextRound 83 = .ok (.aload_n 0, 1) := by decide +kernel
theorem d_DE_nextRound_84 : decode b_DE_nextRound 84 = .ok (.getfield 32, 3) := by decide +kernel
theorem d_DE_nextRound_87 : decode b_DE_nextRound 87 = .ok (.if_icmp .ne 8, 3) := by decide +kernel
theorem d_DE_nextRound_90 : decode b_DE_nextRound 90 = .ok (.aload_n 0, 1) := by decide +kernel
theorem d_DE_nextRound_91 : decode b_DE_nextRound 91 = .ok (.iload_n 1, 1) := by decide +kernel
theorem d_DE_nextRound_92 : decode b_DE_nextRound 92 = .ok (.invokevirtual 80, 3) := by decide +kernel
theorem d_DE_nextRound_95 : decode b_DE_nextRound 95 = .ok (.iinc 1 1, 3) := by decide +kernel
theorem d_DE_nextRound_98 : decode b_DE_nextRound 98 = .ok (.goto (-56), 3) := by decide +kernel
theorem d_DE_nextRound_101 : decode b_DE_nextRound 101 = .ok (.aload_n 0, 1) := by decide +kernel
theorem d_DE_nextRound_102 : decode b_DE_nextRound 102 = .ok (.invokevirtual 57, 3) := by decide +kernel
theorem d_DE_nextRound_105 : decode b_DE_nextRound 105 = .ok (.ifCond .eq 6, 3) := by decide +kernel
theorem d_DE_nextRound_108 : decode b_DE_nextRound 108 = .ok (.bipush (-5), 2) := by decide +kernel
theorem d_DE_nextRound_110 : decode b_DE_nextRound 110 = .ok (.ireturn, 1) := by decide +kernel
theorem d_DE_nextRound_111 : decode b_DE_nextRound 111 = .ok (.aload_n 0, 1) := by decide +kernel
theorem d_DE_nextRound_112 : decode b_DE_nextRound 112 = .ok (.invokevirtual 84, 3) := by decide +kernel
theorem d_DE_nextRound_115 : decode b_DE_nextRound 115 = .ok (.aload_n 0, 1) := by decide +kernel
theorem d_DE_nextRound_116 : decode b_DE_nextRound 116 = .ok (.getfield 29, 3) := by decide +kernel
theorem d_DE_nextRound_119 : decode b_DE_nextRound 119 = .ok (.getfield 51, 3) := by decide +kernel
theorem d_DE_nextRound_122 : decode b_DE_nextRound 122 = .ok (.ireturn, 1) := by decide +kernel
theorem d_DE_isTooMuch_0 : decode b_DE_isTooMuch 0 = .ok (.aload_n 0, 1) := by decide +kernel
theorem d_DE_isTooMuch_1 : decode b_DE_isTooMuch 1 = .ok (.getfield 15, 3) := by decide +kernel
theorem d_DE_isTooMuch_4 : decode b_DE_isTooMuch 4 = .ok (.getfield 51, 3) := by decide +kernel
theorem d_DE_isTooMuch_7 : decode b_DE_isTooMuch 7 = .ok (.aload_n 0, 1) := by decide +kernel
theorem d_DE_isTooMuch_8 : decode b_DE_isTooMuch 8 = .ok (.getfield 29, 3) := by decide +kernel
theorem d_DE_isTooMuch_11 : decode b_DE_isTooMuch 11 = .ok (.getfield 51, 3) := by decide +kernel
theorem d_DE_isTooMuch_14 : decode b_DE_isTooMuch 14 = .ok (.iadd, 1) := by decide +kernel
theorem d_DE_isTooMuch_15 : decode b_DE_isTooMuch 15 = .ok (.sipush 300, 3) := by decide +kernel
theorem d_DE_isTooMuch_18 : decode b_DE_isTooMuch 18 = .ok (.if_icmp .le 7, 3) := by decide +kernel
theorem d_DE_isTooMuch_21 : decode b_DE_isTooMuch 21 = .ok (.iconst 1, 1) := by decide +kernel
theorem d_DE_isTooMuch_22 : decode b_DE_isTooMuch 22 = .ok (.goto 4, 3) := by decide +kernel
theorem d_DE_isTooMuch_25 : decode b_DE_isTooMuch 25 = .ok (.iconst 0, 1) := by decide +kernel
theorem d_DE_isTooMuch_26 : decode b_DE_isTooMuch 26 = .ok (.ireturn, 1) := by decide +kernel
theorem d_DE_closeRound_0 : decode b_DE_closeRound 0 = .ok (.aload_n 0, 1) := by decide +kernel
theorem d_DE_closeRound_1 : decode b_DE_closeRound 1 = .ok (.dup, 1) := by decide +kernel
theorem d_DE_closeRound_2 : decode b_DE_closeRound 2 = .ok (.getfield 40, 3) := by decide +kernel
theorem d_DE_closeRound_5 : decode b_DE_closeRound 5 = .ok (.iconst 1, 1) := by decide +kernel
theorem d_DE_closeRound_6 : decode b_DE_closeRound 6 = .ok (.iadd, 1) := by decide +kernel
theorem d_DE_closeRound_7 : decode b_DE_closeRound 7 = .ok (.putfield 40, 3) := by decide +kernel
theorem d_DE_closeRound_10 : decode b_DE_closeRound 10 = .ok (.iconst 0, 1) := by decide +kernel
theorem d_DE_closeRound_11 : decode b_DE_closeRound 11 = .ok (.istore_n 1, 1) := by decide +kernel
theorem d_DE_closeRound_12 : decode b_DE_closeRound 12 = .ok (.iload_n 1, 1) := by decide +kernel
theorem d_DE_closeRound_13 : decode b_DE_closeRound 13 = .ok (.aload_n 0, 1) := by decide +kernel
theorem d_DE_closeRound_14 : decode b_DE_closeRound 14 = .ok (.getfield 29, 3) := by decide +kernel
theorem d_DE_closeRound_17 : decode b_DE_closeRound 17 = .ok (.getfield 51, 3) := by decide +kernel
theorem d_DE_closeRound_20 : decode b_DE_closeRound 20 = .ok (.if_icmp .ge 38, 3) := by decide +kernel
theorem d_DE_closeRound_23 : decode b_DE_closeRound 23 = .ok (.aload_n 0, 1) := by decide +kernel
theorem d_DE_closeRound_24 : decode b_DE_closeRound 24 = .ok (.getfield 15, 3) := by decide +kernel
theorem d_DE_closeRound_27 : decode b_DE_closeRound 27 = .ok (.aload_n 0, 1) := by decide +kernel
theorem d_DE_closeRound_28 : decode b_DE_closeRound 28 = .ok (.getfield 29, 3) := by decide +kernel
theorem d_DE_closeRound_31 : decode b_DE_closeRound 31 = .ok (.getfield 87, 3) := by decide +kernel
theorem d_DE_closeRound_34 : decode b_DE_closeRound 34 = .ok (.iload_n 1, 1) := by decide +kernel
theorem d_DE_closeRound_35 : decode b_DE_closeRound 35 = .ok (.iaload, 1) := by decide +kernel
theorem d_DE_closeRound_36 : decode b_DE_closeRound 36 = .ok (.aload_n 0, 1) := by decide +kernel
theorem d_DE_closeRound_37 : decode b_DE_closeRound 37 = .ok (.getfield 40, 3) := by decide +kernel
theorem d_DE_closeRound_40 : decode b_DE_closeRound 40 = .ok (.aload_n 0, 1) := by decide +kernel
theorem d_DE_closeRound_41 : decode b_DE_closeRound 41 = .ok (.getfield 29, 3) := by decide +kernel
theorem d_DE_closeRound_44 : decode b_DE_closeRound 44 = .ok (.getfield 90, 3) := by decide +kernel
theorem d_DE_closeRound_47 : decode b_DE_closeRound 47 = .ok (.iload_n 1, 1) := by decide +kernel
theorem d_DE_closeRound_48 : decode b_DE_closeRound 48 = .ok (.iaload, 1) := by decide +kernel
theorem d_DE_closeRound_49 : decode b_DE_closeRound 49 = .ok (.invokevirtual 93, 3) := by decide +kernel
theorem d_DE_closeRound_52 : decode b_DE_closeRound 52 = .ok (.iinc 1 1, 3) := by decide +kernel
theorem d_DE_closeRound_55 : decode b_DE_closeRound 55 = .ok (.goto (-43), 3) := by decide +kernel
theorem d_DE_closeRound_58 : decode b_DE_closeRound 58 = .ok (.aload_n 0, 1) := by decide +kernel
theorem d_DE_closeRound_59 : decode b_DE_closeRound 59 = .ok (.getfield 26, 3) := by decide +kernel
theorem d_DE_closeRound_62 : decode b_DE_closeRound 62 = .ok (.aload_n 0, 1) := by decide +kernel
theorem d_DE_closeRound_63 : decode b_DE_closeRound 63 = .ok (.getfield 29, 3) := by decide +kernel
theorem d_DE_closeRound_66 : decode b_DE_closeRound 66 = .ok (.invokevirtual 97, 3) := by decide +kernel
theorem d_DE_closeRound_69 : decode b_DE_closeRound 69 = .ok (.aload_n 0, 1) := by decide +kernel
theorem d_DE_closeRound_70 : decode b_DE_closeRound 70 = .ok (.aload_n 0, 1) := by decide +kernel
theorem d_DE_closeRound_71 : decode b_DE_closeRound 71 = .ok (.getfield 29, 3) := by decide +kernel
theorem d_DE_closeRound_74 : decode b_DE_closeRound 74 = .ok (.getfield 51, 3) := by decide +kernel
theorem d_DE_closeRound_77 : decode b_DE_closeRound 77 = .ok (.ifCond .ne 7, 3) := by decide +kernel
theorem d_DE_closeRound_80 : decode b_DE_closeRound 80 = .ok (.iconst 1, 1) := by decide +kernel
theorem d_DE_closeRound_81 : decode b_DE_closeRound 81 = .ok (.goto 4, 3) := by decide +kernel
theorem d_DE_closeRound_84 : decode b_DE_closeRound 84 = .ok (.iconst 0, 1) := by decide +kernel
theorem d_DE_closeRound_85 : decode b_DE_closeRound 85 = .ok (.putfield 36, 3) := by decide +kernel
theorem d_DE_closeRound_88 : decode b_DE_closeRound 88 = .ok (.aload_n 0, 1) := by decide +kernel
theorem d_DE_closeRound_89 : decode b_DE_closeRound 89 = .ok (.getfield 36, 3) := by decide +kernel
theorem d_DE_closeRound_92 : decode b_DE_closeRound 92 = .ok (.ifCond .eq 13, 3) := by decide +kernel
theorem d_DE_closeRound_95 : decode b_DE_closeRound 95 = .ok (.aload_n 0, 1) := by decide +kernel
theorem d_DE_closeRound_96 : decode b_DE_closeRound 96 = .ok (.dup, 1) := by decide +kernel
theorem d_DE_closeRound_97 : decode b_DE_closeRound 97 = .ok (.getfield 32, 3) := by decide +kernel
theorem d_DE_closeRound_100 : decode b_DE_closeRound 100 = .ok (.iconst 1, 1) := by decide +kernel
theorem d_DE_closeRound_101 : decode b_DE_closeRound 101 = .ok (.iadd, 1) := by decide +kernel
theorem d_DE_closeRound_102 : decode b_DE_closeRound 102 = .ok (.putfield 32, 3) := by decide +kernel
theorem d_DE_closeRound_105 : decode b_DE_closeRound 105 = .ok (.return_, 1) := by decide +kernel
theorem d_DE_deriveBy_0 : decode b_DE_deriveBy 0 = .ok (.aload_n 0, 1) := by decide +kernel
theorem d_DE_deriveBy_1 : decode b_DE_deriveBy 1 = .ok (.getfield 36, 3) := by decide +kernel
theorem d_DE_deriveBy_4 : decode b_DE_deriveBy 4 = .ok (.ifCond .eq 12, 3) := by decide +kernel
theorem d_DE_deriveBy_7 : decode b_DE_deriveBy 7 = .ok (.aload_n 0, 1) := by decide +kernel
theorem d_DE_deriveBy_8 : decode b_DE_deriveBy 8 = .ok (.iload_n 1, 1) := by decide +kernel
theorem d_DE_deriveBy_9 : decode b_DE_deriveBy 9 = .ok (.iconst 0, 1) := by decide +kernel
theorem d_DE_deriveBy_10 : decode b_DE_deriveBy 10 = .ok (.iconst (-1), 1) := by decide +kernel
theorem d_DE_deriveBy_11 : decode b_DE_deriveBy 11 = .ok (.invokevirtual 101, 3) := by decide +kernel
theorem d_DE_deriveBy_14 : decode b_DE_deriveBy 14 = .ok (.pop, 1) := by decide +kernel
theorem d_DE_deriveBy_15 : decode b_DE_deriveBy 15 = .ok (.return_, 1) := by decide +kernel
theorem d_DE_deriveBy_16 : decode b_DE_deriveBy 16 = .ok (.iconst 0, 1) := by decide +kernel
theorem d_DE_deriveBy_17 : decode b_DE_deriveBy 17 = .ok (.istore_n 2, 1) := by decide +kernel
theorem d_DE_deriveBy_18 : decode b_DE_deriveBy 18 = .ok (.iload_n 2, 1) := by decide +kernel
theorem d_DE_deriveBy_19 : decode b_DE_deriveBy 19 = .ok (.aload_n 0, 1) := by decide +kernel
theorem d_DE_deriveBy_20 : decode b_DE_deriveBy 20 = .ok (.getfield 9, 3) := by decide +kernel
theorem d_DE_deriveBy_23 : decode b_DE_deriveBy 23 = .ok (.getfield 65, 3) := by decide +kernel
theorem d_DE_deriveBy_26 : decode b_DE_deriveBy 26 = .ok (.iload_n 1, 1) := by decide +kernel
theorem d_DE_deriveBy_27 : decode b_DE_deriveBy 27 = .ok (.aaload, 1) := by decide +kernel
theorem d_DE_deriveBy_28 : decode b_DE_deriveBy 28 = .ok (.getfield 105, 3) := by decide +kernel
theorem d_DE_deriveBy_31 : decode b_DE_deriveBy 31 = .ok (.if_icmp .ge 17, 3) := by decide +kernel
theorem d_DE_deriveBy_34 : decode b_DE_deriveBy 34 = .ok (.aload_n 0, 1) := by decide +kernel
theorem d_DE_deriveBy_35 : decode b_DE_deriveBy 35 = .ok (.iload_n 1, 1) := by decide +kernel
theorem d_DE_deriveBy_36 : decode b_DE_deriveBy 36 = .ok (.iconst 0, 1) := by decide +kernel
theorem d_DE_deriveBy_37 : decode b_DE_deriveBy 37 = .ok (.iload_n 2, 1) := by decide +kernel
theorem d_DE_deriveBy_38 : decode b_DE_deriveBy 38 = .ok (.invokevirtual 101, 3) := by decide +kernel
theorem d_DE_deriveBy_41 : decode b_DE_deriveBy 41 = .ok (.pop, 1) := by decide +kernel
theorem d_DE_deriveBy_42 : decode b_DE_deriveBy 42 = .ok (.iinc 2 1, 3) := by decide +kernel
theorem d_DE_deriveBy_45 : decode b_DE_deriveBy 45 = .ok (.goto (-27), 3) := by decide +kernel
theorem d_DE_deriveBy_48 : decode b_DE_deriveBy 48 = .ok (.return_, 1) := by decide +kernel
theorem d_DE_deriveFrom_0 : decode b_DE_deriveFrom 0 = .ok (.aload_n 0, 1) := by decide +kernel
theorem d_DE_deriveFrom_1 : decode b_DE_deriveFrom 1 = .ok (.getfield 9, 3) := by decide +kernel
theorem d_DE_deriveFrom_4 : decode b_DE_deriveFrom 4 = .ok (.getfield 65, 3) := by decide +kernel
theorem d_DE_deriveFrom_7 : decode b_DE_deriveFrom 7 = .ok (.iload_n 1, 1) := by decide +kernel
theorem d_DE_deriveFrom_8 : decode b_DE_deriveFrom 8 = .ok (.aaload, 1) := by decide +kernel
theorem d_DE_deriveFrom_9 : decode b_DE_deriveFrom 9 = .ok (.astore 4, 2) := by decide +kernel
theorem d_DE_deriveFrom_11 : decode b_DE_deriveFrom 11 = .ok (.iload_n 2, 1) := by decide +kernel
theorem d_DE_deriveFrom_12 : decode b_DE_deriveFrom 12 = .ok (.aload 4, 2) := by decide +kernel
theorem d_DE_deriveFrom_14 : decode b_DE_deriveFrom 14 = .ok (.getfield 69, 3) := by decide +kernel
theorem d_DE_deriveFrom_17 : decode b_DE_deriveFrom 17 = .ok (.getfield 108, 3) := by decide +kernel
theorem d_DE_deriveFrom_20 : decode b_DE_deriveFrom 20 = .ok (.if_icmp .ne 24, 3) := by decide +kernel
theorem d_DE_deriveFrom_23 : decode b_DE_deriveFrom 23 = .ok (.aload_n 0, 1) := by decide +kernel
theorem d_DE_deriveFrom_24 : decode b_DE_deriveFrom 24 = .ok (.aload_n 0, 1) := by decide +kernel
theorem d_DE_deriveFrom_25 : decode b_DE_deriveFrom 25 = .ok (.getfield 19, 3) := by decide +kernel
theorem d_DE_deriveFrom_28 : decode b_DE_deriveFrom 28 = .ok (.aload 4, 2) := by decide +kernel
theorem d_DE_deriveFrom_30 : decode b_DE_deriveFrom 30 = .ok (.getfield 69, 3) := by decide +kernel
theorem d_DE_deriveFrom_33 : decode b_DE_deriveFrom 33 = .ok (.invokevirtual 111, 3) := by decide +kernel
theorem d_DE_deriveFrom_36 : decode b_DE_deriveFrom 36 = .ok (.invokevirtual 117, 3) := by decide +kernel
theorem d_DE_deriveFrom_39 : decode b_DE_deriveFrom 39 = .ok (.ifCond .eq 5, 3) := by decide +kernel
theorem d_DE_deriveFrom_42 : decode b_DE_deriveFrom 42 = .ok (.iconst 1, 1) := by decide +kernel
theorem d_DE_deriveFrom_43 : decode b_DE_deriveFrom 43 = .ok (.ireturn, 1) := by decide +kernel
theorem d_DE_deriveFrom_44 : decode b_DE_deriveFrom 44 = .ok (.aload_n 0, 1) := by decide +kernel
theorem d_DE_deriveFrom_45 : decode b_DE_deriveFrom 45 = .ok (.getfield 19, 3) := by decide +kernel
theorem d_DE_deriveFrom_48 : decode b_DE_deriveFrom 48 = .ok (.aload 4, 2) := by decide +kernel
theorem d_DE_deriveFrom_50 : decode b_DE_deriveFrom 50 = .ok (.iload_n 2, 1) := by decide +kernel
theorem d_DE_deriveFrom_51 : decode b_DE_deriveFrom 51 = .ok (.invokevirtual 121, 3) := by decide +kernel
theorem d_DE_deriveFrom_54 : decode b_DE_deriveFrom 54 = .ok (.ifCond .ne 5, 3) := by decide +kernel
theorem d_DE_deriveFrom_57 : decode b_DE_deriveFrom 57 = .ok (.iconst 0, 1) := by decide +kernel
theorem d_DE_deriveFrom_58 : decode b_DE_deriveFrom 58 = .ok (.ireturn, 1) := by decide +kernel
theorem d_DE_deriveFrom_59 : decode b_DE_deriveFrom 59 = .ok (.iload_n 2, 1) := by decide +kernel
theorem d_DE_deriveFrom_60 : decode b_DE_deriveFrom 60 = .ok (.aload 4, 2) := by decide +kernel
theorem d_DE_deriveFrom_62 : decode b_DE_deriveFrom 62 = .ok (.getfield 105, 3) := by decide +kernel
theorem d_DE_deriveFrom_65 : decode b_DE_deriveFrom 65 = .ok (.if_icmp .lt 26, 3) := by decide +kernel
theorem d_DE_deriveFrom_68 : decode b_DE_deriveFrom 68 = .ok (.aload_n 0, 1) := by decide +kernel
theorem d_DE_deriveFrom_69 : decode b_DE_deriveFrom 69 = .ok (.getfield 29, 3) := by decide +kernel
theorem d_DE_deriveFrom_72 : decode b_DE_deriveFrom 72 = .ok (.aload_n 0, 1) := by decide +kernel
theorem d_DE_deriveFrom_73 : decode b_DE_deriveFrom 73 = .ok (.getfield 19, 3) := by decide +kernel
theorem d_DE_deriveFrom_76 : decode b_DE_deriveFrom 76 = .ok (.aload 4, 2) := by decide +kernel
theorem d_DE_deriveFrom_78 : decode b_DE_deriveFrom 78 = .ok (.getfield 69, 3) := by decide +kernel
theorem d_DE_deriveFrom_81 : decode b_DE_deriveFrom 81 = .ok (.invokevirtual 111, 3) := by decide +kernel
theorem d_DE_deriveFrom_84 : decode b_DE_deriveFrom 84 = .ok (.iconst 0, 1) := by decide +kernel
theorem d_DE_deriveFrom_85 : decode b_DE_deriveFrom 85 = .ok (.iload_n 1, 1) := by decide +kernel
theorem d_DE_deriveFrom_86 : decode b_DE_deriveFrom 86 = .ok (.invokevirtual 93, 3) := by decide +kernel
theorem d_DE_deriveFrom_89 : decode b_DE_deriveFrom 89 = .ok (.iconst 1, 1) := by decide +kernel
theorem d_DE_deriveFrom_90 : decode b_DE_deriveFrom 90 = .ok (.ireturn, 1) := by decide +kernel
theorem d_DE_deriveFrom_91 : decode b_DE_deriveFrom 91 = .ok (.aload 4, 2) := by decide +kernel
theorem d_DE_deriveFrom_93 : decode b_DE_deriveFrom 93 = .ok (.getfield 125, 3) := by decide +kernel
theorem d_DE_deriveFrom_96 : decode b_DE_deriveFrom 96 = .ok (.iload_n 2, 1) := by decide +kernel
theorem d_DE_deriveFrom_97 : decode b_DE_deriveFrom 97 = .ok (.aaload, 1) := by decide +kernel
theorem d_DE_deriveFrom_98 : decode b_DE_deriveFrom 98 = .ok (.astore 5, 2) := by decide +kernel
theorem d_DE_deriveFrom_100 : decode b_DE_deriveFrom 100 = .ok (.iload_n 2, 1) := by decide +kernel
theorem d_DE_deriveFrom_101 : decode b_DE_deriveFrom 101 = .ok (.iload_n 3, 1) := by decide +kernel
theorem d_DE_deriveFrom_102 : decode b_DE_deriveFrom 102 = .ok (.if_icmp .ne 10, 3) := by decide +kernel
theorem d_DE_deriveFrom_105 : decode b_DE_deriveFrom 105 = .ok (.aload_n 0, 1) := by decide +kernel
theorem d_DE_deriveFrom_106 : decode b_DE_deriveFrom 106 = .ok (.getfield 26, 3) := by decide +kernel
theorem d_DE_deriveFrom_109 : decode b_DE_deriveFrom 109 = .ok (.goto 7, 3) := by decide +kernel
theorem d_DE_deriveFrom_112 : decode b_DE_deriveFrom 112 = .ok (.aload_n 0, 1) := by decide +kernel
theorem d_DE_deriveFrom_113 : decode b_DE_deriveFrom 113 = .ok (.getfield 15, 3) := by decide +kernel
theorem d_DE_deriveFrom_116 : decode b_DE_deriveFrom 116 = .ok (.astore 6, 2) := by decide +kernel
theorem d_DE_deriveFrom_118 : decode b_DE_deriveFrom 118 = .ok (.aload_n 0, 1) := by decide +kernel
theorem d_DE_deriveFrom_119 : decode b_DE_deriveFrom 119 = .ok (.getfield 19, 3) := by decide +kernel
theorem d_DE_deriveFrom_122 : decode b_DE_deriveFrom 122 = .ok (.aload 5, 2) := by decide +kernel
theorem d_DE_deriveFrom_124 : decode b_DE_deriveFrom 124 = .ok (.invokevirtual 111, 3) := by decide +kernel
theorem d_DE_deriveFrom_127 : decode b_DE_deriveFrom 127 = .ok (.istore 7, 2) := by decide +kernel
theorem d_DE_deriveFrom_129 : decode b_DE_deriveFrom 129 = .ok (.iload 7, 2) := by decide +kernel
theorem d_DE_deriveFrom_131 : decode b_DE_deriveFrom 131 = .ok (.aload 5, 2) := by decide +kernel
theorem d_DE_deriveFrom_133 : decode b_DE_deriveFrom 133 = .ok (.invokevirtual 129, 3) := by decide +kernel
theorem d_DE_deriveFrom_136 : decode b_DE_deriveFrom 136 = .ok (.iadd, 1) := by decide +kernel
theorem d_DE_deriveFrom_137 : decode b_DE_deriveFrom 137 = .ok (.istore 8, 2) := by decide +kernel
theorem d_DE_deriveFrom_139 : decode b_DE_deriveFrom 139 = .ok (.aload 6, 2) := by decide +kernel
theorem d_DE_deriveFrom_141 : decode b_DE_deriveFrom 141 = .ok (.iload 7, 2) := by decide +kernel
theorem d_DE_deriveFrom_143 : decode b_DE_deriveFrom 143 = .ok (.invokevirtual 133, 3) := by decide +kernel
theorem d_DE_deriveFrom_146 : decode b_DE_deriveFrom 146 = .ok (.istore 9, 2) := by decide +kernel
theorem d_DE_deriveFrom_148 : decode b_DE_deriveFrom 148 = .ok (.iload 9, 2) := by decide +kernel
theorem d_DE_deriveFrom_150 : decode b_DE_deriveFrom 150 = .ok (.aload 6, 2) := by decide +kernel
theorem d_DE_deriveFrom_152 : decode b_DE_deriveFrom 152 = .ok (.getfield 51, 3) := by decide +kernel
theorem d_DE_deriveFrom_155 : decode b_DE_deriveFrom 155 = .ok (.if_icmp .ge 80, 3) := by decide +kernel
theorem d_DE_deriveFrom_158 : decode b_DE_deriveFrom 158 = .ok (.aload 6, 2) := by decide +kernel
theorem d_DE_deriveFrom_160 : decode b_DE_deriveFrom 160 = .ok (.getfield 87, 3) := by decide +kernel
theorem d_DE_deriveFrom_163 : decode b_DE_deriveFrom 163 = .ok (.iload 9, 2) := by decide +kernel
theorem d_DE_deriveFrom_165 : decode b_DE_deriveFrom 165 = .ok (.iaload, 1) := by decide +kernel
theorem d_DE_deriveFrom_166 : decode b_DE_deriveFrom 166 = .ok (.iload 8, 2) := by decide +kernel
theorem d_DE_deriveFrom_168 : decode b_DE_deriveFrom 168 = .ok (.if_icmp .ge 67, 3) := by decide +kernel
theorem d_DE_deriveFrom_171 : decode b_DE_deriveFrom 171 = .ok (.aload_n 0, 1) := by decide +kernel
theorem d_DE_deriveFrom_172 : decode b_DE_deriveFrom 172 = .ok (.getfield 19, 3) := by decide +kernel
theorem d_DE_deriveFrom_175 : decode b_DE_deriveFrom 175 = .ok (.aload 5, 2) := by decide +kernel
theorem d_DE_deriveFrom_177 : decode b_DE_deriveFrom 177 = .ok (.aload 6, 2) := by decide +kernel
theorem d_DE_deriveFrom_179 : decode b_DE_deriveFrom 179 = .ok (.getfield 87, 3) := by decide +kernel
theorem d_DE_deriveFrom_182 : decode b_DE_deriveFrom 182 = .ok (.iload 9, 2) := by decide +kernel
theorem d_DE_deriveFrom_184 : decode b_DE_deriveFrom 184 = .ok (.iaload, 1) := by decide +kernel
theorem d_DE_deriveFrom_185 : decode b_DE_deriveFrom 185 = .ok (.invokevirtual 137, 3) := by decide +kernel
theorem d_DE_deriveFrom_188 : decode b_DE_deriveFrom 188 = .ok (.ifCond .eq 41, 3) := by decide +kernel
theorem d_DE_deriveFrom_191 : decode b_DE_deriveFrom 191 = .ok (.aload_n 0, 1) := by decide +kernel
theorem d_DE_deriveFrom_192 : decode b_DE_deriveFrom 192 = .ok (.iload_n 1, 1) := by decide +kernel
theorem d_DE_deriveFrom_193 : decode b_DE_deriveFrom 193 = .ok (.iload_n 2, 1) := by decide +kernel
theorem d_DE_deriveFrom_194 : decode b_DE_deriveFrom 194 = .ok (.iconst 1, 1) := by decide +kernel
theorem d_DE_deriveFrom_195 : decode b_DE_deriveFrom 195 = .ok (.iadd, 1) := by decide +kernel
theorem d_DE_deriveFrom_196 : decode b_DE_deriveFrom 196 = .ok (.iload_n 3, 1) := by decide +kernel
theorem d_DE_deriveFrom_197 : decode b_DE_deriveFrom 197 = .ok (.invokevirtual 101, 3) := by decide +kernel
theorem d_DE_deriveFrom_200 : decode b_DE_deriveFrom 200 = .ok (.istore 10, 2) := by decide +kernel
theorem d_DE_deriveFrom_202 : decode b_DE_deriveFrom 202 = .ok (.iload 10, 2) := by decide +kernel
theorem d_DE_deriveFrom_204 : decode b_DE_deriveFrom 204 = .ok (.ifCond .eq 15, 3) := by decide +kernel
theorem d_DE_deriveFrom_207 : decode b_DE_deriveFrom 207 = .ok (.iload_n 2, 1) := by decide +kernel
theorem d_DE_deriveFrom_208 : decode b_DE_deriveFrom 208 = .ok (.aload 4, 2) := by decide +kernel
theorem d_DE_deriveFrom_210 : decode b_DE_deriveFrom 210 = .ok (.getfield 69, 3) := by decide +kernel
theorem d_DE_deriveFrom_213 : decode b_DE_deriveFrom 213 = .ok (.getfield 108, 3) := by decide +kernel
theorem d_DE_deriveFrom_216 : decode b_DE_deriveFrom 216 = .ok (.if_icmp .ge 10, 3) := by decide +kernel
theorem d_DE_deriveFrom_219 : decode b_DE_deriveFrom 219 = .ok (.aload_n 0, 1) := by decide +kernel
theorem d_DE_deriveFrom_220 : decode b_DE_deriveFrom 220 = .ok (.invokevirtual 57, 3) := by decide +kernel
theorem d_DE_deriveFrom_223 : decode b_DE_deriveFrom 223 = .ok (.ifCond .eq 6, 3) := by decide +kernel
theorem d_DE_deriveFrom_226 : decode b_DE_deriveFrom 226 = .ok (.iload 10, 2) := by decide +kernel
theorem d_DE_deriveFrom_228 : decode b_DE_deriveFrom 228 = .ok (.ireturn, 1) := by decide +kernel
theorem d_DE_deriveFrom_229 : decode b_DE_deriveFrom 229 = .ok (.iinc 9 1, 3) := by decide +kernel
theorem d_DE_deriveFrom_232 : decode b_DE_deriveFrom 232 = .ok (.goto (-84), 3) := by decide +kernel
theorem d_DE_deriveFrom_235 : decode b_DE_deriveFrom 235 = .ok (.iconst 0, 1) := by decide +kernel
theorem d_DE_deriveFrom_236 : decode b_DE_deriveFrom 236 = .ok (.ireturn, 1) := by decide +kernel
theorem d_DE_isKnown_0 : decode b_DE_isKnown 0 = .ok (.aload_n 0, 1) := by decide +kernel
theorem d_DE_isKnown_1 : decode b_DE_isKnown 1 = .ok (.getfield 15, 3) := by decide +kernel
theorem d_DE_isKnown_4 : decode b_DE_isKnown 4 = .ok (.iload_n 1, 1) := by decide +kernel
theorem d_DE_isKnown_5 : decode b_DE_isKnown 5 = .ok (.invokevirtual 141, 3) := by decide +kernel
theorem d_DE_isKnown_8 : decode b_DE_isKnown 8 = .ok (.ifCond .ne 14, 3) := by decide +kernel
theorem d_DE_isKnown_11 : decode b_DE_isKnown 11 = .ok (.aload_n 0, 1) := by decide +kernel
theorem d_DE_isKnown_12 : decode b_DE_isKnown 12 = .ok (.getfield 29, 3) := by decide +kernel
theorem d_DE_isKnown_15 : decode b_DE_isKnown 15 = .ok (.iload_n 1, 1) := by decide +kernel
theorem d_DE_isKnown_16 : decode b_DE_isKnown 16 = .ok (.invokevirtual 141, 3) := by decide +kernel
theorem d_DE_isKnown_19 : decode b_DE_isKnown 19 = .ok (.ifCond .eq 7, 3) := by decide +kernel
theorem d_DE_isKnown_22 : decode b_DE_isKnown 22 = .ok (.iconst 1, 1) := by decide +kernel
theorem d_DE_isKnown_23 : decode b_DE_isKnown 23 = .ok (.goto 4, 3) := by decide +kernel
theorem d_DE_isKnown_26 : decode b_DE_isKnown 26 = .ok (.iconst 0, 1) := by decide +kernel
theorem d_DE_isKnown_27 : decode b_DE_isKnown 27 = .ok (.ireturn, 1) := by decide +kernel
