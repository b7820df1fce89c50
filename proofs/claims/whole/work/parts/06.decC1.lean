theorem d_MO_init_0 : decode b_MO_init 0 = .ok (.aload_n 0, 1) := by decide +kernel
theorem d_MO_init_1 : decode b_MO_init 1 = .ok (.invokespecial 1, 3) := by decide +kernel
theorem d_MO_init_4 : decode b_MO_init 4 = .ok (.aload_n 0, 1) := by decide +kernel
theorem d_MO_init_5 : decode b_MO_init 5 = .ok (.bipush 12, 2) := by decide +kernel
theorem d_MO_init_7 : decode b_MO_init 7 = .ok (.newarray .int, 2) := by decide +kernel
theorem d_MO_init_9 : decode b_MO_init 9 = .ok (.putfield 7, 3) := by decide +kernel
theorem d_MO_init_12 : decode b_MO_init 12 = .ok (.aload_n 0, 1) := by decide +kernel
theorem d_MO_init_13 : decode b_MO_init 13 = .ok (.bipush 12, 2) := by decide +kernel
theorem d_MO_init_15 : decode b_MO_init 15 = .ok (.newarray .int, 2) := by decide +kernel
theorem d_MO_init_17 : decode b_MO_init 17 = .ok (.putfield 13, 3) := by decide +kernel
theorem d_MO_init_20 : decode b_MO_init 20 = .ok (.aload_n 0, 1) := by decide +kernel
theorem d_MO_init_21 : decode b_MO_init 21 = .ok (.sipush 200, 3) := by decide +kernel
theorem d_MO_init_24 : decode b_MO_init 24 = .ok (.newarray .int, 2) := by decide +kernel
theorem d_MO_init_26 : decode b_MO_init 26 = .ok (.putfield 16, 3) := by decide +kernel
theorem d_MO_init_29 : decode b_MO_init 29 = .ok (.aload_n 0, 1) := by decide +kernel
theorem d_MO_init_30 : decode b_MO_init 30 = .ok (.sipush 200, 3) := by decide +kernel
theorem d_MO_init_33 : decode b_MO_init 33 = .ok (.newarray .int, 2) := by decide +kernel
theorem d_MO_init_35 : decode b_MO_init 35 = .ok (.putfield 19, 3) := by decide +kernel
theorem d_MO_init_38 : decode b_MO_init 38 = .ok (.aload_n 0, 1) := by decide +kernel
theorem d_MO_init_39 : decode b_MO_init 39 = .ok (.sipush 320, 3) := by decide +kernel
theorem d_MO_init_42 : decode b_MO_init 42 = .ok (.newarray .int, 2) := by decide +kernel
theorem d_MO_init_44 : decode b_MO_init 44 = .ok (.putfield 22, 3) := by decide +kernel
theorem d_MO_init_47 : decode b_MO_init 47 = .ok (.aload_n 0, 1) := by decide +kernel
theorem d_MO_init_48 : decode b_MO_init 48 = .ok (.sipush 320, 3) := by decide +kernel
theorem d_MO_init_51 : decode b_MO_init 51 = .ok (.newarray .int, 2) := by decide +kernel
theorem d_MO_init_53 : decode b_MO_init 53 = .ok (.putfield 25, 3) := by decide +kernel
theorem d_MO_init_56 : decode b_MO_init 56 = .ok (.aload_n 0, 1) := by decide +kernel
theorem d_MO_init_57 : decode b_MO_init 57 = .ok (.sipush 320, 3) := by decide +kernel
theorem d_MO_init_60 : decode b_MO_init 60 = .ok (.newarray .int, 2) := by decide +kernel
theorem d_MO_init_62 : decode b_MO_init 62 = .ok (.putfield 28, 3) := by decide +kernel
theorem d_MO_init_65 : decode b_MO_init 65 = .ok (.aload_n 0, 1) := by decide +kernel
theorem d_MO_init_66 : decode b_MO_init 66 = .ok (.sipush 320, 3) := by decide +kernel
theorem d_MO_init_69 : decode b_MO_init 69 = .ok (.newarray .int, 2) := by decide +kernel
theorem d_MO_init_71 : decode b_MO_init 71 = .ok (.putfield 31, 3) := by decide +kernel
theorem d_MO_init_74 : decode b_MO_init 74 = .ok (.aload_n 0, 1) := by decide +kernel
theorem d_MO_init_75 : decode b_MO_init 75 = .ok (.ldc 34, 2) := by decide +kernel
theorem d_MO_init_77 : decode b_MO_init 77 = .ok (.newarray .long, 2) := by decide +kernel
theorem d_MO_init_79 : decode b_MO_init 79 = .ok (.putfield 35, 3) := by decide +kernel
theorem d_MO_init_82 : decode b_MO_init 82 = .ok (.aload_n 0, 1) := by decide +kernel
theorem d_MO_init_83 : decode b_MO_init 83 = .ok (.ldc 34, 2) := by decide +kernel
theorem d_MO_init_85 : decode b_MO_init 85 = .ok (.newarray .long, 2) := by decide +kernel
theorem d_MO_init_87 : decode b_MO_init 87 = .ok (.putfield 39, 3) := by decide +kernel
theorem d_MO_init_90 : decode b_MO_init 90 = .ok (.aload_n 0, 1) := by decide +kernel
theorem d_MO_init_91 : decode b_MO_init 91 = .ok (.bipush 25, 2) := by decide +kernel
theorem d_MO_init_93 : decode b_MO_init 93 = .ok (.newarray .int, 2) := by decide +kernel
theorem d_MO_init_95 : decode b_MO_init 95 = .ok (.putfield 42, 3) := by decide +kernel
theorem d_MO_init_98 : decode b_MO_init 98 = .ok (.aload_n 0, 1) := by decide +kernel
theorem d_MO_init_99 : decode b_MO_init 99 = .ok (.bipush 75, 2) := by decide +kernel
theorem d_MO_init_101 : decode b_MO_init 101 = .ok (.newarray .int, 2) := by decide +kernel
theorem d_MO_init_103 : decode b_MO_init 103 = .ok (.putfield 45, 3) := by decide +kernel
theorem d_MO_init_106 : decode b_MO_init 106 = .ok (.aload_n 0, 1) := by decide +kernel
theorem d_MO_init_107 : decode b_MO_init 107 = .ok (.bipush 25, 2) := by decide +kernel
theorem d_MO_init_109 : decode b_MO_init 109 = .ok (.newarray .int, 2) := by decide +kernel
theorem d_MO_init_111 : decode b_MO_init 111 = .ok (.putfield 48, 3) := by decide +kernel
theorem d_MO_init_114 : decode b_MO_init 114 = .ok (.aload_n 0, 1) := by decide +kernel
theorem d_MO_init_115 : decode b_MO_init 115 = .ok (.sipush 150, 3) := by decide +kernel
theorem d_MO_init_118 : decode b_MO_init 118 = .ok (.newarray .int, 2) := by decide +kernel
theorem d_MO_init_120 : decode b_MO_init 120 = .ok (.putfield 51, 3) := by decide +kernel
theorem d_MO_init_123 : decode b_MO_init 123 = .ok (.aload_n 0, 1) := by decide +kernel
theorem d_MO_init_124 : decode b_MO_init 124 = .ok (.sipush 150, 3) := by decide +kernel
theorem d_MO_init_127 : decode b_MO_init 127 = .ok (.newarray .int, 2) := by decide +kernel
theorem d_MO_init_129 : decode b_MO_init 129 = .ok (.putfield 54, 3) := by decide +kernel
theorem d_MO_init_132 : decode b_MO_init 132 = .ok (.aload_n 0, 1) := by decide +kernel
theorem d_MO_init_133 : decode b_MO_init 133 = .ok (.sipush 450, 3) := by decide +kernel
theorem d_MO_init_136 : decode b_MO_init 136 = .ok (.newarray .int, 2) := by decide +kernel
theorem d_MO_init_138 : decode b_MO_init 138 = .ok (.putfield 57, 3) := by decide +kernel
theorem d_MO_init_141 : decode b_MO_init 141 = .ok (.aload_n 0, 1) := by decide +kernel
theorem d_MO_init_142 : decode b_MO_init 142 = .ok (.bipush 8, 2) := by decide +kernel
theorem d_MO_init_144 : decode b_MO_init 144 = .ok (.newarray .int, 2) := by decide +kernel
theorem d_MO_init_146 : decode b_MO_init 146 = .ok (.putfield 60, 3) := by decide +kernel
theorem d_MO_init_149 : decode b_MO_init 149 = .ok (.aload_n 0, 1) := by decide +kernel
theorem d_MO_init_150 : decode b_MO_init 150 = .ok (.iconst 3, 1) := by decide +kernel
theorem d_MO_init_151 : decode b_MO_init 151 = .ok (.newarray .int, 2) := by decide +kernel
theorem d_MO_init_153 : decode b_MO_init 153 = .ok (.putfield 63, 3) := by decide +kernel
theorem d_MO_init_156 : decode b_MO_init 156 = .ok (.aload_n 0, 1) := by decide +kernel
theorem d_MO_init_157 : decode b_MO_init 157 = .ok (.iconst 3, 1) := by decide +kernel
theorem d_MO_init_158 : decode b_MO_init 158 = .ok (.newarray .int, 2) := by decide +kernel
theorem d_MO_init_160 : decode b_MO_init 160 = .ok (.putfield 66, 3) := by decide +kernel
theorem d_MO_init_163 : decode b_MO_init 163 = .ok (.aload_n 0, 1) := by decide +kernel
theorem d_MO_init_164 : decode b_MO_init 164 = .ok (.iconst 3, 1) := by decide +kernel
theorem d_MO_init_165 : decode b_MO_init 165 = .ok (.newarray .int, 2) := by decide +kernel
theorem d_MO_init_167 : decode b_MO_init 167 = .ok (.putfield 69, 3) := by decide +kernel
theorem d_MO_init_170 : decode b_MO_init 170 = .ok (.return_, 1) := by decide +kernel
theorem d_MO_thrown_0 : decode b_MO_thrown 0 = .ok (.aload_n 0, 1) := by decide +kernel
theorem d_MO_thrown_1 : decode b_MO_thrown 1 = .ok (.getfield 72, 3) := by decide +kernel
theorem d_MO_thrown_4 : decode b_MO_thrown 4 = .ok (.ireturn, 1) := by decide +kernel
theorem d_MO_number_0 : decode b_MO_number 0 = .ok (.iload_n 0, 1) := by decide +kernel
theorem d_MO_number_1 : decode b_MO_number 1 = .ok (.sipush 4096, 3) := by decide +kernel
theorem d_MO_number_4 : decode b_MO_number 4 = .ok (.imul, 1) := by decide +kernel
theorem d_MO_number_5 : decode b_MO_number 5 = .ok (.iload_n 1, 1) := by decide +kernel
theorem d_MO_number_6 : decode b_MO_number 6 = .ok (.bipush 64, 2) := by decide +kernel
theorem d_MO_number_8 : decode b_MO_number 8 = .ok (.imul, 1) := by decide +kernel
theorem d_MO_number_9 : decode b_MO_number 9 = .ok (.iadd, 1) := by decide +kernel
theorem d_MO_number_10 : decode b_MO_number 10 = .ok (.iload_n 2, 1) := by decide +kernel
theorem d_MO_number_11 : decode b_MO_number 11 = .ok (.iadd, 1) := by decide +kernel
theorem d_MO_number_12 : decode b_MO_number 12 = .ok (.ireturn, 1) := by decide +kernel
theorem d_MO_fits_0 : decode b_MO_fits 0 = .ok (.iload_n 1, 1) := by decide +kernel
theorem d_MO_fits_1 : decode b_MO_fits 1 = .ok (.ifCond .lt 11, 3) := by decide +kernel
theorem d_MO_fits_4 : decode b_MO_fits 4 = .ok (.iload_n 1, 1) := by decide +kernel
theorem d_MO_fits_5 : decode b_MO_fits 5 = .ok (.aload_n 0, 1) := by decide +kernel
theorem d_MO_fits_6 : decode b_MO_fits 6 = .ok (.getfield 76, 3) := by decide +kernel
theorem d_MO_fits_9 : decode b_MO_fits 9 = .ok (.if_icmp .lt 5, 3) := by decide +kernel
theorem d_MO_fits_12 : decode b_MO_fits 12 = .ok (.iconst 0, 1) := by decide +kernel
theorem d_MO_fits_13 : decode b_MO_fits 13 = .ok (.ireturn, 1) := by decide +kernel
theorem d_MO_fits_14 : decode b_MO_fits 14 = .ok (.aload_n 0, 1) := by decide +kernel
theorem d_MO_fits_15 : decode b_MO_fits 15 = .ok (.getfield 7, 3) := by decide +kernel
theorem d_MO_fits_18 : decode b_MO_fits 18 = .ok (.iload_n 1, 1) := by decide +kernel
theorem d_MO_fits_19 : decode b_MO_fits 19 = .ok (.iaload, 1) := by decide +kernel
theorem d_MO_fits_20 : decode b_MO_fits 20 = .ok (.iconst 1, 1) := by decide +kernel
theorem d_MO_fits_21 : decode b_MO_fits 21 = .ok (.if_icmp .le 21, 3) := by decide +kernel
theorem d_MO_fits_24 : decode b_MO_fits 24 = .ok (.iload_n 3, 1) := by decide +kernel
theorem d_MO_fits_25 : decode b_MO_fits 25 = .ok (.ifCond .lt 13, 3) := by decide +kernel
theorem d_MO_fits_28 : decode b_MO_fits 28 = .ok (.iload_n 3, 1) := by decide +kernel
theorem d_MO_fits_29 : decode b_MO_fits 29 = .ok (.iload 5, 2) := by decide +kernel
theorem d_MO_fits_31 : decode b_MO_fits 31 = .ok (.if_icmp .ge 7, 3) := by decide +kernel
theorem d_MO_fits_34 : decode b_MO_fits 34 = .ok (.iconst 1, 1) := by decide +kernel
theorem d_MO_fits_35 : decode b_MO_fits 35 = .ok (.goto 16, 3) := by decide +kernel
theorem d_MO_fits_38 : decode b_MO_fits 38 = .ok (.iconst 0, 1) := by decide +kernel
theorem d_MO_fits_39 : decode b_MO_fits 39 = .ok (.goto 12, 3) := by decide +kernel
theorem d_MO_fits_42 : decode b_MO_fits 42 = .ok (.iload_n 3, 1) := by decide +kernel
theorem d_MO_fits_43 : decode b_MO_fits 43 = .ok (.ifCond .ne 7, 3) := by decide +kernel
theorem d_MO_fits_46 : decode b_MO_fits 46 = .ok (.iconst 1, 1) := by decide +kernel
theorem d_MO_fits_47 : decode b_MO_fits 47 = .ok (.goto 4, 3) := by decide +kernel
theorem d_MO_fits_50 : decode b_MO_fits 50 = .ok (.iconst 0, 1) := by decide +kernel
theorem d_MO_fits_51 : decode b_MO_fits 51 = .ok (.istore 6, 2) := by decide +kernel
theorem d_MO_fits_53 : decode b_MO_fits 53 = .ok (.aload_n 0, 1) := by decide +kernel
theorem d_MO_fits_54 : decode b_MO_fits 54 = .ok (.getfield 7, 3) := by decide +kernel
theorem d_MO_fits_57 : decode b_MO_fits 57 = .ok (.iload_n 1, 1) := by decide +kernel
theorem d_MO_fits_58 : decode b_MO_fits 58 = .ok (.iaload, 1) := by decide +kernel
theorem d_MO_fits_59 : decode b_MO_fits 59 = .ok (.iconst 2, 1) := by decide +kernel
theorem d_MO_fits_60 : decode b_MO_fits 60 = .ok (.if_icmp .le 23, 3) := by decide +kernel
theorem d_MO_fits_63 : decode b_MO_fits 63 = .ok (.iload 4, 2) := by decide +kernel
theorem d_MO_fits_65 : decode b_MO_fits 65 = .ok (.ifCond .lt 14, 3) := by decide +kernel
theorem d_MO_fits_68 : decode b_MO_fits 68 = .ok (.iload 4, 2) := by decide +kernel
theorem d_MO_fits_70 : decode b_MO_fits 70 = .ok (.iload 5, 2) := by decide +kernel
theorem d_MO_fits_72 : decode b_MO_fits 72 = .ok (.if_icmp .ge 7, 3) := by decide +kernel
theorem d_MO_fits_75 : decode b_MO_fits 75 = .ok (.iconst 1, 1) := by decide +kernel
theorem d_MO_fits_76 : decode b_MO_fits 76 = .ok (.goto 17, 3) := by decide +kernel
theorem d_MO_fits_79 : decode b_MO_fits 79 = .ok (.iconst 0, 1) := by decide +kernel
theorem d_MO_fits_80 : decode b_MO_fits 80 = .ok (.goto 13, 3) := by decide +kernel
theorem d_MO_fits_83 : decode b_MO_fits 83 = .ok (.iload 4, 2) := by decide +kernel
theorem d_MO_fits_85 : decode b_MO_fits 85 = .ok (.ifCond .ne 7, 3) := by decide +kernel
theorem d_MO_fits_88 : decode b_MO_fits 88 = .ok (.iconst 1, 1) := by decide +kernel
theorem d_MO_fits_89 : decode b_MO_fits 89 = .ok (.goto 4, 3) := by decide +kernel
theorem d_MO_fits_92 : decode b_MO_fits 92 = .ok (.iconst 0, 1) := by decide +kernel
theorem d_MO_fits_93 : decode b_MO_fits 93 = .ok (.istore 7, 2) := by decide +kernel
theorem d_MO_fits_95 : decode b_MO_fits 95 = .ok (.iload_n 2, 1) := by decide +kernel
theorem d_MO_fits_96 : decode b_MO_fits 96 = .ok (.ifCond .lt 23, 3) := by decide +kernel
theorem d_MO_fits_99 : decode b_MO_fits 99 = .ok (.iload_n 2, 1) := by decide +kernel
theorem d_MO_fits_100 : decode b_MO_fits 100 = .ok (.iload 5, 2) := by decide +kernel
theorem d_MO_fits_102 : decode b_MO_fits 102 = .ok (.if_icmp .ge 17, 3) := by decide +kernel
theorem d_MO_fits_105 : decode b_MO_fits 105 = .ok (.iload 6, 2) := by decide +kernel
theorem d_MO_fits_107 : decode b_MO_fits 107 = .ok (.ifCond .eq 12, 3) := by decide +kernel
theorem d_MO_fits_110 : decode b_MO_fits 110 = .ok (.iload 7, 2) := by decide +kernel
theorem d_MO_fits_112 : decode b_MO_fits 112 = .ok (.ifCond .eq 7, 3) := by decide +kernel
theorem d_MO_fits_115 : decode b_MO_fits 115 = .ok (.iconst 1, 1) := by decide +kernel
theorem d_MO_fits_116 : decode b_MO_fits 116 = .ok (.goto 4, 3) := by decide +kernel
theorem d_MO_fits_119 : decode b_MO_fits 119 = .ok (.iconst 0, 1) := by decide +kernel
theorem d_MO_fits_120 : decode b_MO_fits 120 = .ok (.ireturn, 1) := by decide +kernel
theorem d_MO_again_0 : decode b_MO_again 0 = .ok (.iconst 0, 1) := by decide +kernel
theorem d_MO_again_1 : decode b_MO_again 1 = .ok (.istore_n 1, 1) := by decide +kernel
theorem d_MO_again_2 : decode b_MO_again 2 = .ok (.iload_n 1, 1) := by decide +kernel
theorem d_MO_again_3 : decode b_MO_again 3 = .ok (.aload_n 0, 1) := by decide +kernel
theorem d_MO_again_4 : decode b_MO_again 4 = .ok (.getfield 79, 3) := by decide +kernel
theorem d_MO_again_7 : decode b_MO_again 7 = .ok (.if_icmp .ge 29, 3) := by decide +kernel
theorem d_MO_again_10 : decode b_MO_again 10 = .ok (.aload_n 0, 1) := by decide +kernel
theorem d_MO_again_11 : decode b_MO_again 11 = .ok (.getfield 35, 3) := by decide +kernel
theorem d_MO_again_14 : decode b_MO_again 14 = .ok (.aload_n 0, 1) := by decide +kernel
theorem d_MO_again_15 : decode b_MO_again 15 = .ok (.getfield 22, 3) := by decide +kernel
theorem d_MO_again_18 : decode b_MO_again 18 = .ok (.iload_n 1, 1) := by decide +kernel
theorem d_MO_again_19 : decode b_MO_again 19 = .ok (.iaload, 1) := by decide +kernel
theorem d_MO_again_20 : decode b_MO_again 20 = .ok (.aload_n 0, 1) := by decide +kernel
theorem d_MO_again_21 : decode b_MO_again 21 = .ok (.getfield 25, 3) := by decide +kernel
theorem d_MO_again_24 : decode b_MO_again 24 = .ok (.iload_n 1, 1) := by decide +kernel
theorem d_MO_again_25 : decode b_MO_again 25 = .ok (.iaload, 1) := by decide +kernel
theorem d_MO_again_26 : decode b_MO_again 26 = .ok (.iconst 0, 1) := by decide +kernel
theorem d_MO_again_27 : decode b_MO_again 27 = .ok (.invokestatic 82, 3) := by decide +kernel
theorem d_MO_again_30 : decode b_MO_again 30 = .ok (.iinc 1 1, 3) := by decide +kernel
theorem d_MO_again_33 : decode b_MO_again 33 = .ok (.goto (-31), 3) := by decide +kernel
theorem d_MO_again_36 : decode b_MO_again 36 = .ok (.aload_n 0, 1) := by decide +kernel
theorem d_MO_again_37 : decode b_MO_again 37 = .ok (.iconst 0, 1) := by decide +kernel
theorem d_MO_again_38 : decode b_MO_again 38 = .ok (.putfield 79, 3) := by decide +kernel
theorem d_MO_again_41 : decode b_MO_again 41 = .ok (.iconst 0, 1) := by decide +kernel
theorem d_MO_again_42 : decode b_MO_again 42 = .ok (.istore_n 1, 1) := by decide +kernel
theorem d_MO_again_43 : decode b_MO_again 43 = .ok (.iload_n 1, 1) := by decide +kernel
theorem d_MO_again_44 : decode b_MO_again 44 = .ok (.aload_n 0, 1) := by decide +kernel
theorem d_MO_again_45 : decode b_MO_again 45 = .ok (.getfield 86, 3) := by decide +kernel
theorem d_MO_again_48 : decode b_MO_again 48 = .ok (.if_icmp .ge 77, 3) := by decide +kernel
theorem d_MO_again_51 : decode b_MO_again 51 = .ok (.aload_n 0, 1) := by decide +kernel
theorem d_MO_again_52 : decode b_MO_again 52 = .ok (.getfield 22, 3) := by decide +kernel
theorem d_MO_again_55 : decode b_MO_again 55 = .ok (.iload_n 1, 1) := by decide +kernel
theorem d_MO_again_56 : decode b_MO_again 56 = .ok (.aload_n 0, 1) := by decide +kernel
theorem d_MO_again_57 : decode b_MO_again 57 = .ok (.getfield 16, 3) := by decide +kernel
theorem d_MO_again_60 : decode b_MO_again 60 = .ok (.iload_n 1, 1) := by decide +kernel
theorem d_MO_again_61 : decode b_MO_again 61 = .ok (.iaload, 1) := by decide +kernel
theorem d_MO_again_62 : decode b_MO_again 62 = .ok (.iastore, 1) := by decide +kernel
theorem d_MO_again_63 : decode b_MO_again 63 = .ok (.aload_n 0, 1) := by decide +kernel
theorem d_MO_again_64 : decode b_MO_again 64 = .ok (.getfield 25, 3) := by decide +kernel
theorem d_MO_again_67 : decode b_MO_again 67 = .ok (.iload_n 1, 1) := by decide +kernel
theorem d_MO_again_68 : decode b_MO_again 68 = .ok (.aload_n 0, 1) := by decide +kernel
theorem d_MO_again_69 : decode b_MO_again 69 = .ok (.getfield 19, 3) := by decide +kernel
theorem d_MO_again_72 : decode b_MO_again 72 = .ok (.iload_n 1, 1) := by decide +kernel
theorem d_MO_again_73 : decode b_MO_again 73 = .ok (.iaload, 1) := by decide +kernel
theorem d_MO_again_74 : decode b_MO_again 74 = .ok (.iastore, 1) := by decide +kernel
theorem d_MO_again_75 : decode b_MO_again 75 = .ok (.aload_n 0, 1) := by decide +kernel
theorem d_MO_again_76 : decode b_MO_again 76 = .ok (.getfield 28, 3) := by decide +kernel
theorem d_MO_again_79 : decode b_MO_again 79 = .ok (.iload_n 1, 1) := by decide +kernel
theorem d_MO_again_80 : decode b_MO_again 80 = .ok (.iconst 0, 1) := by decide +kernel
theorem d_MO_again_81 : decode b_MO_again 81 = .ok (.iastore, 1) := by decide +kernel
theorem d_MO_again_82 : decode b_MO_again 82 = .ok (.aload_n 0, 1) := by decide +kernel
theorem d_MO_again_83 : decode b_MO_again 83 = .ok (.getfield 31, 3) := by decide +kernel
theorem d_MO_again_86 : decode b_MO_again 86 = .ok (.iload_n 1, 1) := by decide +kernel
theorem d_MO_again_87 : decode b_MO_again 87 = .ok (.iconst (-1), 1) := by decide +kernel
theorem d_MO_again_88 : decode b_MO_again 88 = .ok (.iastore, 1) := by decide +kernel
theorem d_MO_again_89 : decode b_MO_again 89 = .ok (.aload_n 0, 1) := by decide +kernel
theorem d_MO_again_90 : decode b_MO_again 90 = .ok (.getfield 35, 3) := by decide +kernel
theorem d_MO_again_93 : decode b_MO_again 93 = .ok (.aload_n 0, 1) := by decide +kernel
theorem d_MO_again_94 : decode b_MO_again 94 = .ok (.getfield 22, 3) := by decide +kernel
theorem d_MO_again_97 : decode b_MO_again 97 = .ok (.iload_n 1, 1) := by decide +kernel
theorem d_MO_again_98 : decode b_MO_again 98 = .ok (.iaload, 1) := by decide +kernel
theorem d_MO_again_99 : decode b_MO_again 99 = .ok (.aload_n 0, 1) := by decide +kernel
theorem d_MO_again_100 : decode b_MO_again 100 = .ok (.getfield 25, 3) := by decide +kernel
theorem d_MO_again_103 : decode b_MO_again 103 = .ok (.iload_n 1, 1) := by decide +kernel
theorem d_MO_again_104 : decode b_MO_again 104 = .ok (.iaload, 1) := by decide +kernel
theorem d_MO_again_105 : decode b_MO_again 105 = .ok (.iconst 1, 1) := by decide +kernel
theorem d_MO_again_106 : decode b_MO_again 106 = .ok (.invokestatic 82, 3) := by decide +kernel
theorem d_MO_again_109 : decode b_MO_again 109 = .ok (.aload_n 0, 1) := by decide +kernel
theorem d_MO_again_110 : decode b_MO_again 110 = .ok (.dup, 1) := by decide +kernel
theorem d_MO_again_111 : decode b_MO_again 111 = .ok (.getfield 79, 3) := by decide +kernel
theorem d_MO_again_114 : decode b_MO_again 114 = .ok (.iconst 1, 1) := by decide +kernel
theorem d_MO_again_115 : decode b_MO_again 115 = .ok (.iadd, 1) := by decide +kernel
theorem d_MO_again_116 : decode b_MO_again 116 = .ok (.putfield 79, 3) := by decide +kernel
theorem d_MO_again_119 : decode b_MO_again 119 = .ok (.iinc 1 1, 3) := by decide +kernel
theorem d_MO_again_122 : decode b_MO_again 122 = .ok (.goto (-79), 3) := by decide +kernel
theorem d_MO_again_125 : decode b_MO_again 125 = .ok (.aload_n 0, 1) := by decide +kernel
theorem d_MO_again_126 : decode b_MO_again 126 = .ok (.iconst 0, 1) := by decide +kernel
theorem d_MO_again_127 : decode b_MO_again 127 = .ok (.putfield 89, 3) := by decide +kernel
theorem d_MO_again_130 : decode b_MO_again 130 = .ok (.aload_n 0, 1) := by decide +kernel
theorem d_MO_again_131 : decode b_MO_again 131 = .ok (.iconst 0, 1) := by decide +kernel
theorem d_MO_again_132 : decode b_MO_again 132 = .ok (.putfield 92, 3) := by decide +kernel
theorem d_MO_again_135 : decode b_MO_again 135 = .ok (.return_, 1) := by decide +kernel
theorem d_MO_factAt_0 : decode b_MO_factAt 0 = .ok (.iconst 0, 1) := by decide +kernel
theorem d_MO_factAt_1 : decode b_MO_factAt 1 = .ok (.istore_n 3, 1) := by decide +kernel
theorem d_MO_factAt_2 : decode b_MO_factAt 2 = .ok (.iload_n 3, 1) := by decide +kernel
theorem d_MO_factAt_3 : decode b_MO_factAt 3 = .ok (.aload_n 0, 1) := by decide +kernel
theorem d_MO_factAt_4 : decode b_MO_factAt 4 = .ok (.getfield 86, 3) := by decide +kernel
theorem d_MO_factAt_7 : decode b_MO_factAt 7 = .ok (.if_icmp .ge 29, 3) := by decide +kernel
theorem d_MO_factAt_10 : decode b_MO_factAt 10 = .ok (.aload_n 0, 1) := by decide +kernel
theorem d_MO_factAt_11 : decode b_MO_factAt 11 = .ok (.getfield 16, 3) := by decide +kernel
theorem d_MO_factAt_14 : decode b_MO_factAt 14 = .ok (.iload_n 3, 1) := by decide +kernel
theorem d_MO_factAt_15 : decode b_MO_factAt 15 = .ok (.iaload, 1) := by decide +kernel
theorem d_MO_factAt_16 : decode b_MO_factAt 16 = .ok (.iload_n 1, 1) := by decide +kernel
theorem d_MO_factAt_17 : decode b_MO_factAt 17 = .ok (.if_icmp .ne 13, 3) := by decide +kernel
theorem d_MO_factAt_20 : decode b_MO_factAt 20 = .ok (.aload_n 0, 1) := by decide +kernel
theorem d_MO_factAt_21 : decode b_MO_factAt 21 = .ok (.getfield 19, 3) := by decide +kernel
theorem d_MO_factAt_24 : decode b_MO_factAt 24 = .ok (.iload_n 3, 1) := by decide +kernel
theorem d_MO_factAt_25 : decode b_MO_factAt 25 = .ok (.iaload, 1) := by decide +kernel
theorem d_MO_factAt_26 : decode b_MO_factAt 26 = .ok (.iload_n 2, 1) := by decide +kernel
theorem d_MO_factAt_27 : decode b_MO_factAt 27 = .ok (.if_icmp .eq 9, 3) := by decide +kernel
theorem d_MO_factAt_30 : decode b_MO_factAt 30 = .ok (.iinc 3 1, 3) := by decide +kernel
theorem d_MO_factAt_33 : decode b_MO_factAt 33 = .ok (.goto (-31), 3) := by decide +kernel
theorem d_MO_factAt_36 : decode b_MO_factAt 36 = .ok (.iload_n 3, 1) := by decide +kernel
theorem d_MO_factAt_37 : decode b_MO_factAt 37 = .ok (.ireturn, 1) := by decide +kernel
theorem d_MO_there_0 : decode b_MO_there 0 = .ok (.aload_n 0, 1) := by decide +kernel
theorem d_MO_there_1 : decode b_MO_there 1 = .ok (.getfield 35, 3) := by decide +kernel
theorem d_MO_there_4 : decode b_MO_there 4 = .ok (.sipush 4096, 3) := by decide +kernel
theorem d_MO_there_7 : decode b_MO_there 7 = .ok (.iload_n 1, 1) := by decide +kernel
theorem d_MO_there_8 : decode b_MO_there 8 = .ok (.imul, 1) := by decide +kernel
theorem d_MO_there_9 : decode b_MO_there 9 = .ok (.iload_n 2, 1) := by decide +kernel
theorem d_MO_there_10 : decode b_MO_there 10 = .ok (.bipush 64, 2) := by decide +kernel
theorem d_MO_there_12 : decode b_MO_there 12 = .ok (.idiv, 1) := by decide +kernel
theorem d_MO_there_13 : decode b_MO_there 13 = .ok (.iadd, 1) := by decide +kernel
theorem d_MO_there_14 : decode b_MO_there 14 = .ok (.laload, 1) := by decide +kernel
theorem d_MO_there_15 : decode b_MO_there 15 = .ok (.iload_n 2, 1) := by decide +kernel
theorem d_MO_there_16 : decode b_MO_there 16 = .ok (.bipush 64, 2) := by decide +kernel
theorem d_MO_there_18 : decode b_MO_there 18 = .ok (.irem, 1) := by decide +kernel
theorem d_MO_there_19 : decode b_MO_there 19 = .ok (.lshr, 1) := by decide +kernel
theorem d_MO_there_20 : decode b_MO_there 20 = .ok (.lconst 1, 1) := by decide +kernel
theorem d_MO_there_21 : decode b_MO_there 21 = .ok (.land, 1) := by decide +kernel
theorem d_MO_there_22 : decode b_MO_there 22 = .ok (.lconst 1, 1) := by decide +kernel
theorem d_MO_there_23 : decode b_MO_there 23 = .ok (.lcmp, 1) := by decide +kernel
theorem d_MO_there_24 : decode b_MO_there 24 = .ok (.ifCond .ne 7, 3) := by decide +kernel
theorem d_MO_there_27 : decode b_MO_there 27 = .ok (.iconst 1, 1) := by decide +kernel
theorem d_MO_there_28 : decode b_MO_there 28 = .ok (.goto 4, 3) := by decide +kernel
theorem d_MO_there_31 : decode b_MO_there 31 = .ok (.iconst 0, 1) := by decide +kernel
theorem d_MO_there_32 : decode b_MO_there 32 = .ok (.ireturn, 1) := by decide +kernel
theorem d_MO_setb_0 : decode b_MO_setb 0 = .ok (.lconst 1, 1) := by decide +kernel
theorem d_MO_setb_1 : decode b_MO_setb 1 = .ok (.iload_n 2, 1) := by decide +kernel
theorem d_MO_setb_2 : decode b_MO_setb 2 = .ok (.bipush 64, 2) := by decide +kernel
theorem d_MO_setb_4 : decode b_MO_setb 4 = .ok (.irem, 1) := by decide +kernel
theorem d_MO_setb_5 : decode b_MO_setb 5 = .ok (.lshl, 1) := by decide +kernel
theorem d_MO_setb_6 : decode b_MO_setb 6 = .ok (.lstore 4, 2) := by decide +kernel
theorem d_MO_setb_8 : decode b_MO_setb 8 = .ok (.sipush 4096, 3) := by decide +kernel
theorem d_MO_setb_11 : decode b_MO_setb 11 = .ok (.iload_n 1, 1) := by decide +kernel
theorem d_MO_setb_12 : decode b_MO_setb 12 = .ok (.imul, 1) := by decide +kernel
theorem d_MO_setb_13 : decode b_MO_setb 13 = .ok (.iload_n 2, 1) := by decide +kernel
theorem d_MO_setb_14 : decode b_MO_setb 14 = .ok (.bipush 64, 2) := by decide +kernel
theorem d_MO_setb_16 : decode b_MO_setb 16 = .ok (.idiv, 1) := by decide +kernel
theorem d_MO_setb_17 : decode b_MO_setb 17 = .ok (.iadd, 1) := by decide +kernel
theorem d_MO_setb_18 : decode b_MO_setb 18 = .ok (.istore 6, 2) := by decide +kernel
theorem d_MO_setb_20 : decode b_MO_setb 20 = .ok (.aload_n 0, 1) := by decide +kernel
theorem d_MO_setb_21 : decode b_MO_setb 21 = .ok (.iload 6, 2) := by decide +kernel
theorem d_MO_setb_23 : decode b_MO_setb 23 = .ok (.iload_n 3, 1) := by decide +kernel
theorem d_MO_setb_24 : decode b_MO_setb 24 = .ok (.ifCond .eq 13, 3) := by decide +kernel
theorem d_MO_setb_27 : decode b_MO_setb 27 = .ok (.aload_n 0, 1) := by decide +kernel
theorem d_MO_setb_28 : decode b_MO_setb 28 = .ok (.iload 6, 2) := by decide +kernel
theorem d_MO_setb_30 : decode b_MO_setb 30 = .ok (.laload, 1) := by decide +kernel
theorem d_MO_setb_31 : decode b_MO_setb 31 = .ok (.lload 4, 2) := by decide +kernel
theorem d_MO_setb_33 : decode b_MO_setb 33 = .ok (.lor, 1) := by decide +kernel
theorem d_MO_setb_34 : decode b_MO_setb 34 = .ok (.goto 14, 3) := by decide +kernel
theorem d_MO_setb_37 : decode b_MO_setb 37 = .ok (.aload_n 0, 1) := by decide +kernel
theorem d_MO_setb_38 : decode b_MO_setb 38 = .ok (.iload 6, 2) := by decide +kernel
theorem d_MO_setb_40 : decode b_MO_setb 40 = .ok (.laload, 1) := by decide +kernel
theorem d_MO_setb_41 : decode b_MO_setb 41 = .ok (.lload 4, 2) := by decide +kernel
theorem d_MO_setb_43 : decode b_MO_setb 43 = .ok (.ldc2_w 95, 3) := by decide +kernel
theorem d_MO_setb_46 : decode b_MO_setb 46 = .ok (.lxor, 1) := by decide +kernel
theorem d_MO_setb_47 : decode b_MO_setb 47 = .ok (.land, 1) := by decide +kernel
theorem d_MO_setb_48 : decode b_MO_setb 48 = .ok (.lastore, 1) := by decide +kernel
theorem d_MO_setb_49 : decode b_MO_setb 49 = .ok (.return_, 1) := by decide +kernel
theorem d_MO_relation_0 : decode b_MO_relation 0 = .ok (.aload_n 0, 1) := by decide +kernel
theorem d_MO_relation_1 : decode b_MO_relation 1 = .ok (.iload_n 1, 1) := by decide +kernel
theorem d_MO_relation_2 : decode b_MO_relation 2 = .ok (.iconst 1, 1) := by decide +kernel
theorem d_MO_relation_3 : decode b_MO_relation 3 = .ok (.if_icmp .lt 8, 3) := by decide +kernel
theorem d_MO_relation_6 : decode b_MO_relation 6 = .ok (.iload_n 1, 1) := by decide +kernel
theorem d_MO_relation_7 : decode b_MO_relation 7 = .ok (.iconst 3, 1) := by decide +kernel
theorem d_MO_relation_8 : decode b_MO_relation 8 = .ok (.if_icmp .le 7, 3) := by decide +kernel
theorem d_MO_relation_11 : decode b_MO_relation 11 = .ok (.iconst 1, 1) := by decide +kernel
theorem d_MO_relation_12 : decode b_MO_relation 12 = .ok (.goto 17, 3) := by decide +kernel
theorem d_MO_relation_15 : decode b_MO_relation 15 = .ok (.aload_n 0, 1) := by decide +kernel
theorem d_MO_relation_16 : decode b_MO_relation 16 = .ok (.getfield 76, 3) := by decide +kernel
theorem d_MO_relation_19 : decode b_MO_relation 19 = .ok (.bipush 12, 2) := by decide +kernel
theorem d_MO_relation_21 : decode b_MO_relation 21 = .ok (.if_icmp .ne 7, 3) := by decide +kernel
theorem d_MO_relation_24 : decode b_MO_relation 24 = .ok (.iconst 2, 1) := by decide +kernel
theorem d_MO_relation_25 : decode b_MO_relation 25 = .ok (.goto 4, 3) := by decide +kernel
theorem d_MO_relation_28 : decode b_MO_relation 28 = .ok (.iconst 0, 1) := by decide +kernel
theorem d_MO_relation_29 : decode b_MO_relation 29 = .ok (.putfield 72, 3) := by decide +kernel
theorem d_MO_relation_32 : decode b_MO_relation 32 = .ok (.aload_n 0, 1) := by decide +kernel
theorem d_MO_relation_33 : decode b_MO_relation 33 = .ok (.getfield 72, 3) := by decide +kernel
theorem d_MO_relation_36 : decode b_MO_relation 36 = .ok (.ifCond .le 5, 3) := by decide +kernel
theorem d_MO_relation_39 : decode b_MO_relation 39 = .ok (.iconst 0, 1) := by decide +kernel
theorem d_MO_relation_40 : decode b_MO_relation 40 = .ok (.ireturn, 1) := by decide +kernel
theorem d_MO_relation_41 : decode b_MO_relation 41 = .ok (.aload_n 0, 1) := by decide +kernel
theorem d_MO_relation_42 : decode b_MO_relation 42 = .ok (.getfield 7, 3) := by decide +kernel
theorem d_MO_relation_45 : decode b_MO_relation 45 = .ok (.aload_n 0, 1) := by decide +kernel
theorem d_MO_relation_46 : decode b_MO_relation 46 = .ok (.getfield 76, 3) := by decide +kernel
theorem d_MO_relation_49 : decode b_MO_relation 49 = .ok (.iload_n 1, 1) := by decide +kernel
theorem d_MO_relation_50 : decode b_MO_relation 50 = .ok (.iastore, 1) := by decide +kernel
theorem d_MO_relation_51 : decode b_MO_relation 51 = .ok (.aload_n 0, 1) := by decide +kernel
theorem d_MO_relation_52 : decode b_MO_relation 52 = .ok (.dup, 1) := by decide +kernel
theorem d_MO_relation_53 : decode b_MO_relation 53 = .ok (.getfield 76, 3) := by decide +kernel
theorem d_MO_relation_56 : decode b_MO_relation 56 = .ok (.iconst 1, 1) := by decide +kernel
theorem d_MO_relation_57 : decode b_MO_relation 57 = .ok (.iadd, 1) := by decide +kernel
theorem d_MO_relation_58 : decode b_MO_relation 58 = .ok (.putfield 76, 3) := by decide +kernel
theorem d_MO_relation_61 : decode b_MO_relation 61 = .ok (.aload_n 0, 1) := by decide +kernel
theorem d_MO_relation_62 : decode b_MO_relation 62 = .ok (.invokevirtual 97, 3) := by decide +kernel
theorem d_MO_relation_65 : decode b_MO_relation 65 = .ok (.aload_n 0, 1) := by decide +kernel
theorem d_MO_relation_66 : decode b_MO_relation 66 = .ok (.getfield 76, 3) := by decide +kernel
theorem d_MO_relation_69 : decode b_MO_relation 69 = .ok (.iconst 1, 1) := by decide +kernel
theorem d_MO_relation_70 : decode b_MO_relation 70 = .ok (.isub, 1) := by decide +kernel
theorem d_MO_relation_71 : decode b_MO_relation 71 = .ok (.ireturn, 1) := by decide +kernel
theorem d_MO_fact_0 : decode b_MO_fact 0 = .ok (.aload_n 0, 1) := by decide +kernel
theorem d_MO_fact_1 : decode b_MO_fact 1 = .ok (.aload_n 0, 1) := by decide +kernel
theorem d_MO_fact_2 : decode b_MO_fact 2 = .ok (.iload_n 1, 1) := by decide +kernel
theorem d_MO_fact_3 : decode b_MO_fact 3 = .ok (.iload_n 2, 1) := by decide +kernel
theorem d_MO_fact_4 : decode b_MO_fact 4 = .ok (.iload_n 3, 1) := by decide +kernel
theorem d_MO_fact_5 : decode b_MO_fact 5 = .ok (.iload 4, 2) := by decide +kernel
theorem d_MO_fact_7 : decode b_MO_fact 7 = .ok (.bipush 64, 2) := by decide +kernel
theorem d_MO_fact_9 : decode b_MO_fact 9 = .ok (.invokevirtual 100, 3) := by decide +kernel
theorem d_MO_fact_12 : decode b_MO_fact 12 = .ok (.ifCond .eq 7, 3) := by decide +kernel
theorem d_MO_fact_15 : decode b_MO_fact 15 = .ok (.iconst 0, 1) := by decide +kernel
theorem d_MO_fact_16 : decode b_MO_fact 16 = .ok (.goto 4, 3) := by decide +kernel
theorem d_MO_fact_19 : decode b_MO_fact 19 = .ok (.iconst 1, 1) := by decide +kernel
theorem d_MO_fact_20 : decode b_MO_fact 20 = .ok (.putfield 72, 3) := by decide +kernel
theorem d_MO_fact_23 : decode b_MO_fact 23 = .ok (.aload_n 0, 1) := by decide +kernel
theorem d_MO_fact_24 : decode b_MO_fact 24 = .ok (.getfield 72, 3) := by decide +kernel
theorem d_MO_fact_27 : decode b_MO_fact 27 = .ok (.ifCond .gt 22, 3) := by decide +kernel
theorem d_MO_fact_30 : decode b_MO_fact 30 = .ok (.aload_n 0, 1) := by decide +kernel
theorem d_MO_fact_31 : decode b_MO_fact 31 = .ok (.iload_n 1, 1) := by decide +kernel
theorem d_MO_fact_32 : decode b_MO_fact 32 = .ok (.iload_n 2, 1) := by decide +kernel
theorem d_MO_fact_33 : decode b_MO_fact 33 = .ok (.iload_n 3, 1) := by decide +kernel
theorem d_MO_fact_34 : decode b_MO_fact 34 = .ok (.iload 4, 2) := by decide +kernel
theorem d_MO_fact_36 : decode b_MO_fact 36 = .ok (.invokestatic 104, 3) := by decide +kernel
theorem d_MO_fact_39 : decode b_MO_fact 39 = .ok (.invokevirtual 108, 3) := by decide +kernel
theorem d_MO_fact_42 : decode b_MO_fact 42 = .ok (.aload_n 0, 1) := by decide +kernel
theorem d_MO_fact_43 : decode b_MO_fact 43 = .ok (.getfield 86, 3) := by decide +kernel
theorem d_MO_fact_46 : decode b_MO_fact 46 = .ok (.if_icmp .ge 5, 3) := by decide +kernel
theorem d_MO_fact_49 : decode b_MO_fact 49 = .ok (.iconst 0, 1) := by decide +kernel
theorem d_MO_fact_50 : decode b_MO_fact 50 = .ok (.ireturn, 1) := by decide +kernel
theorem d_MO_fact_51 : decode b_MO_fact 51 = .ok (.aload_n 0, 1) := by decide +kernel
theorem d_MO_fact_52 : decode b_MO_fact 52 = .ok (.aload_n 0, 1) := by decide +kernel
theorem d_MO_fact_53 : decode b_MO_fact 53 = .ok (.getfield 86, 3) := by decide +kernel
theorem d_MO_fact_56 : decode b_MO_fact 56 = .ok (.sipush 200, 3) := by decide +kernel
theorem d_MO_fact_59 : decode b_MO_fact 59 = .ok (.if_icmp .ne 7, 3) := by decide +kernel
theorem d_MO_fact_62 : decode b_MO_fact 62 = .ok (.iconst 2, 1) := by decide +kernel
theorem d_MO_fact_63 : decode b_MO_fact 63 = .ok (.goto 4, 3) := by decide +kernel
theorem d_MO_fact_66 : decode b_MO_fact 66 = .ok (.iconst 0, 1) := by decide +kernel
theorem d_MO_fact_67 : decode b_MO_fact 67 = .ok (.putfield 72, 3) := by decide +kernel
theorem d_MO_fact_70 : decode b_MO_fact 70 = .ok (.aload_n 0, 1) := by decide +kernel
theorem d_MO_fact_71 : decode b_MO_fact 71 = .ok (.getfield 72, 3) := by decide +kernel
theorem d_MO_fact_74 : decode b_MO_fact 74 = .ok (.ifCond .le 5, 3) := by decide +kernel
theorem d_MO_fact_77 : decode b_MO_fact 77 = .ok (.iconst 0, 1) := by decide +kernel
theorem d_MO_fact_78 : decode b_MO_fact 78 = .ok (.ireturn, 1) := by decide +kernel
theorem d_MO_fact_79 : decode b_MO_fact 79 = .ok (.aload_n 0, 1) := by decide +kernel
theorem d_MO_fact_80 : decode b_MO_fact 80 = .ok (.getfield 16, 3) := by decide +kernel
theorem d_MO_fact_83 : decode b_MO_fact 83 = .ok (.aload_n 0, 1) := by decide +kernel
theorem d_MO_fact_84 : decode b_MO_fact 84 = .ok (.getfield 86, 3) := by decide +kernel
theorem d_MO_fact_87 : decode b_MO_fact 87 = .ok (.iload_n 1, 1) := by decide +kernel
theorem d_MO_fact_88 : decode b_MO_fact 88 = .ok (.iastore, 1) := by decide +kernel
theorem d_MO_fact_89 : decode b_MO_fact 89 = .ok (.aload_n 0, 1) := by decide +kernel
theorem d_MO_fact_90 : decode b_MO_fact 90 = .ok (.getfield 19, 3) := by decide +kernel
theorem d_MO_fact_93 : decode b_MO_fact 93 = .ok (.aload_n 0, 1) := by decide +kernel
theorem d_MO_fact_94 : decode b_MO_fact 94 = .ok (.getfield 86, 3) := by decide +kernel
theorem d_MO_fact_97 : decode b_MO_fact 97 = .ok (.iload_n 2, 1) := by decide +kernel
theorem d_MO_fact_98 : decode b_MO_fact 98 = .ok (.iload_n 3, 1) := by decide +kernel
theorem d_MO_fact_99 : decode b_MO_fact 99 = .ok (.iload 4, 2) := by decide +kernel
theorem d_MO_fact_101 : decode b_MO_fact 101 = .ok (.invokestatic 104, 3) := by decide +kernel
theorem d_MO_fact_104 : decode b_MO_fact 104 = .ok (.iastore, 1) := by decide +kernel
theorem d_MO_fact_105 : decode b_MO_fact 105 = .ok (.aload_n 0, 1) := by decide +kernel
theorem d_MO_fact_106 : decode b_MO_fact 106 = .ok (.dup, 1) := by decide +kernel
theorem d_MO_fact_107 : decode b_MO_fact 107 = .ok (.getfield 86, 3) := by decide +kernel
theorem d_MO_fact_110 : decode b_MO_fact 110 = .ok (.iconst 1, 1) := by decide +kernel
theorem d_MO_fact_111 : decode b_MO_fact 111 = .ok (.iadd, 1) := by decide +kernel
theorem d_MO_fact_112 : decode b_MO_fact 112 = .ok (.putfield 86, 3) := by decide +kernel
theorem d_MO_fact_115 : decode b_MO_fact 115 = .ok (.aload_n 0, 1) := by decide +kernel
theorem d_MO_fact_116 : decode b_MO_fact 116 = .ok (.invokevirtual 97, 3) := by decide +kernel
theorem d_MO_fact_119 : decode b_MO_fact 119 = .ok (.iconst 1, 1) := by decide +kernel
theorem d_MO_fact_120 : decode b_MO_fact 120 = .ok (.ireturn, 1) := by decide +kernel
theorem d_MO_drop_0 : decode b_MO_drop 0 = .ok (.aload_n 0, 1) := by decide +kernel
theorem d_MO_drop_1 : decode b_MO_drop 1 = .ok (.aload_n 0, 1) := by decide +kernel
theorem d_MO_drop_2 : decode b_MO_drop 2 = .ok (.iload_n 1, 1) := by decide +kernel
theorem d_MO_drop_3 : decode b_MO_drop 3 = .ok (.iload_n 2, 1) := by decide +kernel
theorem d_MO_drop_4 : decode b_MO_drop 4 = .ok (.iload_n 3, 1) := by decide +kernel
theorem d_MO_drop_5 : decode b_MO_drop 5 = .ok (.iload 4, 2) := by decide +kernel
theorem d_MO_drop_7 : decode b_MO_drop 7 = .ok (.bipush 64, 2) := by decide +kernel
theorem d_MO_drop_9 : decode b_MO_drop 9 = .ok (.invokevirtual 100, 3) := by decide +kernel
theorem d_MO_drop_12 : decode b_MO_drop 12 = .ok (.ifCond .eq 7, 3) := by decide +kernel
theorem d_MO_drop_15 : decode b_MO_drop 15 = .ok (.iconst 0, 1) := by decide +kernel
theorem d_MO_drop_16 : decode b_MO_drop 16 = .ok (.goto 4, 3) := by decide +kernel
theorem d_MO_drop_19 : decode b_MO_drop 19 = .ok (.iconst 1, 1) := by decide +kernel
theorem d_MO_drop_20 : decode b_MO_drop 20 = .ok (.putfield 72, 3) := by decide +kernel
theorem d_MO_drop_23 : decode b_MO_drop 23 = .ok (.aload_n 0, 1) := by decide +kernel
theorem d_MO_drop_24 : decode b_MO_drop 24 = .ok (.getfield 72, 3) := by decide +kernel
theorem d_MO_drop_27 : decode b_MO_drop 27 = .ok (.ifCond .le 10, 3) := by decide +kernel
theorem d_MO_drop_30 : decode b_MO_drop 30 = .ok (.aload_n 0, 1) := by decide +kernel
theorem d_MO_drop_31 : decode b_MO_drop 31 = .ok (.getfield 86, 3) := by decide +kernel
theorem d_MO_drop_34 : decode b_MO_drop 34 = .ok (.goto 15, 3) := by decide +kernel
theorem d_MO_drop_37 : decode b_MO_drop 37 = .ok (.aload_n 0, 1) := by decide +kernel
theorem d_MO_drop_38 : decode b_MO_drop 38 = .ok (.iload_n 1, 1) := by decide +kernel
theorem d_MO_drop_39 : decode b_MO_drop 39 = .ok (.iload_n 2, 1) := by decide +kernel
theorem d_MO_drop_40 : decode b_MO_drop 40 = .ok (.iload_n 3, 1) := by decide +kernel
theorem d_MO_drop_41 : decode b_MO_drop 41 = .ok (.iload 4, 2) := by decide +kernel
theorem d_MO_drop_43 : decode b_MO_drop 43 = .ok (.invokestatic 104, 3) := by decide +kernel
theorem d_MO_drop_46 : decode b_MO_drop 46 = .ok (.invokevirtual 108, 3) := by decide +kernel
theorem d_MO_drop_49 : decode b_MO_drop 49 = .ok (.istore 5, 2) := by decide +kernel
theorem d_MO_drop_51 : decode b_MO_drop 51 = .ok (.iload 5, 2) := by decide +kernel
theorem d_MO_drop_53 : decode b_MO_drop 53 = .ok (.aload_n 0, 1) := by decide +kernel
theorem d_MO_drop_54 : decode b_MO_drop 54 = .ok (.getfield 86, 3) := by decide +kernel
theorem d_MO_drop_57 : decode b_MO_drop 57 = .ok (.if_icmp .ne 5, 3) := by decide +kernel
theorem d_MO_drop_60 : decode b_MO_drop 60 = .ok (.iconst 0, 1) := by decide +kernel
theorem d_MO_drop_61 : decode b_MO_drop 61 = .ok (.ireturn, 1) := by decide +kernel
theorem d_MO_drop_62 : decode b_MO_drop 62 = .ok (.aload_n 0, 1) := by decide +kernel
theorem d_MO_drop_63 : decode b_MO_drop 63 = .ok (.dup, 1) := by decide +kernel
theorem d_MO_drop_64 : decode b_MO_drop 64 = .ok (.getfield 86, 3) := by decide +kernel
theorem d_MO_drop_67 : decode b_MO_drop 67 = .ok (.iconst 1, 1) := by decide +kernel
theorem d_MO_drop_68 : decode b_MO_drop 68 = .ok (.isub, 1) := by decide +kernel
theorem d_MO_drop_69 : decode b_MO_drop 69 = .ok (.putfield 86, 3) := by decide +kernel
theorem d_MO_drop_72 : decode b_MO_drop 72 = .ok (.iload 5, 2) := by decide +kernel
theorem d_MO_drop_74 : decode b_MO_drop 74 = .ok (.istore 6, 2) := by decide +kernel
theorem d_MO_drop_76 : decode b_MO_drop 76 = .ok (.iload 6, 2) := by decide +kernel
theorem d_MO_drop_78 : decode b_MO_drop 78 = .ok (.aload_n 0, 1) := by decide +kernel
theorem d_MO_drop_79 : decode b_MO_drop 79 = .ok (.getfield 86, 3) := by decide +kernel
theorem d_MO_drop_82 : decode b_MO_drop 82 = .ok (.if_icmp .ge 41, 3) := by decide +kernel
theorem d_MO_drop_85 : decode b_MO_drop 85 = .ok (.aload_n 0, 1) := by decide +kernel
theorem d_MO_drop_86 : decode b_MO_drop 86 = .ok (.getfield 16, 3) := by decide +kernel
theorem d_MO_drop_89 : decode b_MO_drop 89 = .ok (.iload 6, 2) := by decide +kernel
theorem d_MO_drop_91 : decode b_MO_drop 91 = .ok (.aload_n 0, 1) := by decide +kernel
theorem d_MO_drop_92 : decode b_MO_drop 92 = .ok (.getfield 16, 3) := by decide +kernel
theorem d_MO_drop_95 : decode b_MO_drop 95 = .ok (.iload 6, 2) := by decide +kernel
theorem d_MO_drop_97 : decode b_MO_drop 97 = .ok (.iconst 1, 1) := by decide +kernel
theorem d_MO_drop_98 : decode b_MO_drop 98 = .ok (.iadd, 1) := by decide +kernel
theorem d_MO_drop_99 : decode b_MO_drop 99 = .ok (.iaload, 1) := by decide +kernel
theorem d_MO_drop_100 : decode b_MO_drop 100 = .ok (.iastore, 1) := by decide +kernel
theorem d_MO_drop_101 : decode b_MO_drop 101 = .ok (.aload_n 0, 1) := by decide +kernel
theorem d_MO_drop_102 : decode b_MO_drop 102 = .ok (.getfield 19, 3) := by decide +kernel
theorem d_MO_drop_105 : decode b_MO_drop 105 = .ok (.iload 6, 2) := by decide +kernel
theorem d_MO_drop_107 : decode b_MO_drop 107 = .ok (.aload_n 0, 1) := by decide +kernel
theorem d_MO_drop_108 : decode b_MO_drop 108 = .ok (.getfield 19, 3) := by decide +kernel
theorem d_MO_drop_111 : decode b_MO_drop 111 = .ok (.iload 6, 2) := by decide +kernel
theorem d_MO_drop_113 : decode b_MO_drop 113 = .ok (.iconst 1, 1) := by decide +kernel
theorem d_MO_drop_114 : decode b_MO_drop 114 = .ok (.iadd, 1) := by decide +kernel
theorem d_MO_drop_115 : decode b_MO_drop 115 = .ok (.iaload, 1) := by decide +kernel
theorem d_MO_drop_116 : decode b_MO_drop 116 = .ok (.iastore, 1) := by decide +kernel
theorem d_MO_drop_117 : decode b_MO_drop 117 = .ok (.iinc 6 1, 3) := by decide +kernel
theorem d_MO_drop_120 : decode b_MO_drop 120 = .ok (.goto (-44), 3) := by decide +kernel
theorem d_MO_drop_123 : decode b_MO_drop 123 = .ok (.aload_n 0, 1) := by decide +kernel
theorem d_MO_drop_124 : decode b_MO_drop 124 = .ok (.invokevirtual 97, 3) := by decide +kernel
theorem d_MO_drop_127 : decode b_MO_drop 127 = .ok (.iconst 1, 1) := by decide +kernel
theorem d_MO_drop_128 : decode b_MO_drop 128 = .ok (.ireturn, 1) := by decide +kernel
theorem d_MO_sett_0 : decode b_MO_sett 0 = .ok (.aload_n 0, 1) := by decide +kernel
theorem d_MO_sett_1 : decode b_MO_sett 1 = .ok (.getfield 57, 3) := by decide +kernel
theorem d_MO_sett_4 : decode b_MO_sett 4 = .ok (.iconst 3, 1) := by decide +kernel
theorem d_MO_sett_5 : decode b_MO_sett 5 = .ok (.iload_n 1, 1) := by decide +kernel
theorem d_MO_sett_6 : decode b_MO_sett 6 = .ok (.imul, 1) := by decide +kernel
theorem d_MO_sett_7 : decode b_MO_sett 7 = .ok (.iload_n 2, 1) := by decide +kernel
theorem d_MO_sett_8 : decode b_MO_sett 8 = .ok (.iastore, 1) := by decide +kernel
theorem d_MO_sett_9 : decode b_MO_sett 9 = .ok (.aload_n 0, 1) := by decide +kernel
theorem d_MO_sett_10 : decode b_MO_sett 10 = .ok (.getfield 57, 3) := by decide +kernel
theorem d_MO_sett_13 : decode b_MO_sett 13 = .ok (.iconst 3, 1) := by decide +kernel
theorem d_MO_sett_14 : decode b_MO_sett 14 = .ok (.iload_n 1, 1) := by decide +kernel
theorem d_MO_sett_15 : decode b_MO_sett 15 = .ok (.imul, 1) := by decide +kernel
theorem d_MO_sett_16 : decode b_MO_sett 16 = .ok (.iconst 1, 1) := by decide +kernel
theorem d_MO_sett_17 : decode b_MO_sett 17 = .ok (.iadd, 1) := by decide +kernel
theorem d_MO_sett_18 : decode b_MO_sett 18 = .ok (.iload_n 3, 1) := by decide +kernel
theorem d_MO_sett_19 : decode b_MO_sett 19 = .ok (.iastore, 1) := by decide +kernel
theorem d_MO_sett_20 : decode b_MO_sett 20 = .ok (.aload_n 0, 1) := by decide +kernel
theorem d_MO_sett_21 : decode b_MO_sett 21 = .ok (.getfield 57, 3) := by decide +kernel
theorem d_MO_sett_24 : decode b_MO_sett 24 = .ok (.iconst 3, 1) := by decide +kernel
theorem d_MO_sett_25 : decode b_MO_sett 25 = .ok (.iload_n 1, 1) := by decide +kernel
theorem d_MO_sett_26 : decode b_MO_sett 26 = .ok (.imul, 1) := by decide +kernel
theorem d_MO_sett_27 : decode b_MO_sett 27 = .ok (.iconst 2, 1) := by decide +kernel
theorem d_MO_sett_28 : decode b_MO_sett 28 = .ok (.iadd, 1) := by decide +kernel
theorem d_MO_sett_29 : decode b_MO_sett 29 = .ok (.iload 4, 2) := by decide +kernel
theorem d_MO_sett_31 : decode b_MO_sett 31 = .ok (.iastore, 1) := by decide +kernel
theorem d_MO_sett_32 : decode b_MO_sett 32 = .ok (.return_, 1) := by decide +kernel
theorem d_MO_head_0 : decode b_MO_head 0 = .ok (.aload_n 0, 1) := by decide +kernel
theorem d_MO_head_1 : decode b_MO_head 1 = .ok (.aload_n 0, 1) := by decide +kernel
theorem d_MO_head_2 : decode b_MO_head 2 = .ok (.iload_n 1, 1) := by decide +kernel
theorem d_MO_head_3 : decode b_MO_head 3 = .ok (.iload_n 2, 1) := by decide +kernel
theorem d_MO_head_4 : decode b_MO_head 4 = .ok (.iload_n 3, 1) := by decide +kernel
theorem d_MO_head_5 : decode b_MO_head 5 = .ok (.iload 4, 2) := by decide +kernel
theorem d_MO_head_7 : decode b_MO_head 7 = .ok (.bipush 72, 2) := by decide +kernel
theorem d_MO_head_9 : decode b_MO_head 9 = .ok (.invokevirtual 100, 3) := by decide +kernel
theorem d_MO_head_12 : decode b_MO_head 12 = .ok (.ifCond .eq 7, 3) := by decide +kernel
theorem d_MO_head_15 : decode b_MO_head 15 = .ok (.iconst 0, 1) := by decide +kernel
theorem d_MO_head_16 : decode b_MO_head 16 = .ok (.goto 4, 3) := by decide +kernel
theorem d_MO_head_19 : decode b_MO_head 19 = .ok (.iconst 1, 1) := by decide +kernel
theorem d_MO_head_20 : decode b_MO_head 20 = .ok (.putfield 72, 3) := by decide +kernel
theorem d_MO_head_23 : decode b_MO_head 23 = .ok (.aload_n 0, 1) := by decide +kernel
theorem d_MO_head_24 : decode b_MO_head 24 = .ok (.getfield 72, 3) := by decide +kernel
theorem d_MO_head_27 : decode b_MO_head 27 = .ok (.ifCond .ne 49, 3) := by decide +kernel
theorem d_MO_head_30 : decode b_MO_head 30 = .ok (.aload_n 0, 1) := by decide +kernel
theorem d_MO_head_31 : decode b_MO_head 31 = .ok (.iconst 1, 1) := by decide +kernel
theorem d_MO_head_32 : decode b_MO_head 32 = .ok (.putfield 112, 3) := by decide +kernel
theorem d_MO_head_35 : decode b_MO_head 35 = .ok (.aload_n 0, 1) := by decide +kernel
theorem d_MO_head_36 : decode b_MO_head 36 = .ok (.getfield 42, 3) := by decide +kernel
theorem d_MO_head_39 : decode b_MO_head 39 = .ok (.bipush 24, 2) := by decide +kernel
theorem d_MO_head_41 : decode b_MO_head 41 = .ok (.iload_n 1, 1) := by decide +kernel
theorem d_MO_head_42 : decode b_MO_head 42 = .ok (.iastore, 1) := by decide +kernel
theorem d_MO_head_43 : decode b_MO_head 43 = .ok (.aload_n 0, 1) := by decide +kernel
theorem d_MO_head_44 : decode b_MO_head 44 = .ok (.getfield 45, 3) := by decide +kernel
theorem d_MO_head_47 : decode b_MO_head 47 = .ok (.bipush 72, 2) := by decide +kernel
theorem d_MO_head_49 : decode b_MO_head 49 = .ok (.iload_n 2, 1) := by decide +kernel
theorem d_MO_head_50 : decode b_MO_head 50 = .ok (.iastore, 1) := by decide +kernel
theorem d_MO_head_51 : decode b_MO_head 51 = .ok (.aload_n 0, 1) := by decide +kernel
theorem d_MO_head_52 : decode b_MO_head 52 = .ok (.getfield 45, 3) := by decide +kernel
theorem d_MO_head_55 : decode b_MO_head 55 = .ok (.bipush 73, 2) := by decide +kernel
theorem d_MO_head_57 : decode b_MO_head 57 = .ok (.iload_n 3, 1) := by decide +kernel
theorem d_MO_head_58 : decode b_MO_head 58 = .ok (.iastore, 1) := by decide +kernel
theorem d_MO_head_59 : decode b_MO_head 59 = .ok (.aload_n 0, 1) := by decide +kernel
theorem d_MO_head_60 : decode b_MO_head 60 = .ok (.getfield 45, 3) := by decide +kernel
theorem d_MO_head_63 : decode b_MO_head 63 = .ok (.bipush 74, 2) := by decide +kernel
theorem d_MO_head_65 : decode b_MO_head 65 = .ok (.iload 4, 2) := by decide +kernel
theorem d_MO_head_67 : decode b_MO_head 67 = .ok (.iastore, 1) := by decide +kernel
theorem d_MO_head_68 : decode b_MO_head 68 = .ok (.aload_n 0, 1) := by decide +kernel
theorem d_MO_head_69 : decode b_MO_head 69 = .ok (.getfield 48, 3) := by decide +kernel
theorem d_MO_head_72 : decode b_MO_head 72 = .ok (.bipush 24, 2) := by decide +kernel
theorem d_MO_head_74 : decode b_MO_head 74 = .ok (.iconst 0, 1) := by decide +kernel
theorem d_MO_head_75 : decode b_MO_head 75 = .ok (.iastore, 1) := by decide +kernel
theorem d_MO_head_76 : decode b_MO_head 76 = .ok (.return_, 1) := by decide +kernel
theorem d_MO_holds_0 : decode b_MO_holds 0 = .ok (.iconst 0, 1) := by decide +kernel
theorem d_MO_holds_1 : decode b_MO_holds 1 = .ok (.istore_n 2, 1) := by decide +kernel
theorem d_MO_holds_2 : decode b_MO_holds 2 = .ok (.iconst 0, 1) := by decide +kernel
theorem d_MO_holds_3 : decode b_MO_holds 3 = .ok (.istore_n 3, 1) := by decide +kernel
theorem d_MO_holds_4 : decode b_MO_holds 4 = .ok (.iload_n 3, 1) := by decide +kernel
theorem d_MO_holds_5 : decode b_MO_holds 5 = .ok (.aload_n 0, 1) := by decide +kernel
theorem d_MO_holds_6 : decode b_MO_holds 6 = .ok (.getfield 48, 3) := by decide +kernel
theorem d_MO_holds_9 : decode b_MO_holds 9 = .ok (.iload_n 1, 1) := by decide +kernel
theorem d_MO_holds_10 : decode b_MO_holds 10 = .ok (.iaload, 1) := by decide +kernel
theorem d_MO_holds_11 : decode b_MO_holds 11 = .ok (.if_icmp .ge 31, 3) := by decide +kernel
theorem d_MO_holds_14 : decode b_MO_holds 14 = .ok (.iload_n 2, 1) := by decide +kernel
theorem d_MO_holds_15 : decode b_MO_holds 15 = .ok (.aload_n 0, 1) := by decide +kernel
theorem d_MO_holds_16 : decode b_MO_holds 16 = .ok (.getfield 51, 3) := by decide +kernel
theorem d_MO_holds_19 : decode b_MO_holds 19 = .ok (.bipush 6, 2) := by decide +kernel
theorem d_MO_holds_21 : decode b_MO_holds 21 = .ok (.iload_n 1, 1) := by decide +kernel
theorem d_MO_holds_22 : decode b_MO_holds 22 = .ok (.imul, 1) := by decide +kernel
theorem d_MO_holds_23 : decode b_MO_holds 23 = .ok (.iload_n 3, 1) := by decide +kernel
theorem d_MO_holds_24 : decode b_MO_holds 24 = .ok (.iadd, 1) := by decide +kernel
theorem d_MO_holds_25 : decode b_MO_holds 25 = .ok (.iaload, 1) := by decide +kernel
theorem d_MO_holds_26 : decode b_MO_holds 26 = .ok (.ifCond .ne 7, 3) := by decide +kernel
theorem d_MO_holds_29 : decode b_MO_holds 29 = .ok (.iconst 1, 1) := by decide +kernel
theorem d_MO_holds_30 : decode b_MO_holds 30 = .ok (.goto 4, 3) := by decide +kernel
theorem d_MO_holds_33 : decode b_MO_holds 33 = .ok (.iconst 0, 1) := by decide +kernel
theorem d_MO_holds_34 : decode b_MO_holds 34 = .ok (.iadd, 1) := by decide +kernel
theorem d_MO_holds_35 : decode b_MO_holds 35 = .ok (.istore_n 2, 1) := by decide +kernel
theorem d_MO_holds_36 : decode b_MO_holds 36 = .ok (.iinc 3 1, 3) := by decide +kernel
theorem d_MO_holds_39 : decode b_MO_holds 39 = .ok (.goto (-35), 3) := by decide +kernel
theorem d_MO_holds_42 : decode b_MO_holds 42 = .ok (.iload_n 2, 1) := by decide +kernel
theorem d_MO_holds_43 : decode b_MO_holds 43 = .ok (.ireturn, 1) := by decide +kernel
theorem d_MO_item_0 : decode b_MO_item 0 = .ok (.iload_n 2, 1) := by decide +kernel
theorem d_MO_item_1 : decode b_MO_item 1 = .ok (.ifCond .ne 34, 3) := by decide +kernel
theorem d_MO_item_4 : decode b_MO_item 4 = .ok (.iload 5, 2) := by decide +kernel
theorem d_MO_item_6 : decode b_MO_item 6 = .ok (.ifCond .ne 29, 3) := by decide +kernel
theorem d_MO_item_9 : decode b_MO_item 9 = .ok (.iload_n 3, 1) := by decide +kernel
theorem d_MO_item_10 : decode b_MO_item 10 = .ok (.ifCond .lt 25, 3) := by decide +kernel
theorem d_MO_item_13 : decode b_MO_item 13 = .ok (.iload_n 3, 1) := by decide +kernel
theorem d_MO_item_14 : decode b_MO_item 14 = .ok (.bipush 72, 2) := by decide +kernel
theorem d_MO_item_16 : decode b_MO_item 16 = .ok (.if_icmp .ge 19, 3) := by decide +kernel
theorem d_MO_item_19 : decode b_MO_item 19 = .ok (.iload 4, 2) := by decide +kernel
theorem d_MO_item_21 : decode b_MO_item 21 = .ok (.ifCond .lt 14, 3) := by decide +kernel
theorem d_MO_item_24 : decode b_MO_item 24 = .ok (.iload 4, 2) := by decide +kernel
theorem d_MO_item_26 : decode b_MO_item 26 = .ok (.bipush 72, 2) := by decide +kernel
theorem d_MO_item_28 : decode b_MO_item 28 = .ok (.if_icmp .ge 7, 3) := by decide +kernel
theorem d_MO_item_31 : decode b_MO_item 31 = .ok (.iconst 1, 1) := by decide +kernel
theorem d_MO_item_32 : decode b_MO_item 32 = .ok (.goto 4, 3) := by decide +kernel
theorem d_MO_item_35 : decode b_MO_item 35 = .ok (.iconst 0, 1) := by decide +kernel
theorem d_MO_item_36 : decode b_MO_item 36 = .ok (.istore 6, 2) := by decide +kernel
theorem d_MO_item_38 : decode b_MO_item 38 = .ok (.iload_n 1, 1) := by decide +kernel
theorem d_MO_item_39 : decode b_MO_item 39 = .ok (.ifCond .lt 40, 3) := by decide +kernel
theorem d_MO_item_42 : decode b_MO_item 42 = .ok (.iload_n 1, 1) := by decide +kernel
theorem d_MO_item_43 : decode b_MO_item 43 = .ok (.iconst 3, 1) := by decide +kernel
theorem d_MO_item_44 : decode b_MO_item 44 = .ok (.if_icmp .gt 35, 3) := by decide +kernel
theorem d_MO_item_47 : decode b_MO_item 47 = .ok (.iload_n 1, 1) := by decide +kernel
theorem d_MO_item_48 : decode b_MO_item 48 = .ok (.iconst 2, 1) := by decide +kernel
theorem d_MO_item_49 : decode b_MO_item 49 = .ok (.if_icmp .ge 21, 3) := by decide +kernel
theorem d_MO_item_52 : decode b_MO_item 52 = .ok (.aload_n 0, 1) := by decide +kernel
theorem d_MO_item_53 : decode b_MO_item 53 = .ok (.iload_n 2, 1) := by decide +kernel
theorem d_MO_item_54 : decode b_MO_item 54 = .ok (.iload_n 3, 1) := by decide +kernel
theorem d_MO_item_55 : decode b_MO_item 55 = .ok (.iload 4, 2) := by decide +kernel
theorem d_MO_item_57 : decode b_MO_item 57 = .ok (.iload 5, 2) := by decide +kernel
theorem d_MO_item_59 : decode b_MO_item 59 = .ok (.bipush 72, 2) := by decide +kernel
theorem d_MO_item_61 : decode b_MO_item 61 = .ok (.invokevirtual 100, 3) := by decide +kernel
theorem d_MO_item_64 : decode b_MO_item 64 = .ok (.ifCond .eq 15, 3) := by decide +kernel
theorem d_MO_item_67 : decode b_MO_item 67 = .ok (.goto 8, 3) := by decide +kernel
theorem d_MO_item_70 : decode b_MO_item 70 = .ok (.iload 6, 2) := by decide +kernel
theorem d_MO_item_72 : decode b_MO_item 72 = .ok (.ifCond .eq 7, 3) := by decide +kernel
theorem d_MO_item_75 : decode b_MO_item 75 = .ok (.iconst 1, 1) := by decide +kernel
theorem d_MO_item_76 : decode b_MO_item 76 = .ok (.goto 4, 3) := by decide +kernel
theorem d_MO_item_79 : decode b_MO_item 79 = .ok (.iconst 0, 1) := by decide +kernel
theorem d_MO_item_80 : decode b_MO_item 80 = .ok (.istore 7, 2) := by decide +kernel
theorem d_MO_item_82 : decode b_MO_item 82 = .ok (.aload_n 0, 1) := by decide +kernel
theorem d_MO_item_83 : decode b_MO_item 83 = .ok (.iload 7, 2) := by decide +kernel
theorem d_MO_item_85 : decode b_MO_item 85 = .ok (.ifCond .ne 7, 3) := by decide +kernel
theorem d_MO_item_88 : decode b_MO_item 88 = .ok (.iconst 1, 1) := by decide +kernel
theorem d_MO_item_89 : decode b_MO_item 89 = .ok (.goto 41, 3) := by decide +kernel
theorem d_MO_item_92 : decode b_MO_item 92 = .ok (.aload_n 0, 1) := by decide +kernel
theorem d_MO_item_93 : decode b_MO_item 93 = .ok (.getfield 112, 3) := by decide +kernel
theorem d_MO_item_96 : decode b_MO_item 96 = .ok (.ifCond .eq 29, 3) := by decide +kernel
theorem d_MO_item_99 : decode b_MO_item 99 = .ok (.aload_n 0, 1) := by decide +kernel
theorem d_MO_item_100 : decode b_MO_item 100 = .ok (.getfield 48, 3) := by decide +kernel
theorem d_MO_item_103 : decode b_MO_item 103 = .ok (.bipush 24, 2) := by decide +kernel
theorem d_MO_item_105 : decode b_MO_item 105 = .ok (.iaload, 1) := by decide +kernel
theorem d_MO_item_106 : decode b_MO_item 106 = .ok (.bipush 6, 2) := by decide +kernel
theorem d_MO_item_108 : decode b_MO_item 108 = .ok (.if_icmp .eq 17, 3) := by decide +kernel
theorem d_MO_item_111 : decode b_MO_item 111 = .ok (.iload_n 1, 1) := by decide +kernel
theorem d_MO_item_112 : decode b_MO_item 112 = .ok (.ifCond .ne 17, 3) := by decide +kernel
theorem d_MO_item_115 : decode b_MO_item 115 = .ok (.aload_n 0, 1) := by decide +kernel
theorem d_MO_item_116 : decode b_MO_item 116 = .ok (.bipush 24, 2) := by decide +kernel
theorem d_MO_item_118 : decode b_MO_item 118 = .ok (.invokevirtual 116, 3) := by decide +kernel
theorem d_MO_item_121 : decode b_MO_item 121 = .ok (.iconst 3, 1) := by decide +kernel
theorem d_MO_item_122 : decode b_MO_item 122 = .ok (.if_icmp .ne 7, 3) := by decide +kernel
theorem d_MO_item_125 : decode b_MO_item 125 = .ok (.iconst 2, 1) := by decide +kernel
theorem d_MO_item_126 : decode b_MO_item 126 = .ok (.goto 4, 3) := by decide +kernel
theorem d_MO_item_129 : decode b_MO_item 129 = .ok (.iconst 0, 1) := by decide +kernel
theorem d_MO_item_130 : decode b_MO_item 130 = .ok (.putfield 72, 3) := by decide +kernel
theorem d_MO_item_133 : decode b_MO_item 133 = .ok (.aload_n 0, 1) := by decide +kernel
theorem d_MO_item_134 : decode b_MO_item 134 = .ok (.getfield 72, 3) := by decide +kernel
theorem d_MO_item_137 : decode b_MO_item 137 = .ok (.ifCond .le 5, 3) := by decide +kernel
theorem d_MO_item_140 : decode b_MO_item 140 = .ok (.iconst 0, 1) := by decide +kernel
theorem d_MO_item_141 : decode b_MO_item 141 = .ok (.ireturn, 1) := by decide +kernel
theorem d_MO_item_142 : decode b_MO_item 142 = .ok (.sipush 144, 3) := by decide +kernel
theorem d_MO_item_145 : decode b_MO_item 145 = .ok (.aload_n 0, 1) := by decide +kernel
theorem d_MO_item_146 : decode b_MO_item 146 = .ok (.getfield 48, 3) := by decide +kernel
theorem d_MO_item_149 : decode b_MO_item 149 = .ok (.bipush 24, 2) := by decide +kernel
theorem d_MO_item_151 : decode b_MO_item 151 = .ok (.iaload, 1) := by decide +kernel
theorem d_MO_item_152 : decode b_MO_item 152 = .ok (.iadd, 1) := by decide +kernel
theorem d_MO_item_153 : decode b_MO_item 153 = .ok (.istore 8, 2) := by decide +kernel
theorem d_MO_item_155 : decode b_MO_item 155 = .ok (.aload_n 0, 1) := by decide +kernel
theorem d_MO_item_156 : decode b_MO_item 156 = .ok (.getfield 51, 3) := by decide +kernel
theorem d_MO_item_159 : decode b_MO_item 159 = .ok (.iload 8, 2) := by decide +kernel
theorem d_MO_item_161 : decode b_MO_item 161 = .ok (.iload_n 1, 1) := by decide +kernel
theorem d_MO_item_162 : decode b_MO_item 162 = .ok (.iastore, 1) := by decide +kernel
theorem d_MO_item_163 : decode b_MO_item 163 = .ok (.aload_n 0, 1) := by decide +kernel
theorem d_MO_item_164 : decode b_MO_item 164 = .ok (.getfield 54, 3) := by decide +kernel
theorem d_MO_item_167 : decode b_MO_item 167 = .ok (.iload 8, 2) := by decide +kernel
theorem d_MO_item_169 : decode b_MO_item 169 = .ok (.iload_n 2, 1) := by decide +kernel
theorem d_MO_item_170 : decode b_MO_item 170 = .ok (.iastore, 1) := by decide +kernel
theorem d_MO_item_171 : decode b_MO_item 171 = .ok (.aload_n 0, 1) := by decide +kernel
theorem d_MO_item_172 : decode b_MO_item 172 = .ok (.iload 8, 2) := by decide +kernel
theorem d_MO_item_174 : decode b_MO_item 174 = .ok (.iload_n 3, 1) := by decide +kernel
theorem d_MO_item_175 : decode b_MO_item 175 = .ok (.iload 4, 2) := by decide +kernel
theorem d_MO_item_177 : decode b_MO_item 177 = .ok (.iload 5, 2) := by decide +kernel
theorem d_MO_item_179 : decode b_MO_item 179 = .ok (.invokevirtual 120, 3) := by decide +kernel
theorem d_MO_item_182 : decode b_MO_item 182 = .ok (.aload_n 0, 1) := by decide +kernel
theorem d_MO_item_183 : decode b_MO_item 183 = .ok (.getfield 48, 3) := by decide +kernel
theorem d_MO_item_186 : decode b_MO_item 186 = .ok (.bipush 24, 2) := by decide +kernel
theorem d_MO_item_188 : decode b_MO_item 188 = .ok (.dup2, 1) := by decide +kernel
theorem d_MO_item_189 : decode b_MO_item 189 = .ok (.iaload, 1) := by decide +kernel
theorem d_MO_item_190 : decode b_MO_item 190 = .ok (.iconst 1, 1) := by decide +kernel
theorem d_MO_item_191 : decode b_MO_item 191 = .ok (.iadd, 1) := by decide +kernel
theorem d_MO_item_192 : decode b_MO_item 192 = .ok (.iastore, 1) := by decide +kernel
