theorem d_MO_find_70 : decode b_MO_find 70 = .ok (.land, 1) := by decide +kernel
theorem d_MO_find_71 : decode b_MO_find 71 = .ok (.lconst 1, 1) := by decide +kernel
theorem d_MO_find_72 : decode b_MO_find 72 = .ok (.lcmp, 1) := by decide +kernel
theorem d_MO_find_73 : decode b_MO_find 73 = .ok (.ifCond .ne 7, 3) := by decide +kernel
theorem d_MO_find_76 : decode b_MO_find 76 = .ok (.iconst 1, 1) := by decide +kernel
theorem d_MO_find_77 : decode b_MO_find 77 = .ok (.goto 4, 3) := by decide +kernel
theorem d_MO_find_80 : decode b_MO_find 80 = .ok (.iconst 0, 1) := by decide +kernel
theorem d_MO_find_81 : decode b_MO_find 81 = .ok (.istore_n 3, 1) := by decide +kernel
theorem d_MO_find_82 : decode b_MO_find 82 = .ok (.aload_n 0, 1) := by decide +kernel
theorem d_MO_find_83 : decode b_MO_find 83 = .ok (.getfield 148, 3) := by decide +kernel
theorem d_MO_find_86 : decode b_MO_find 86 = .ok (.ifCond .ne 21, 3) := by decide +kernel
theorem d_MO_find_89 : decode b_MO_find 89 = .ok (.iload_n 3, 1) := by decide +kernel
theorem d_MO_find_90 : decode b_MO_find 90 = .ok (.ifCond .ne 17, 3) := by decide +kernel
theorem d_MO_find_93 : decode b_MO_find 93 = .ok (.aload_n 0, 1) := by decide +kernel
theorem d_MO_find_94 : decode b_MO_find 94 = .ok (.aload_n 0, 1) := by decide +kernel
theorem d_MO_find_95 : decode b_MO_find 95 = .ok (.getfield 42, 3) := by decide +kernel
theorem d_MO_find_98 : decode b_MO_find 98 = .ok (.iload_n 1, 1) := by decide +kernel
theorem d_MO_find_99 : decode b_MO_find 99 = .ok (.iaload, 1) := by decide +kernel
theorem d_MO_find_100 : decode b_MO_find 100 = .ok (.iload_n 2, 1) := by decide +kernel
theorem d_MO_find_101 : decode b_MO_find 101 = .ok (.invokevirtual 144, 3) := by decide +kernel
theorem d_MO_find_104 : decode b_MO_find 104 = .ok (.ifCond .eq 4, 3) := by decide +kernel
theorem d_MO_find_107 : decode b_MO_find 107 = .ok (.return_, 1) := by decide +kernel
theorem d_MO_find_108 : decode b_MO_find 108 = .ok (.aload_n 0, 1) := by decide +kernel
theorem d_MO_find_109 : decode b_MO_find 109 = .ok (.aload_n 0, 1) := by decide +kernel
theorem d_MO_find_110 : decode b_MO_find 110 = .ok (.getfield 79, 3) := by decide +kernel
theorem d_MO_find_113 : decode b_MO_find 113 = .ok (.aload_n 0, 1) := by decide +kernel
theorem d_MO_find_114 : decode b_MO_find 114 = .ok (.getfield 151, 3) := by decide +kernel
theorem d_MO_find_117 : decode b_MO_find 117 = .ok (.iadd, 1) := by decide +kernel
theorem d_MO_find_118 : decode b_MO_find 118 = .ok (.sipush 300, 3) := by decide +kernel
theorem d_MO_find_121 : decode b_MO_find 121 = .ok (.if_icmp .ne 7, 3) := by decide +kernel
theorem d_MO_find_124 : decode b_MO_find 124 = .ok (.iconst 1, 1) := by decide +kernel
theorem d_MO_find_125 : decode b_MO_find 125 = .ok (.goto 4, 3) := by decide +kernel
theorem d_MO_find_128 : decode b_MO_find 128 = .ok (.iconst 0, 1) := by decide +kernel
theorem d_MO_find_129 : decode b_MO_find 129 = .ok (.putfield 148, 3) := by decide +kernel
theorem d_MO_find_132 : decode b_MO_find 132 = .ok (.aload_n 0, 1) := by decide +kernel
theorem d_MO_find_133 : decode b_MO_find 133 = .ok (.getfield 148, 3) := by decide +kernel
theorem d_MO_find_136 : decode b_MO_find 136 = .ok (.ifCond .ne 98, 3) := by decide +kernel
theorem d_MO_find_139 : decode b_MO_find 139 = .ok (.aload_n 0, 1) := by decide +kernel
theorem d_MO_find_140 : decode b_MO_find 140 = .ok (.getfield 22, 3) := by decide +kernel
theorem d_MO_find_143 : decode b_MO_find 143 = .ok (.aload_n 0, 1) := by decide +kernel
theorem d_MO_find_144 : decode b_MO_find 144 = .ok (.getfield 79, 3) := by decide +kernel
theorem d_MO_find_147 : decode b_MO_find 147 = .ok (.aload_n 0, 1) := by decide +kernel
theorem d_MO_find_148 : decode b_MO_find 148 = .ok (.getfield 151, 3) := by decide +kernel
theorem d_MO_find_151 : decode b_MO_find 151 = .ok (.iadd, 1) := by decide +kernel
theorem d_MO_find_152 : decode b_MO_find 152 = .ok (.aload_n 0, 1) := by decide +kernel
theorem d_MO_find_153 : decode b_MO_find 153 = .ok (.getfield 42, 3) := by decide +kernel
theorem d_MO_find_156 : decode b_MO_find 156 = .ok (.iload_n 1, 1) := by decide +kernel
theorem d_MO_find_157 : decode b_MO_find 157 = .ok (.iaload, 1) := by decide +kernel
theorem d_MO_find_158 : decode b_MO_find 158 = .ok (.iastore, 1) := by decide +kernel
theorem d_MO_find_159 : decode b_MO_find 159 = .ok (.aload_n 0, 1) := by decide +kernel
theorem d_MO_find_160 : decode b_MO_find 160 = .ok (.getfield 25, 3) := by decide +kernel
theorem d_MO_find_163 : decode b_MO_find 163 = .ok (.aload_n 0, 1) := by decide +kernel
theorem d_MO_find_164 : decode b_MO_find 164 = .ok (.getfield 79, 3) := by decide +kernel
theorem d_MO_find_167 : decode b_MO_find 167 = .ok (.aload_n 0, 1) := by decide +kernel
theorem d_MO_find_168 : decode b_MO_find 168 = .ok (.getfield 151, 3) := by decide +kernel
theorem d_MO_find_171 : decode b_MO_find 171 = .ok (.iadd, 1) := by decide +kernel
theorem d_MO_find_172 : decode b_MO_find 172 = .ok (.iload_n 2, 1) := by decide +kernel
theorem d_MO_find_173 : decode b_MO_find 173 = .ok (.iastore, 1) := by decide +kernel
theorem d_MO_find_174 : decode b_MO_find 174 = .ok (.aload_n 0, 1) := by decide +kernel
theorem d_MO_find_175 : decode b_MO_find 175 = .ok (.getfield 28, 3) := by decide +kernel
theorem d_MO_find_178 : decode b_MO_find 178 = .ok (.aload_n 0, 1) := by decide +kernel
theorem d_MO_find_179 : decode b_MO_find 179 = .ok (.getfield 79, 3) := by decide +kernel
theorem d_MO_find_182 : decode b_MO_find 182 = .ok (.aload_n 0, 1) := by decide +kernel
theorem d_MO_find_183 : decode b_MO_find 183 = .ok (.getfield 151, 3) := by decide +kernel
theorem d_MO_find_186 : decode b_MO_find 186 = .ok (.iadd, 1) := by decide +kernel
theorem d_MO_find_187 : decode b_MO_find 187 = .ok (.aload_n 0, 1) := by decide +kernel
theorem d_MO_find_188 : decode b_MO_find 188 = .ok (.getfield 92, 3) := by decide +kernel
theorem d_MO_find_191 : decode b_MO_find 191 = .ok (.iconst 1, 1) := by decide +kernel
theorem d_MO_find_192 : decode b_MO_find 192 = .ok (.iadd, 1) := by decide +kernel
theorem d_MO_find_193 : decode b_MO_find 193 = .ok (.iastore, 1) := by decide +kernel
theorem d_MO_find_194 : decode b_MO_find 194 = .ok (.aload_n 0, 1) := by decide +kernel
theorem d_MO_find_195 : decode b_MO_find 195 = .ok (.getfield 31, 3) := by decide +kernel
theorem d_MO_find_198 : decode b_MO_find 198 = .ok (.aload_n 0, 1) := by decide +kernel
theorem d_MO_find_199 : decode b_MO_find 199 = .ok (.getfield 79, 3) := by decide +kernel
theorem d_MO_find_202 : decode b_MO_find 202 = .ok (.aload_n 0, 1) := by decide +kernel
theorem d_MO_find_203 : decode b_MO_find 203 = .ok (.getfield 151, 3) := by decide +kernel
theorem d_MO_find_206 : decode b_MO_find 206 = .ok (.iadd, 1) := by decide +kernel
theorem d_MO_find_207 : decode b_MO_find 207 = .ok (.iload_n 1, 1) := by decide +kernel
theorem d_MO_find_208 : decode b_MO_find 208 = .ok (.iastore, 1) := by decide +kernel
theorem d_MO_find_209 : decode b_MO_find 209 = .ok (.aload_n 0, 1) := by decide +kernel
theorem d_MO_find_210 : decode b_MO_find 210 = .ok (.getfield 39, 3) := by decide +kernel
theorem d_MO_find_213 : decode b_MO_find 213 = .ok (.aload_n 0, 1) := by decide +kernel
theorem d_MO_find_214 : decode b_MO_find 214 = .ok (.getfield 42, 3) := by decide +kernel
theorem d_MO_find_217 : decode b_MO_find 217 = .ok (.iload_n 1, 1) := by decide +kernel
theorem d_MO_find_218 : decode b_MO_find 218 = .ok (.iaload, 1) := by decide +kernel
theorem d_MO_find_219 : decode b_MO_find 219 = .ok (.iload_n 2, 1) := by decide +kernel
theorem d_MO_find_220 : decode b_MO_find 220 = .ok (.iconst 1, 1) := by decide +kernel
theorem d_MO_find_221 : decode b_MO_find 221 = .ok (.invokestatic 82, 3) := by decide +kernel
theorem d_MO_find_224 : decode b_MO_find 224 = .ok (.aload_n 0, 1) := by decide +kernel
theorem d_MO_find_225 : decode b_MO_find 225 = .ok (.dup, 1) := by decide +kernel
theorem d_MO_find_226 : decode b_MO_find 226 = .ok (.getfield 151, 3) := by decide +kernel
theorem d_MO_find_229 : decode b_MO_find 229 = .ok (.iconst 1, 1) := by decide +kernel
theorem d_MO_find_230 : decode b_MO_find 230 = .ok (.iadd, 1) := by decide +kernel
theorem d_MO_find_231 : decode b_MO_find 231 = .ok (.putfield 151, 3) := by decide +kernel
theorem d_MO_find_234 : decode b_MO_find 234 = .ok (.return_, 1) := by decide +kernel
theorem d_MO_advances_0 : decode b_MO_advances 0 = .ok (.aload_n 0, 1) := by decide +kernel
theorem d_MO_advances_1 : decode b_MO_advances 1 = .ok (.getfield 63, 3) := by decide +kernel
theorem d_MO_advances_4 : decode b_MO_advances 4 = .ok (.iload_n 1, 1) := by decide +kernel
theorem d_MO_advances_5 : decode b_MO_advances 5 = .ok (.iaload, 1) := by decide +kernel
theorem d_MO_advances_6 : decode b_MO_advances 6 = .ok (.istore_n 2, 1) := by decide +kernel
theorem d_MO_advances_7 : decode b_MO_advances 7 = .ok (.iconst (-1), 1) := by decide +kernel
theorem d_MO_advances_8 : decode b_MO_advances 8 = .ok (.istore_n 3, 1) := by decide +kernel
theorem d_MO_advances_9 : decode b_MO_advances 9 = .ok (.aload_n 0, 1) := by decide +kernel
theorem d_MO_advances_10 : decode b_MO_advances 10 = .ok (.getfield 66, 3) := by decide +kernel
theorem d_MO_advances_13 : decode b_MO_advances 13 = .ok (.iload_n 1, 1) := by decide +kernel
theorem d_MO_advances_14 : decode b_MO_advances 14 = .ok (.iaload, 1) := by decide +kernel
theorem d_MO_advances_15 : decode b_MO_advances 15 = .ok (.aload_n 0, 1) := by decide +kernel
theorem d_MO_advances_16 : decode b_MO_advances 16 = .ok (.getfield 79, 3) := by decide +kernel
theorem d_MO_advances_19 : decode b_MO_advances 19 = .ok (.if_icmp .ge 74, 3) := by decide +kernel
theorem d_MO_advances_22 : decode b_MO_advances 22 = .ok (.iload_n 3, 1) := by decide +kernel
theorem d_MO_advances_23 : decode b_MO_advances 23 = .ok (.ifCond .ge 70, 3) := by decide +kernel
theorem d_MO_advances_26 : decode b_MO_advances 26 = .ok (.aload_n 0, 1) := by decide +kernel
theorem d_MO_advances_27 : decode b_MO_advances 27 = .ok (.getfield 66, 3) := by decide +kernel
theorem d_MO_advances_30 : decode b_MO_advances 30 = .ok (.iload_n 1, 1) := by decide +kernel
theorem d_MO_advances_31 : decode b_MO_advances 31 = .ok (.iaload, 1) := by decide +kernel
theorem d_MO_advances_32 : decode b_MO_advances 32 = .ok (.istore 4, 2) := by decide +kernel
theorem d_MO_advances_34 : decode b_MO_advances 34 = .ok (.aload_n 0, 1) := by decide +kernel
theorem d_MO_advances_35 : decode b_MO_advances 35 = .ok (.getfield 22, 3) := by decide +kernel
theorem d_MO_advances_38 : decode b_MO_advances 38 = .ok (.iload 4, 2) := by decide +kernel
theorem d_MO_advances_40 : decode b_MO_advances 40 = .ok (.iaload, 1) := by decide +kernel
theorem d_MO_advances_41 : decode b_MO_advances 41 = .ok (.aload_n 0, 1) := by decide +kernel
theorem d_MO_advances_42 : decode b_MO_advances 42 = .ok (.getfield 54, 3) := by decide +kernel
theorem d_MO_advances_45 : decode b_MO_advances 45 = .ok (.iload_n 2, 1) := by decide +kernel
theorem d_MO_advances_46 : decode b_MO_advances 46 = .ok (.iaload, 1) := by decide +kernel
theorem d_MO_advances_47 : decode b_MO_advances 47 = .ok (.if_icmp .ne 31, 3) := by decide +kernel
theorem d_MO_advances_50 : decode b_MO_advances 50 = .ok (.aload_n 0, 1) := by decide +kernel
theorem d_MO_advances_51 : decode b_MO_advances 51 = .ok (.iconst 3, 1) := by decide +kernel
theorem d_MO_advances_52 : decode b_MO_advances 52 = .ok (.iload_n 2, 1) := by decide +kernel
theorem d_MO_advances_53 : decode b_MO_advances 53 = .ok (.imul, 1) := by decide +kernel
theorem d_MO_advances_54 : decode b_MO_advances 54 = .ok (.aload_n 0, 1) := by decide +kernel
theorem d_MO_advances_55 : decode b_MO_advances 55 = .ok (.getfield 7, 3) := by decide +kernel
theorem d_MO_advances_58 : decode b_MO_advances 58 = .ok (.aload_n 0, 1) := by decide +kernel
theorem d_MO_advances_59 : decode b_MO_advances 59 = .ok (.getfield 54, 3) := by decide +kernel
theorem d_MO_advances_62 : decode b_MO_advances 62 = .ok (.iload_n 2, 1) := by decide +kernel
theorem d_MO_advances_63 : decode b_MO_advances 63 = .ok (.iaload, 1) := by decide +kernel
theorem d_MO_advances_64 : decode b_MO_advances 64 = .ok (.iaload, 1) := by decide +kernel
theorem d_MO_advances_65 : decode b_MO_advances 65 = .ok (.aload_n 0, 1) := by decide +kernel
theorem d_MO_advances_66 : decode b_MO_advances 66 = .ok (.getfield 25, 3) := by decide +kernel
theorem d_MO_advances_69 : decode b_MO_advances 69 = .ok (.iload 4, 2) := by decide +kernel
theorem d_MO_advances_71 : decode b_MO_advances 71 = .ok (.iaload, 1) := by decide +kernel
theorem d_MO_advances_72 : decode b_MO_advances 72 = .ok (.invokevirtual 154, 3) := by decide +kernel
theorem d_MO_advances_75 : decode b_MO_advances 75 = .ok (.goto 4, 3) := by decide +kernel
theorem d_MO_advances_78 : decode b_MO_advances 78 = .ok (.iconst (-1), 1) := by decide +kernel
theorem d_MO_advances_79 : decode b_MO_advances 79 = .ok (.istore_n 3, 1) := by decide +kernel
theorem d_MO_advances_80 : decode b_MO_advances 80 = .ok (.aload_n 0, 1) := by decide +kernel
theorem d_MO_advances_81 : decode b_MO_advances 81 = .ok (.getfield 66, 3) := by decide +kernel
theorem d_MO_advances_84 : decode b_MO_advances 84 = .ok (.iload_n 1, 1) := by decide +kernel
theorem d_MO_advances_85 : decode b_MO_advances 85 = .ok (.dup2, 1) := by decide +kernel
theorem d_MO_advances_86 : decode b_MO_advances 86 = .ok (.iaload, 1) := by decide +kernel
theorem d_MO_advances_87 : decode b_MO_advances 87 = .ok (.iconst 1, 1) := by decide +kernel
theorem d_MO_advances_88 : decode b_MO_advances 88 = .ok (.iadd, 1) := by decide +kernel
theorem d_MO_advances_89 : decode b_MO_advances 89 = .ok (.iastore, 1) := by decide +kernel
theorem d_MO_advances_90 : decode b_MO_advances 90 = .ok (.goto (-81), 3) := by decide +kernel
theorem d_MO_advances_93 : decode b_MO_advances 93 = .ok (.aload_n 0, 1) := by decide +kernel
theorem d_MO_advances_94 : decode b_MO_advances 94 = .ok (.getfield 69, 3) := by decide +kernel
theorem d_MO_advances_97 : decode b_MO_advances 97 = .ok (.iload_n 1, 1) := by decide +kernel
theorem d_MO_advances_98 : decode b_MO_advances 98 = .ok (.iload_n 3, 1) := by decide +kernel
theorem d_MO_advances_99 : decode b_MO_advances 99 = .ok (.iastore, 1) := by decide +kernel
theorem d_MO_advances_100 : decode b_MO_advances 100 = .ok (.iload_n 3, 1) := by decide +kernel
theorem d_MO_advances_101 : decode b_MO_advances 101 = .ok (.ifCond .lt 7, 3) := by decide +kernel
theorem d_MO_advances_104 : decode b_MO_advances 104 = .ok (.iconst 1, 1) := by decide +kernel
theorem d_MO_advances_105 : decode b_MO_advances 105 = .ok (.goto 4, 3) := by decide +kernel
theorem d_MO_advances_108 : decode b_MO_advances 108 = .ok (.iconst 0, 1) := by decide +kernel
theorem d_MO_advances_109 : decode b_MO_advances 109 = .ok (.ireturn, 1) := by decide +kernel
theorem d_MO_tries_0 : decode b_MO_tries 0 = .ok (.iconst 0, 1) := by decide +kernel
theorem d_MO_tries_1 : decode b_MO_tries 1 = .ok (.istore_n 3, 1) := by decide +kernel
theorem d_MO_tries_2 : decode b_MO_tries 2 = .ok (.iload_n 3, 1) := by decide +kernel
theorem d_MO_tries_3 : decode b_MO_tries 3 = .ok (.bipush 8, 2) := by decide +kernel
theorem d_MO_tries_5 : decode b_MO_tries 5 = .ok (.if_icmp .ge 16, 3) := by decide +kernel
theorem d_MO_tries_8 : decode b_MO_tries 8 = .ok (.aload_n 0, 1) := by decide +kernel
theorem d_MO_tries_9 : decode b_MO_tries 9 = .ok (.getfield 60, 3) := by decide +kernel
theorem d_MO_tries_12 : decode b_MO_tries 12 = .ok (.iload_n 3, 1) := by decide +kernel
theorem d_MO_tries_13 : decode b_MO_tries 13 = .ok (.iconst (-1), 1) := by decide +kernel
theorem d_MO_tries_14 : decode b_MO_tries 14 = .ok (.iastore, 1) := by decide +kernel
theorem d_MO_tries_15 : decode b_MO_tries 15 = .ok (.iinc 3 1, 3) := by decide +kernel
theorem d_MO_tries_18 : decode b_MO_tries 18 = .ok (.goto (-16), 3) := by decide +kernel
theorem d_MO_tries_21 : decode b_MO_tries 21 = .ok (.iconst 0, 1) := by decide +kernel
theorem d_MO_tries_22 : decode b_MO_tries 22 = .ok (.istore_n 3, 1) := by decide +kernel
theorem d_MO_tries_23 : decode b_MO_tries 23 = .ok (.iconst 0, 1) := by decide +kernel
theorem d_MO_tries_24 : decode b_MO_tries 24 = .ok (.istore 4, 2) := by decide +kernel
theorem d_MO_tries_26 : decode b_MO_tries 26 = .ok (.iload 4, 2) := by decide +kernel
theorem d_MO_tries_28 : decode b_MO_tries 28 = .ok (.aload_n 0, 1) := by decide +kernel
theorem d_MO_tries_29 : decode b_MO_tries 29 = .ok (.getfield 48, 3) := by decide +kernel
theorem d_MO_tries_32 : decode b_MO_tries 32 = .ok (.iload_n 1, 1) := by decide +kernel
theorem d_MO_tries_33 : decode b_MO_tries 33 = .ok (.iaload, 1) := by decide +kernel
theorem d_MO_tries_34 : decode b_MO_tries 34 = .ok (.if_icmp .ge 47, 3) := by decide +kernel
theorem d_MO_tries_37 : decode b_MO_tries 37 = .ok (.aload_n 0, 1) := by decide +kernel
theorem d_MO_tries_38 : decode b_MO_tries 38 = .ok (.getfield 51, 3) := by decide +kernel
theorem d_MO_tries_41 : decode b_MO_tries 41 = .ok (.bipush 6, 2) := by decide +kernel
theorem d_MO_tries_43 : decode b_MO_tries 43 = .ok (.iload_n 1, 1) := by decide +kernel
theorem d_MO_tries_44 : decode b_MO_tries 44 = .ok (.imul, 1) := by decide +kernel
theorem d_MO_tries_45 : decode b_MO_tries 45 = .ok (.iload 4, 2) := by decide +kernel
theorem d_MO_tries_47 : decode b_MO_tries 47 = .ok (.iadd, 1) := by decide +kernel
theorem d_MO_tries_48 : decode b_MO_tries 48 = .ok (.iaload, 1) := by decide +kernel
theorem d_MO_tries_49 : decode b_MO_tries 49 = .ok (.ifCond .ne 26, 3) := by decide +kernel
theorem d_MO_tries_52 : decode b_MO_tries 52 = .ok (.aload_n 0, 1) := by decide +kernel
theorem d_MO_tries_53 : decode b_MO_tries 53 = .ok (.getfield 63, 3) := by decide +kernel
theorem d_MO_tries_56 : decode b_MO_tries 56 = .ok (.iload_n 3, 1) := by decide +kernel
theorem d_MO_tries_57 : decode b_MO_tries 57 = .ok (.bipush 6, 2) := by decide +kernel
theorem d_MO_tries_59 : decode b_MO_tries 59 = .ok (.iload_n 1, 1) := by decide +kernel
theorem d_MO_tries_60 : decode b_MO_tries 60 = .ok (.imul, 1) := by decide +kernel
theorem d_MO_tries_61 : decode b_MO_tries 61 = .ok (.iload 4, 2) := by decide +kernel
theorem d_MO_tries_63 : decode b_MO_tries 63 = .ok (.iadd, 1) := by decide +kernel
theorem d_MO_tries_64 : decode b_MO_tries 64 = .ok (.iastore, 1) := by decide +kernel
theorem d_MO_tries_65 : decode b_MO_tries 65 = .ok (.aload_n 0, 1) := by decide +kernel
theorem d_MO_tries_66 : decode b_MO_tries 66 = .ok (.getfield 66, 3) := by decide +kernel
theorem d_MO_tries_69 : decode b_MO_tries 69 = .ok (.iload_n 3, 1) := by decide +kernel
theorem d_MO_tries_70 : decode b_MO_tries 70 = .ok (.iconst 0, 1) := by decide +kernel
theorem d_MO_tries_71 : decode b_MO_tries 71 = .ok (.iastore, 1) := by decide +kernel
theorem d_MO_tries_72 : decode b_MO_tries 72 = .ok (.iinc 3 1, 3) := by decide +kernel
theorem d_MO_tries_75 : decode b_MO_tries 75 = .ok (.iinc 4 1, 3) := by decide +kernel
theorem d_MO_tries_78 : decode b_MO_tries 78 = .ok (.goto (-52), 3) := by decide +kernel
theorem d_MO_tries_81 : decode b_MO_tries 81 = .ok (.iconst 0, 1) := by decide +kernel
theorem d_MO_tries_82 : decode b_MO_tries 82 = .ok (.istore 4, 2) := by decide +kernel
theorem d_MO_tries_84 : decode b_MO_tries 84 = .ok (.iload 4, 2) := by decide +kernel
theorem d_MO_tries_86 : decode b_MO_tries 86 = .ok (.ifCond .lt 116, 3) := by decide +kernel
theorem d_MO_tries_89 : decode b_MO_tries 89 = .ok (.iload 4, 2) := by decide +kernel
theorem d_MO_tries_91 : decode b_MO_tries 91 = .ok (.iload_n 3, 1) := by decide +kernel
theorem d_MO_tries_92 : decode b_MO_tries 92 = .ok (.if_icmp .ge 16, 3) := by decide +kernel
theorem d_MO_tries_95 : decode b_MO_tries 95 = .ok (.aload_n 0, 1) := by decide +kernel
theorem d_MO_tries_96 : decode b_MO_tries 96 = .ok (.iload 4, 2) := by decide +kernel
theorem d_MO_tries_98 : decode b_MO_tries 98 = .ok (.invokevirtual 157, 3) := by decide +kernel
theorem d_MO_tries_101 : decode b_MO_tries 101 = .ok (.ifCond .eq 7, 3) := by decide +kernel
theorem d_MO_tries_104 : decode b_MO_tries 104 = .ok (.iconst 1, 1) := by decide +kernel
theorem d_MO_tries_105 : decode b_MO_tries 105 = .ok (.goto 4, 3) := by decide +kernel
theorem d_MO_tries_108 : decode b_MO_tries 108 = .ok (.iconst 0, 1) := by decide +kernel
theorem d_MO_tries_109 : decode b_MO_tries 109 = .ok (.istore 5, 2) := by decide +kernel
theorem d_MO_tries_111 : decode b_MO_tries 111 = .ok (.iload 4, 2) := by decide +kernel
theorem d_MO_tries_113 : decode b_MO_tries 113 = .ok (.iload_n 3, 1) := by decide +kernel
theorem d_MO_tries_114 : decode b_MO_tries 114 = .ok (.if_icmp .ne 30, 3) := by decide +kernel
theorem d_MO_tries_117 : decode b_MO_tries 117 = .ok (.aload_n 0, 1) := by decide +kernel
theorem d_MO_tries_118 : decode b_MO_tries 118 = .ok (.iload_n 1, 1) := by decide +kernel
theorem d_MO_tries_119 : decode b_MO_tries 119 = .ok (.invokevirtual 160, 3) := by decide +kernel
theorem d_MO_tries_122 : decode b_MO_tries 122 = .ok (.ifCond .eq 22, 3) := by decide +kernel
theorem d_MO_tries_125 : decode b_MO_tries 125 = .ok (.aload_n 0, 1) := by decide +kernel
theorem d_MO_tries_126 : decode b_MO_tries 126 = .ok (.dup, 1) := by decide +kernel
theorem d_MO_tries_127 : decode b_MO_tries 127 = .ok (.getfield 163, 3) := by decide +kernel
theorem d_MO_tries_130 : decode b_MO_tries 130 = .ok (.iconst 1, 1) := by decide +kernel
theorem d_MO_tries_131 : decode b_MO_tries 131 = .ok (.iadd, 1) := by decide +kernel
theorem d_MO_tries_132 : decode b_MO_tries 132 = .ok (.putfield 163, 3) := by decide +kernel
theorem d_MO_tries_135 : decode b_MO_tries 135 = .ok (.iload_n 2, 1) := by decide +kernel
theorem d_MO_tries_136 : decode b_MO_tries 136 = .ok (.ifCond .eq 8, 3) := by decide +kernel
theorem d_MO_tries_139 : decode b_MO_tries 139 = .ok (.aload_n 0, 1) := by decide +kernel
theorem d_MO_tries_140 : decode b_MO_tries 140 = .ok (.iload_n 1, 1) := by decide +kernel
theorem d_MO_tries_141 : decode b_MO_tries 141 = .ok (.invokevirtual 166, 3) := by decide +kernel
theorem d_MO_tries_144 : decode b_MO_tries 144 = .ok (.iload 4, 2) := by decide +kernel
theorem d_MO_tries_146 : decode b_MO_tries 146 = .ok (.iload 5, 2) := by decide +kernel
theorem d_MO_tries_148 : decode b_MO_tries 148 = .ok (.ifCond .eq 7, 3) := by decide +kernel
theorem d_MO_tries_151 : decode b_MO_tries 151 = .ok (.iconst 1, 1) := by decide +kernel
theorem d_MO_tries_152 : decode b_MO_tries 152 = .ok (.goto 4, 3) := by decide +kernel
theorem d_MO_tries_155 : decode b_MO_tries 155 = .ok (.iconst (-1), 1) := by decide +kernel
theorem d_MO_tries_156 : decode b_MO_tries 156 = .ok (.iadd, 1) := by decide +kernel
theorem d_MO_tries_157 : decode b_MO_tries 157 = .ok (.istore 4, 2) := by decide +kernel
theorem d_MO_tries_159 : decode b_MO_tries 159 = .ok (.iload 5, 2) := by decide +kernel
theorem d_MO_tries_161 : decode b_MO_tries 161 = .ok (.ifCond .eq 17, 3) := by decide +kernel
theorem d_MO_tries_164 : decode b_MO_tries 164 = .ok (.iload 4, 2) := by decide +kernel
theorem d_MO_tries_166 : decode b_MO_tries 166 = .ok (.iload_n 3, 1) := by decide +kernel
theorem d_MO_tries_167 : decode b_MO_tries 167 = .ok (.if_icmp .ge 11, 3) := by decide +kernel
theorem d_MO_tries_170 : decode b_MO_tries 170 = .ok (.aload_n 0, 1) := by decide +kernel
theorem d_MO_tries_171 : decode b_MO_tries 171 = .ok (.getfield 66, 3) := by decide +kernel
theorem d_MO_tries_174 : decode b_MO_tries 174 = .ok (.iload 4, 2) := by decide +kernel
theorem d_MO_tries_176 : decode b_MO_tries 176 = .ok (.iconst 0, 1) := by decide +kernel
theorem d_MO_tries_177 : decode b_MO_tries 177 = .ok (.iastore, 1) := by decide +kernel
theorem d_MO_tries_178 : decode b_MO_tries 178 = .ok (.iload 5, 2) := by decide +kernel
theorem d_MO_tries_180 : decode b_MO_tries 180 = .ok (.ifCond .ne 19, 3) := by decide +kernel
theorem d_MO_tries_183 : decode b_MO_tries 183 = .ok (.iload 4, 2) := by decide +kernel
theorem d_MO_tries_185 : decode b_MO_tries 185 = .ok (.ifCond .lt 14, 3) := by decide +kernel
theorem d_MO_tries_188 : decode b_MO_tries 188 = .ok (.aload_n 0, 1) := by decide +kernel
theorem d_MO_tries_189 : decode b_MO_tries 189 = .ok (.aload_n 0, 1) := by decide +kernel
theorem d_MO_tries_190 : decode b_MO_tries 190 = .ok (.getfield 69, 3) := by decide +kernel
theorem d_MO_tries_193 : decode b_MO_tries 193 = .ok (.iload 4, 2) := by decide +kernel
theorem d_MO_tries_195 : decode b_MO_tries 195 = .ok (.iaload, 1) := by decide +kernel
theorem d_MO_tries_196 : decode b_MO_tries 196 = .ok (.invokevirtual 140, 3) := by decide +kernel
theorem d_MO_tries_199 : decode b_MO_tries 199 = .ok (.goto (-115), 3) := by decide +kernel
theorem d_MO_tries_202 : decode b_MO_tries 202 = .ok (.return_, 1) := by decide +kernel
theorem d_MO_oneRound_0 : decode b_MO_oneRound 0 = .ok (.aload_n 0, 1) := by decide +kernel
theorem d_MO_oneRound_1 : decode b_MO_oneRound 1 = .ok (.invokevirtual 134, 3) := by decide +kernel
theorem d_MO_oneRound_4 : decode b_MO_oneRound 4 = .ok (.istore_n 1, 1) := by decide +kernel
theorem d_MO_oneRound_5 : decode b_MO_oneRound 5 = .ok (.iload_n 1, 1) := by decide +kernel
theorem d_MO_oneRound_6 : decode b_MO_oneRound 6 = .ok (.bipush (-3), 2) := by decide +kernel
theorem d_MO_oneRound_8 : decode b_MO_oneRound 8 = .ok (.if_icmp .eq 11, 3) := by decide +kernel
theorem d_MO_oneRound_11 : decode b_MO_oneRound 11 = .ok (.aload_n 0, 1) := by decide +kernel
theorem d_MO_oneRound_12 : decode b_MO_oneRound 12 = .ok (.getfield 89, 3) := by decide +kernel
theorem d_MO_oneRound_15 : decode b_MO_oneRound 15 = .ok (.iload_n 1, 1) := by decide +kernel
theorem d_MO_oneRound_16 : decode b_MO_oneRound 16 = .ok (.if_icmp .ne 17, 3) := by decide +kernel
theorem d_MO_oneRound_19 : decode b_MO_oneRound 19 = .ok (.iload_n 1, 1) := by decide +kernel
theorem d_MO_oneRound_20 : decode b_MO_oneRound 20 = .ok (.bipush (-3), 2) := by decide +kernel
theorem d_MO_oneRound_22 : decode b_MO_oneRound 22 = .ok (.if_icmp .ne 8, 3) := by decide +kernel
theorem d_MO_oneRound_25 : decode b_MO_oneRound 25 = .ok (.bipush (-3), 2) := by decide +kernel
theorem d_MO_oneRound_27 : decode b_MO_oneRound 27 = .ok (.goto 5, 3) := by decide +kernel
theorem d_MO_oneRound_30 : decode b_MO_oneRound 30 = .ok (.bipush (-4), 2) := by decide +kernel
theorem d_MO_oneRound_32 : decode b_MO_oneRound 32 = .ok (.ireturn, 1) := by decide +kernel
theorem d_MO_oneRound_33 : decode b_MO_oneRound 33 = .ok (.aload_n 0, 1) := by decide +kernel
theorem d_MO_oneRound_34 : decode b_MO_oneRound 34 = .ok (.iconst 0, 1) := by decide +kernel
theorem d_MO_oneRound_35 : decode b_MO_oneRound 35 = .ok (.putfield 151, 3) := by decide +kernel
theorem d_MO_oneRound_38 : decode b_MO_oneRound 38 = .ok (.aload_n 0, 1) := by decide +kernel
theorem d_MO_oneRound_39 : decode b_MO_oneRound 39 = .ok (.iconst 0, 1) := by decide +kernel
theorem d_MO_oneRound_40 : decode b_MO_oneRound 40 = .ok (.putfield 148, 3) := by decide +kernel
theorem d_MO_oneRound_43 : decode b_MO_oneRound 43 = .ok (.iconst 0, 1) := by decide +kernel
theorem d_MO_oneRound_44 : decode b_MO_oneRound 44 = .ok (.istore_n 2, 1) := by decide +kernel
theorem d_MO_oneRound_45 : decode b_MO_oneRound 45 = .ok (.iload_n 2, 1) := by decide +kernel
theorem d_MO_oneRound_46 : decode b_MO_oneRound 46 = .ok (.aload_n 0, 1) := by decide +kernel
theorem d_MO_oneRound_47 : decode b_MO_oneRound 47 = .ok (.getfield 123, 3) := by decide +kernel
theorem d_MO_oneRound_50 : decode b_MO_oneRound 50 = .ok (.if_icmp .ge 33, 3) := by decide +kernel
theorem d_MO_oneRound_53 : decode b_MO_oneRound 53 = .ok (.aload_n 0, 1) := by decide +kernel
theorem d_MO_oneRound_54 : decode b_MO_oneRound 54 = .ok (.getfield 13, 3) := by decide +kernel
theorem d_MO_oneRound_57 : decode b_MO_oneRound 57 = .ok (.aload_n 0, 1) := by decide +kernel
theorem d_MO_oneRound_58 : decode b_MO_oneRound 58 = .ok (.getfield 42, 3) := by decide +kernel
theorem d_MO_oneRound_61 : decode b_MO_oneRound 61 = .ok (.iload_n 2, 1) := by decide +kernel
theorem d_MO_oneRound_62 : decode b_MO_oneRound 62 = .ok (.iaload, 1) := by decide +kernel
theorem d_MO_oneRound_63 : decode b_MO_oneRound 63 = .ok (.iaload, 1) := by decide +kernel
theorem d_MO_oneRound_64 : decode b_MO_oneRound 64 = .ok (.aload_n 0, 1) := by decide +kernel
theorem d_MO_oneRound_65 : decode b_MO_oneRound 65 = .ok (.getfield 89, 3) := by decide +kernel
theorem d_MO_oneRound_68 : decode b_MO_oneRound 68 = .ok (.if_icmp .ne 9, 3) := by decide +kernel
theorem d_MO_oneRound_71 : decode b_MO_oneRound 71 = .ok (.aload_n 0, 1) := by decide +kernel
theorem d_MO_oneRound_72 : decode b_MO_oneRound 72 = .ok (.iload_n 2, 1) := by decide +kernel
theorem d_MO_oneRound_73 : decode b_MO_oneRound 73 = .ok (.iconst 1, 1) := by decide +kernel
theorem d_MO_oneRound_74 : decode b_MO_oneRound 74 = .ok (.invokevirtual 169, 3) := by decide +kernel
theorem d_MO_oneRound_77 : decode b_MO_oneRound 77 = .ok (.iinc 2 1, 3) := by decide +kernel
theorem d_MO_oneRound_80 : decode b_MO_oneRound 80 = .ok (.goto (-35), 3) := by decide +kernel
theorem d_MO_oneRound_83 : decode b_MO_oneRound 83 = .ok (.aload_n 0, 1) := by decide +kernel
theorem d_MO_oneRound_84 : decode b_MO_oneRound 84 = .ok (.getfield 79, 3) := by decide +kernel
theorem d_MO_oneRound_87 : decode b_MO_oneRound 87 = .ok (.istore_n 2, 1) := by decide +kernel
theorem d_MO_oneRound_88 : decode b_MO_oneRound 88 = .ok (.iload_n 2, 1) := by decide +kernel
theorem d_MO_oneRound_89 : decode b_MO_oneRound 89 = .ok (.aload_n 0, 1) := by decide +kernel
theorem d_MO_oneRound_90 : decode b_MO_oneRound 90 = .ok (.getfield 79, 3) := by decide +kernel
theorem d_MO_oneRound_93 : decode b_MO_oneRound 93 = .ok (.aload_n 0, 1) := by decide +kernel
theorem d_MO_oneRound_94 : decode b_MO_oneRound 94 = .ok (.getfield 151, 3) := by decide +kernel
theorem d_MO_oneRound_97 : decode b_MO_oneRound 97 = .ok (.iadd, 1) := by decide +kernel
theorem d_MO_oneRound_98 : decode b_MO_oneRound 98 = .ok (.if_icmp .ge 60, 3) := by decide +kernel
theorem d_MO_oneRound_101 : decode b_MO_oneRound 101 = .ok (.aload_n 0, 1) := by decide +kernel
theorem d_MO_oneRound_102 : decode b_MO_oneRound 102 = .ok (.getfield 39, 3) := by decide +kernel
theorem d_MO_oneRound_105 : decode b_MO_oneRound 105 = .ok (.aload_n 0, 1) := by decide +kernel
theorem d_MO_oneRound_106 : decode b_MO_oneRound 106 = .ok (.getfield 22, 3) := by decide +kernel
theorem d_MO_oneRound_109 : decode b_MO_oneRound 109 = .ok (.iload_n 2, 1) := by decide +kernel
theorem d_MO_oneRound_110 : decode b_MO_oneRound 110 = .ok (.iaload, 1) := by decide +kernel
theorem d_MO_oneRound_111 : decode b_MO_oneRound 111 = .ok (.aload_n 0, 1) := by decide +kernel
theorem d_MO_oneRound_112 : decode b_MO_oneRound 112 = .ok (.getfield 25, 3) := by decide +kernel
theorem d_MO_oneRound_115 : decode b_MO_oneRound 115 = .ok (.iload_n 2, 1) := by decide +kernel
theorem d_MO_oneRound_116 : decode b_MO_oneRound 116 = .ok (.iaload, 1) := by decide +kernel
theorem d_MO_oneRound_117 : decode b_MO_oneRound 117 = .ok (.iconst 0, 1) := by decide +kernel
theorem d_MO_oneRound_118 : decode b_MO_oneRound 118 = .ok (.invokestatic 82, 3) := by decide +kernel
theorem d_MO_oneRound_121 : decode b_MO_oneRound 121 = .ok (.aload_n 0, 1) := by decide +kernel
theorem d_MO_oneRound_122 : decode b_MO_oneRound 122 = .ok (.getfield 35, 3) := by decide +kernel
theorem d_MO_oneRound_125 : decode b_MO_oneRound 125 = .ok (.aload_n 0, 1) := by decide +kernel
theorem d_MO_oneRound_126 : decode b_MO_oneRound 126 = .ok (.getfield 22, 3) := by decide +kernel
theorem d_MO_oneRound_129 : decode b_MO_oneRound 129 = .ok (.iload_n 2, 1) := by decide +kernel
theorem d_MO_oneRound_130 : decode b_MO_oneRound 130 = .ok (.iaload, 1) := by decide +kernel
theorem d_MO_oneRound_131 : decode b_MO_oneRound 131 = .ok (.aload_n 0, 1) := by decide +kernel
theorem d_MO_oneRound_132 : decode b_MO_oneRound 132 = .ok (.getfield 25, 3) := by decide +kernel
theorem d_MO_oneRound_135 : decode b_MO_oneRound 135 = .ok (.iload_n 2, 1) := by decide +kernel
theorem d_MO_oneRound_136 : decode b_MO_oneRound 136 = .ok (.iaload, 1) := by decide +kernel
theorem d_MO_oneRound_137 : decode b_MO_oneRound 137 = .ok (.aload_n 0, 1) := by decide +kernel
theorem d_MO_oneRound_138 : decode b_MO_oneRound 138 = .ok (.getfield 148, 3) := by decide +kernel
theorem d_MO_oneRound_141 : decode b_MO_oneRound 141 = .ok (.ifCond .ne 7, 3) := by decide +kernel
theorem d_MO_oneRound_144 : decode b_MO_oneRound 144 = .ok (.iconst 1, 1) := by decide +kernel
theorem d_MO_oneRound_145 : decode b_MO_oneRound 145 = .ok (.goto 4, 3) := by decide +kernel
theorem d_MO_oneRound_148 : decode b_MO_oneRound 148 = .ok (.iconst 0, 1) := by decide +kernel
theorem d_MO_oneRound_149 : decode b_MO_oneRound 149 = .ok (.invokestatic 82, 3) := by decide +kernel
theorem d_MO_oneRound_152 : decode b_MO_oneRound 152 = .ok (.iinc 2 1, 3) := by decide +kernel
theorem d_MO_oneRound_155 : decode b_MO_oneRound 155 = .ok (.goto (-67), 3) := by decide +kernel
theorem d_MO_oneRound_158 : decode b_MO_oneRound 158 = .ok (.aload_n 0, 1) := by decide +kernel
theorem d_MO_oneRound_159 : decode b_MO_oneRound 159 = .ok (.getfield 148, 3) := by decide +kernel
theorem d_MO_oneRound_162 : decode b_MO_oneRound 162 = .ok (.ifCond .eq 6, 3) := by decide +kernel
theorem d_MO_oneRound_165 : decode b_MO_oneRound 165 = .ok (.bipush (-5), 2) := by decide +kernel
theorem d_MO_oneRound_167 : decode b_MO_oneRound 167 = .ok (.ireturn, 1) := by decide +kernel
theorem d_MO_oneRound_168 : decode b_MO_oneRound 168 = .ok (.aload_n 0, 1) := by decide +kernel
theorem d_MO_oneRound_169 : decode b_MO_oneRound 169 = .ok (.dup, 1) := by decide +kernel
theorem d_MO_oneRound_170 : decode b_MO_oneRound 170 = .ok (.getfield 92, 3) := by decide +kernel
theorem d_MO_oneRound_173 : decode b_MO_oneRound 173 = .ok (.iconst 1, 1) := by decide +kernel
theorem d_MO_oneRound_174 : decode b_MO_oneRound 174 = .ok (.iadd, 1) := by decide +kernel
theorem d_MO_oneRound_175 : decode b_MO_oneRound 175 = .ok (.putfield 92, 3) := by decide +kernel
theorem d_MO_oneRound_178 : decode b_MO_oneRound 178 = .ok (.aload_n 0, 1) := by decide +kernel
theorem d_MO_oneRound_179 : decode b_MO_oneRound 179 = .ok (.dup, 1) := by decide +kernel
theorem d_MO_oneRound_180 : decode b_MO_oneRound 180 = .ok (.getfield 79, 3) := by decide +kernel
theorem d_MO_oneRound_183 : decode b_MO_oneRound 183 = .ok (.aload_n 0, 1) := by decide +kernel
theorem d_MO_oneRound_184 : decode b_MO_oneRound 184 = .ok (.getfield 151, 3) := by decide +kernel
theorem d_MO_oneRound_187 : decode b_MO_oneRound 187 = .ok (.iadd, 1) := by decide +kernel
theorem d_MO_oneRound_188 : decode b_MO_oneRound 188 = .ok (.putfield 79, 3) := by decide +kernel
theorem d_MO_oneRound_191 : decode b_MO_oneRound 191 = .ok (.aload_n 0, 1) := by decide +kernel
theorem d_MO_oneRound_192 : decode b_MO_oneRound 192 = .ok (.dup, 1) := by decide +kernel
theorem d_MO_oneRound_193 : decode b_MO_oneRound 193 = .ok (.getfield 89, 3) := by decide +kernel
theorem d_MO_oneRound_196 : decode b_MO_oneRound 196 = .ok (.aload_n 0, 1) := by decide +kernel
theorem d_MO_oneRound_197 : decode b_MO_oneRound 197 = .ok (.getfield 151, 3) := by decide +kernel
theorem d_MO_oneRound_200 : decode b_MO_oneRound 200 = .ok (.ifCond .ne 7, 3) := by decide +kernel
theorem d_MO_oneRound_203 : decode b_MO_oneRound 203 = .ok (.iconst 1, 1) := by decide +kernel
theorem d_MO_oneRound_204 : decode b_MO_oneRound 204 = .ok (.goto 4, 3) := by decide +kernel
theorem d_MO_oneRound_207 : decode b_MO_oneRound 207 = .ok (.iconst 0, 1) := by decide +kernel
theorem d_MO_oneRound_208 : decode b_MO_oneRound 208 = .ok (.iadd, 1) := by decide +kernel
theorem d_MO_oneRound_209 : decode b_MO_oneRound 209 = .ok (.putfield 89, 3) := by decide +kernel
theorem d_MO_oneRound_212 : decode b_MO_oneRound 212 = .ok (.aload_n 0, 1) := by decide +kernel
theorem d_MO_oneRound_213 : decode b_MO_oneRound 213 = .ok (.getfield 151, 3) := by decide +kernel
theorem d_MO_oneRound_216 : decode b_MO_oneRound 216 = .ok (.ireturn, 1) := by decide +kernel
theorem d_MO_step_0 : decode b_MO_step 0 = .ok (.aload_n 0, 1) := by decide +kernel
theorem d_MO_step_1 : decode b_MO_step 1 = .ok (.iconst 0, 1) := by decide +kernel
theorem d_MO_step_2 : decode b_MO_step 2 = .ok (.putfield 72, 3) := by decide +kernel
theorem d_MO_step_5 : decode b_MO_step 5 = .ok (.aload_n 0, 1) := by decide +kernel
theorem d_MO_step_6 : decode b_MO_step 6 = .ok (.invokevirtual 173, 3) := by decide +kernel
theorem d_MO_step_9 : decode b_MO_step 9 = .ok (.ireturn, 1) := by decide +kernel
theorem d_MO_run_0 : decode b_MO_run 0 = .ok (.aload_n 0, 1) := by decide +kernel
theorem d_MO_run_1 : decode b_MO_run 1 = .ok (.iconst 0, 1) := by decide +kernel
theorem d_MO_run_2 : decode b_MO_run 2 = .ok (.putfield 72, 3) := by decide +kernel
theorem d_MO_run_5 : decode b_MO_run 5 = .ok (.iconst 0, 1) := by decide +kernel
theorem d_MO_run_6 : decode b_MO_run 6 = .ok (.istore_n 1, 1) := by decide +kernel
theorem d_MO_run_7 : decode b_MO_run 7 = .ok (.iload_n 1, 1) := by decide +kernel
theorem d_MO_run_8 : decode b_MO_run 8 = .ok (.ifCond .lt 11, 3) := by decide +kernel
theorem d_MO_run_11 : decode b_MO_run 11 = .ok (.aload_n 0, 1) := by decide +kernel
theorem d_MO_run_12 : decode b_MO_run 12 = .ok (.invokevirtual 173, 3) := by decide +kernel
theorem d_MO_run_15 : decode b_MO_run 15 = .ok (.istore_n 1, 1) := by decide +kernel
theorem d_MO_run_16 : decode b_MO_run 16 = .ok (.goto (-9), 3) := by decide +kernel
theorem d_MO_run_19 : decode b_MO_run 19 = .ok (.iload_n 1, 1) := by decide +kernel
theorem d_MO_run_20 : decode b_MO_run 20 = .ok (.bipush (-4), 2) := by decide +kernel
theorem d_MO_run_22 : decode b_MO_run 22 = .ok (.if_icmp .ne 15, 3) := by decide +kernel
theorem d_MO_run_25 : decode b_MO_run 25 = .ok (.aload_n 0, 1) := by decide +kernel
theorem d_MO_run_26 : decode b_MO_run 26 = .ok (.getfield 79, 3) := by decide +kernel
theorem d_MO_run_29 : decode b_MO_run 29 = .ok (.aload_n 0, 1) := by decide +kernel
theorem d_MO_run_30 : decode b_MO_run 30 = .ok (.getfield 86, 3) := by decide +kernel
theorem d_MO_run_33 : decode b_MO_run 33 = .ok (.isub, 1) := by decide +kernel
theorem d_MO_run_34 : decode b_MO_run 34 = .ok (.goto 4, 3) := by decide +kernel
theorem d_MO_run_37 : decode b_MO_run 37 = .ok (.iload_n 1, 1) := by decide +kernel
theorem d_MO_run_38 : decode b_MO_run 38 = .ok (.ireturn, 1) := by decide +kernel
theorem d_MO_rounds_0 : decode b_MO_rounds 0 = .ok (.aload_n 0, 1) := by decide +kernel
theorem d_MO_rounds_1 : decode b_MO_rounds 1 = .ok (.iconst 0, 1) := by decide +kernel
theorem d_MO_rounds_2 : decode b_MO_rounds 2 = .ok (.putfield 72, 3) := by decide +kernel
theorem d_MO_rounds_5 : decode b_MO_rounds 5 = .ok (.aload_n 0, 1) := by decide +kernel
theorem d_MO_rounds_6 : decode b_MO_rounds 6 = .ok (.getfield 92, 3) := by decide +kernel
theorem d_MO_rounds_9 : decode b_MO_rounds 9 = .ok (.ireturn, 1) := by decide +kernel
theorem d_MO_count_0 : decode b_MO_count 0 = .ok (.aload_n 0, 1) := by decide +kernel
theorem d_MO_count_1 : decode b_MO_count 1 = .ok (.iload_n 1, 1) := by decide +kernel
theorem d_MO_count_2 : decode b_MO_count 2 = .ok (.ifCond .lt 11, 3) := by decide +kernel
theorem d_MO_count_5 : decode b_MO_count 5 = .ok (.iload_n 1, 1) := by decide +kernel
theorem d_MO_count_6 : decode b_MO_count 6 = .ok (.aload_n 0, 1) := by decide +kernel
theorem d_MO_count_7 : decode b_MO_count 7 = .ok (.getfield 76, 3) := by decide +kernel
theorem d_MO_count_10 : decode b_MO_count 10 = .ok (.if_icmp .lt 7, 3) := by decide +kernel
theorem d_MO_count_13 : decode b_MO_count 13 = .ok (.iconst 1, 1) := by decide +kernel
theorem d_MO_count_14 : decode b_MO_count 14 = .ok (.goto 4, 3) := by decide +kernel
theorem d_MO_count_17 : decode b_MO_count 17 = .ok (.iconst 0, 1) := by decide +kernel
theorem d_MO_count_18 : decode b_MO_count 18 = .ok (.putfield 72, 3) := by decide +kernel
theorem d_MO_count_21 : decode b_MO_count 21 = .ok (.iconst 0, 1) := by decide +kernel
theorem d_MO_count_22 : decode b_MO_count 22 = .ok (.istore_n 2, 1) := by decide +kernel
theorem d_MO_count_23 : decode b_MO_count 23 = .ok (.iconst 0, 1) := by decide +kernel
theorem d_MO_count_24 : decode b_MO_count 24 = .ok (.istore_n 3, 1) := by decide +kernel
theorem d_MO_count_25 : decode b_MO_count 25 = .ok (.iload_n 3, 1) := by decide +kernel
theorem d_MO_count_26 : decode b_MO_count 26 = .ok (.aload_n 0, 1) := by decide +kernel
theorem d_MO_count_27 : decode b_MO_count 27 = .ok (.getfield 79, 3) := by decide +kernel
theorem d_MO_count_30 : decode b_MO_count 30 = .ok (.if_icmp .ge 27, 3) := by decide +kernel
theorem d_MO_count_33 : decode b_MO_count 33 = .ok (.iload_n 2, 1) := by decide +kernel
theorem d_MO_count_34 : decode b_MO_count 34 = .ok (.aload_n 0, 1) := by decide +kernel
theorem d_MO_count_35 : decode b_MO_count 35 = .ok (.getfield 22, 3) := by decide +kernel
theorem d_MO_count_38 : decode b_MO_count 38 = .ok (.iload_n 3, 1) := by decide +kernel
theorem d_MO_count_39 : decode b_MO_count 39 = .ok (.iaload, 1) := by decide +kernel
theorem d_MO_count_40 : decode b_MO_count 40 = .ok (.iload_n 1, 1) := by decide +kernel
theorem d_MO_count_41 : decode b_MO_count 41 = .ok (.if_icmp .ne 7, 3) := by decide +kernel
theorem d_MO_count_44 : decode b_MO_count 44 = .ok (.iconst 1, 1) := by decide +kernel
theorem d_MO_count_45 : decode b_MO_count 45 = .ok (.goto 4, 3) := by decide +kernel
theorem d_MO_count_48 : decode b_MO_count 48 = .ok (.iconst 0, 1) := by decide +kernel
theorem d_MO_count_49 : decode b_MO_count 49 = .ok (.iadd, 1) := by decide +kernel
theorem d_MO_count_50 : decode b_MO_count 50 = .ok (.istore_n 2, 1) := by decide +kernel
theorem d_MO_count_51 : decode b_MO_count 51 = .ok (.iinc 3 1, 3) := by decide +kernel
theorem d_MO_count_54 : decode b_MO_count 54 = .ok (.goto (-29), 3) := by decide +kernel
theorem d_MO_count_57 : decode b_MO_count 57 = .ok (.aload_n 0, 1) := by decide +kernel
theorem d_MO_count_58 : decode b_MO_count 58 = .ok (.getfield 72, 3) := by decide +kernel
theorem d_MO_count_61 : decode b_MO_count 61 = .ok (.ifCond .le 7, 3) := by decide +kernel
theorem d_MO_count_64 : decode b_MO_count 64 = .ok (.iconst 0, 1) := by decide +kernel
theorem d_MO_count_65 : decode b_MO_count 65 = .ok (.goto 4, 3) := by decide +kernel
theorem d_MO_count_68 : decode b_MO_count 68 = .ok (.iload_n 2, 1) := by decide +kernel
theorem d_MO_count_69 : decode b_MO_count 69 = .ok (.ireturn, 1) := by decide +kernel
theorem d_MO_has_0 : decode b_MO_has 0 = .ok (.aload_n 0, 1) := by decide +kernel
theorem d_MO_has_1 : decode b_MO_has 1 = .ok (.aload_n 0, 1) := by decide +kernel
theorem d_MO_has_2 : decode b_MO_has 2 = .ok (.iload_n 1, 1) := by decide +kernel
theorem d_MO_has_3 : decode b_MO_has 3 = .ok (.iload_n 2, 1) := by decide +kernel
theorem d_MO_has_4 : decode b_MO_has 4 = .ok (.iload_n 3, 1) := by decide +kernel
theorem d_MO_has_5 : decode b_MO_has 5 = .ok (.iload 4, 2) := by decide +kernel
theorem d_MO_has_7 : decode b_MO_has 7 = .ok (.bipush 64, 2) := by decide +kernel
theorem d_MO_has_9 : decode b_MO_has 9 = .ok (.invokevirtual 100, 3) := by decide +kernel
theorem d_MO_has_12 : decode b_MO_has 12 = .ok (.ifCond .eq 7, 3) := by decide +kernel
theorem d_MO_has_15 : decode b_MO_has 15 = .ok (.iconst 0, 1) := by decide +kernel
theorem d_MO_has_16 : decode b_MO_has 16 = .ok (.goto 4, 3) := by decide +kernel
theorem d_MO_has_19 : decode b_MO_has 19 = .ok (.iconst 1, 1) := by decide +kernel
theorem d_MO_has_20 : decode b_MO_has 20 = .ok (.putfield 72, 3) := by decide +kernel
theorem d_MO_has_23 : decode b_MO_has 23 = .ok (.aload_n 0, 1) := by decide +kernel
theorem d_MO_has_24 : decode b_MO_has 24 = .ok (.getfield 72, 3) := by decide +kernel
theorem d_MO_has_27 : decode b_MO_has 27 = .ok (.ifCond .ne 22, 3) := by decide +kernel
theorem d_MO_has_30 : decode b_MO_has 30 = .ok (.aload_n 0, 1) := by decide +kernel
theorem d_MO_has_31 : decode b_MO_has 31 = .ok (.iload_n 1, 1) := by decide +kernel
theorem d_MO_has_32 : decode b_MO_has 32 = .ok (.iload_n 2, 1) := by decide +kernel
theorem d_MO_has_33 : decode b_MO_has 33 = .ok (.iload_n 3, 1) := by decide +kernel
theorem d_MO_has_34 : decode b_MO_has 34 = .ok (.iload 4, 2) := by decide +kernel
theorem d_MO_has_36 : decode b_MO_has 36 = .ok (.invokestatic 104, 3) := by decide +kernel
theorem d_MO_has_39 : decode b_MO_has 39 = .ok (.invokevirtual 144, 3) := by decide +kernel
theorem d_MO_has_42 : decode b_MO_has 42 = .ok (.ifCond .eq 7, 3) := by decide +kernel
theorem d_MO_has_45 : decode b_MO_has 45 = .ok (.iconst 1, 1) := by decide +kernel
theorem d_MO_has_46 : decode b_MO_has 46 = .ok (.goto 4, 3) := by decide +kernel
theorem d_MO_has_49 : decode b_MO_has 49 = .ok (.iconst 0, 1) := by decide +kernel
theorem d_MO_has_50 : decode b_MO_has 50 = .ok (.ireturn, 1) := by decide +kernel
theorem d_MO_tuple_0 : decode b_MO_tuple 0 = .ok (.iconst (-1), 1) := by decide +kernel
theorem d_MO_tuple_1 : decode b_MO_tuple 1 = .ok (.istore 4, 2) := by decide +kernel
theorem d_MO_tuple_3 : decode b_MO_tuple 3 = .ok (.iconst 0, 1) := by decide +kernel
theorem d_MO_tuple_4 : decode b_MO_tuple 4 = .ok (.istore 5, 2) := by decide +kernel
theorem d_MO_tuple_6 : decode b_MO_tuple 6 = .ok (.iload 5, 2) := by decide +kernel
theorem d_MO_tuple_8 : decode b_MO_tuple 8 = .ok (.aload_n 0, 1) := by decide +kernel
theorem d_MO_tuple_9 : decode b_MO_tuple 9 = .ok (.getfield 79, 3) := by decide +kernel
theorem d_MO_tuple_12 : decode b_MO_tuple 12 = .ok (.if_icmp .ge 94, 3) := by decide +kernel
theorem d_MO_tuple_15 : decode b_MO_tuple 15 = .ok (.iconst 0, 1) := by decide +kernel
theorem d_MO_tuple_16 : decode b_MO_tuple 16 = .ok (.istore 6, 2) := by decide +kernel
theorem d_MO_tuple_18 : decode b_MO_tuple 18 = .ok (.iconst 0, 1) := by decide +kernel
theorem d_MO_tuple_19 : decode b_MO_tuple 19 = .ok (.istore 7, 2) := by decide +kernel
theorem d_MO_tuple_21 : decode b_MO_tuple 21 = .ok (.iload 7, 2) := by decide +kernel
theorem d_MO_tuple_23 : decode b_MO_tuple 23 = .ok (.aload_n 0, 1) := by decide +kernel
theorem d_MO_tuple_24 : decode b_MO_tuple 24 = .ok (.getfield 79, 3) := by decide +kernel
theorem d_MO_tuple_27 : decode b_MO_tuple 27 = .ok (.if_icmp .ge 47, 3) := by decide +kernel
theorem d_MO_tuple_30 : decode b_MO_tuple 30 = .ok (.iload 6, 2) := by decide +kernel
theorem d_MO_tuple_32 : decode b_MO_tuple 32 = .ok (.aload_n 0, 1) := by decide +kernel
theorem d_MO_tuple_33 : decode b_MO_tuple 33 = .ok (.getfield 22, 3) := by decide +kernel
theorem d_MO_tuple_36 : decode b_MO_tuple 36 = .ok (.iload 7, 2) := by decide +kernel
theorem d_MO_tuple_38 : decode b_MO_tuple 38 = .ok (.iaload, 1) := by decide +kernel
theorem d_MO_tuple_39 : decode b_MO_tuple 39 = .ok (.iload_n 1, 1) := by decide +kernel
theorem d_MO_tuple_40 : decode b_MO_tuple 40 = .ok (.if_icmp .ne 24, 3) := by decide +kernel
theorem d_MO_tuple_43 : decode b_MO_tuple 43 = .ok (.aload_n 0, 1) := by decide +kernel
theorem d_MO_tuple_44 : decode b_MO_tuple 44 = .ok (.getfield 25, 3) := by decide +kernel
theorem d_MO_tuple_47 : decode b_MO_tuple 47 = .ok (.iload 7, 2) := by decide +kernel
theorem d_MO_tuple_49 : decode b_MO_tuple 49 = .ok (.iaload, 1) := by decide +kernel
theorem d_MO_tuple_50 : decode b_MO_tuple 50 = .ok (.aload_n 0, 1) := by decide +kernel
theorem d_MO_tuple_51 : decode b_MO_tuple 51 = .ok (.getfield 25, 3) := by decide +kernel
theorem d_MO_tuple_54 : decode b_MO_tuple 54 = .ok (.iload 5, 2) := by decide +kernel
theorem d_MO_tuple_56 : decode b_MO_tuple 56 = .ok (.iaload, 1) := by decide +kernel
theorem d_MO_tuple_57 : decode b_MO_tuple 57 = .ok (.if_icmp .ge 7, 3) := by decide +kernel
theorem d_MO_tuple_60 : decode b_MO_tuple 60 = .ok (.iconst 1, 1) := by decide +kernel
theorem d_MO_tuple_61 : decode b_MO_tuple 61 = .ok (.goto 4, 3) := by decide +kernel
theorem d_MO_tuple_64 : decode b_MO_tuple 64 = .ok (.iconst 0, 1) := by decide +kernel
theorem d_MO_tuple_65 : decode b_MO_tuple 65 = .ok (.iadd, 1) := by decide +kernel
theorem d_MO_tuple_66 : decode b_MO_tuple 66 = .ok (.istore 6, 2) := by decide +kernel
theorem d_MO_tuple_68 : decode b_MO_tuple 68 = .ok (.iinc 7 1, 3) := by decide +kernel
theorem d_MO_tuple_71 : decode b_MO_tuple 71 = .ok (.goto (-50), 3) := by decide +kernel
theorem d_MO_tuple_74 : decode b_MO_tuple 74 = .ok (.aload_n 0, 1) := by decide +kernel
theorem d_MO_tuple_75 : decode b_MO_tuple 75 = .ok (.getfield 22, 3) := by decide +kernel
theorem d_MO_tuple_78 : decode b_MO_tuple 78 = .ok (.iload 5, 2) := by decide +kernel
theorem d_MO_tuple_80 : decode b_MO_tuple 80 = .ok (.iaload, 1) := by decide +kernel
theorem d_MO_tuple_81 : decode b_MO_tuple 81 = .ok (.iload_n 1, 1) := by decide +kernel
theorem d_MO_tuple_82 : decode b_MO_tuple 82 = .ok (.if_icmp .ne 14, 3) := by decide +kernel
theorem d_MO_tuple_85 : decode b_MO_tuple 85 = .ok (.iload 6, 2) := by decide +kernel
theorem d_MO_tuple_87 : decode b_MO_tuple 87 = .ok (.iload_n 2, 1) := by decide +kernel
theorem d_MO_tuple_88 : decode b_MO_tuple 88 = .ok (.if_icmp .ne 8, 3) := by decide +kernel
theorem d_MO_tuple_91 : decode b_MO_tuple 91 = .ok (.iload 5, 2) := by decide +kernel
theorem d_MO_tuple_93 : decode b_MO_tuple 93 = .ok (.goto 5, 3) := by decide +kernel
theorem d_MO_tuple_96 : decode b_MO_tuple 96 = .ok (.iload 4, 2) := by decide +kernel
theorem d_MO_tuple_98 : decode b_MO_tuple 98 = .ok (.istore 4, 2) := by decide +kernel
theorem d_MO_tuple_100 : decode b_MO_tuple 100 = .ok (.iinc 5 1, 3) := by decide +kernel
theorem d_MO_tuple_103 : decode b_MO_tuple 103 = .ok (.goto (-97), 3) := by decide +kernel
theorem d_MO_tuple_106 : decode b_MO_tuple 106 = .ok (.aload_n 0, 1) := by decide +kernel
theorem d_MO_tuple_107 : decode b_MO_tuple 107 = .ok (.iload_n 1, 1) := by decide +kernel
theorem d_MO_tuple_108 : decode b_MO_tuple 108 = .ok (.ifCond .lt 25, 3) := by decide +kernel
theorem d_MO_tuple_111 : decode b_MO_tuple 111 = .ok (.iload_n 1, 1) := by decide +kernel
theorem d_MO_tuple_112 : decode b_MO_tuple 112 = .ok (.aload_n 0, 1) := by decide +kernel
theorem d_MO_tuple_113 : decode b_MO_tuple 113 = .ok (.getfield 76, 3) := by decide +kernel
theorem d_MO_tuple_116 : decode b_MO_tuple 116 = .ok (.if_icmp .ge 17, 3) := by decide +kernel
theorem d_MO_tuple_119 : decode b_MO_tuple 119 = .ok (.iload 4, 2) := by decide +kernel
theorem d_MO_tuple_121 : decode b_MO_tuple 121 = .ok (.ifCond .lt 12, 3) := by decide +kernel
theorem d_MO_tuple_124 : decode b_MO_tuple 124 = .ok (.iload_n 3, 1) := by decide +kernel
theorem d_MO_tuple_125 : decode b_MO_tuple 125 = .ok (.ifCond .lt 8, 3) := by decide +kernel
theorem d_MO_tuple_128 : decode b_MO_tuple 128 = .ok (.iload_n 3, 1) := by decide +kernel
theorem d_MO_tuple_129 : decode b_MO_tuple 129 = .ok (.iconst 4, 1) := by decide +kernel
theorem d_MO_tuple_130 : decode b_MO_tuple 130 = .ok (.if_icmp .le 7, 3) := by decide +kernel
theorem d_MO_tuple_133 : decode b_MO_tuple 133 = .ok (.iconst 1, 1) := by decide +kernel
theorem d_MO_tuple_134 : decode b_MO_tuple 134 = .ok (.goto 4, 3) := by decide +kernel
theorem d_MO_tuple_137 : decode b_MO_tuple 137 = .ok (.iconst 0, 1) := by decide +kernel
theorem d_MO_tuple_138 : decode b_MO_tuple 138 = .ok (.putfield 72, 3) := by decide +kernel
theorem d_MO_tuple_141 : decode b_MO_tuple 141 = .ok (.aload_n 0, 1) := by decide +kernel
theorem d_MO_tuple_142 : decode b_MO_tuple 142 = .ok (.getfield 72, 3) := by decide +kernel
theorem d_MO_tuple_145 : decode b_MO_tuple 145 = .ok (.ifCond .le 5, 3) := by decide +kernel
theorem d_MO_tuple_148 : decode b_MO_tuple 148 = .ok (.iconst 0, 1) := by decide +kernel
theorem d_MO_tuple_149 : decode b_MO_tuple 149 = .ok (.ireturn, 1) := by decide +kernel
theorem d_MO_tuple_150 : decode b_MO_tuple 150 = .ok (.iload_n 3, 1) := by decide +kernel
theorem d_MO_tuple_151 : decode b_MO_tuple 151 = .ok (.tableswitch 74 0 3 #[29, 41, 55, 66], 29) := by decide +kernel
theorem d_MO_tuple_180 : decode b_MO_tuple 180 = .ok (.aload_n 0, 1) := by decide +kernel
theorem d_MO_tuple_181 : decode b_MO_tuple 181 = .ok (.getfield 25, 3) := by decide +kernel
theorem d_MO_tuple_184 : decode b_MO_tuple 184 = .ok (.iload 4, 2) := by decide +kernel
theorem d_MO_tuple_186 : decode b_MO_tuple 186 = .ok (.iaload, 1) := by decide +kernel
theorem d_MO_tuple_187 : decode b_MO_tuple 187 = .ok (.sipush 4096, 3) := by decide +kernel
theorem d_MO_tuple_190 : decode b_MO_tuple 190 = .ok (.idiv, 1) := by decide +kernel
theorem d_MO_tuple_191 : decode b_MO_tuple 191 = .ok (.ireturn, 1) := by decide +kernel
theorem d_MO_tuple_192 : decode b_MO_tuple 192 = .ok (.aload_n 0, 1) := by decide +kernel
theorem d_MO_tuple_193 : decode b_MO_tuple 193 = .ok (.getfield 25, 3) := by decide +kernel
theorem d_MO_tuple_196 : decode b_MO_tuple 196 = .ok (.iload 4, 2) := by decide +kernel
theorem d_MO_tuple_198 : decode b_MO_tuple 198 = .ok (.iaload, 1) := by decide +kernel
theorem d_MO_tuple_199 : decode b_MO_tuple 199 = .ok (.bipush 64, 2) := by decide +kernel
theorem d_MO_tuple_201 : decode b_MO_tuple 201 = .ok (.idiv, 1) := by decide +kernel
theorem d_MO_tuple_202 : decode b_MO_tuple 202 = .ok (.bipush 64, 2) := by decide +kernel
theorem d_MO_tuple_204 : decode b_MO_tuple 204 = .ok (.irem, 1) := by decide +kernel
theorem d_MO_tuple_205 : decode b_MO_tuple 205 = .ok (.ireturn, 1) := by decide +kernel
theorem d_MO_tuple_206 : decode b_MO_tuple 206 = .ok (.aload_n 0, 1) := by decide +kernel
theorem d_MO_tuple_207 : decode b_MO_tuple 207 = .ok (.getfield 25, 3) := by decide +kernel
theorem d_MO_tuple_210 : decode b_MO_tuple 210 = .ok (.iload 4, 2) := by decide +kernel
theorem d_MO_tuple_212 : decode b_MO_tuple 212 = .ok (.iaload, 1) := by decide +kernel
theorem d_MO_tuple_213 : decode b_MO_tuple 213 = .ok (.bipush 64, 2) := by decide +kernel
theorem d_MO_tuple_215 : decode b_MO_tuple 215 = .ok (.irem, 1) := by decide +kernel
theorem d_MO_tuple_216 : decode b_MO_tuple 216 = .ok (.ireturn, 1) := by decide +kernel
theorem d_MO_tuple_217 : decode b_MO_tuple 217 = .ok (.aload_n 0, 1) := by decide +kernel
theorem d_MO_tuple_218 : decode b_MO_tuple 218 = .ok (.getfield 28, 3) := by decide +kernel
theorem d_MO_tuple_221 : decode b_MO_tuple 221 = .ok (.iload 4, 2) := by decide +kernel
theorem d_MO_tuple_223 : decode b_MO_tuple 223 = .ok (.iaload, 1) := by decide +kernel
theorem d_MO_tuple_224 : decode b_MO_tuple 224 = .ok (.ireturn, 1) := by decide +kernel
theorem d_MO_tuple_225 : decode b_MO_tuple 225 = .ok (.aload_n 0, 1) := by decide +kernel
theorem d_MO_tuple_226 : decode b_MO_tuple 226 = .ok (.getfield 31, 3) := by decide +kernel
theorem d_MO_tuple_229 : decode b_MO_tuple 229 = .ok (.iload 4, 2) := by decide +kernel
theorem d_MO_tuple_231 : decode b_MO_tuple 231 = .ok (.iaload, 1) := by decide +kernel
theorem d_MO_tuple_232 : decode b_MO_tuple 232 = .ok (.ireturn, 1) := by decide +kernel
theorem d_MO_like_0 : decode b_MO_like 0 = .ok (.aload_n 0, 1) := by decide +kernel
theorem d_MO_like_1 : decode b_MO_like 1 = .ok (.aload_n 0, 1) := by decide +kernel
theorem d_MO_like_2 : decode b_MO_like 2 = .ok (.iload_n 1, 1) := by decide +kernel
theorem d_MO_like_3 : decode b_MO_like 3 = .ok (.iload_n 2, 1) := by decide +kernel
theorem d_MO_like_4 : decode b_MO_like 4 = .ok (.iload_n 3, 1) := by decide +kernel
theorem d_MO_like_5 : decode b_MO_like 5 = .ok (.iload 4, 2) := by decide +kernel
theorem d_MO_like_7 : decode b_MO_like 7 = .ok (.bipush 72, 2) := by decide +kernel
theorem d_MO_like_9 : decode b_MO_like 9 = .ok (.invokevirtual 100, 3) := by decide +kernel
theorem d_MO_like_12 : decode b_MO_like 12 = .ok (.ifCond .eq 7, 3) := by decide +kernel
theorem d_MO_like_15 : decode b_MO_like 15 = .ok (.iconst 0, 1) := by decide +kernel
theorem d_MO_like_16 : decode b_MO_like 16 = .ok (.goto 4, 3) := by decide +kernel
theorem d_MO_like_19 : decode b_MO_like 19 = .ok (.iconst 1, 1) := by decide +kernel
theorem d_MO_like_20 : decode b_MO_like 20 = .ok (.putfield 72, 3) := by decide +kernel
theorem d_MO_like_23 : decode b_MO_like 23 = .ok (.iconst 0, 1) := by decide +kernel
theorem d_MO_like_24 : decode b_MO_like 24 = .ok (.istore 5, 2) := by decide +kernel
theorem d_MO_like_26 : decode b_MO_like 26 = .ok (.iconst 0, 1) := by decide +kernel
theorem d_MO_like_27 : decode b_MO_like 27 = .ok (.istore 6, 2) := by decide +kernel
theorem d_MO_like_29 : decode b_MO_like 29 = .ok (.iload 6, 2) := by decide +kernel
theorem d_MO_like_31 : decode b_MO_like 31 = .ok (.aload_n 0, 1) := by decide +kernel
theorem d_MO_like_32 : decode b_MO_like 32 = .ok (.getfield 79, 3) := by decide +kernel
theorem d_MO_like_35 : decode b_MO_like 35 = .ok (.if_icmp .ge 195, 3) := by decide +kernel
theorem d_MO_like_38 : decode b_MO_like 38 = .ok (.aload_n 0, 1) := by decide +kernel
theorem d_MO_like_39 : decode b_MO_like 39 = .ok (.getfield 72, 3) := by decide +kernel
theorem d_MO_like_42 : decode b_MO_like 42 = .ok (.ifCond .ne 188, 3) := by decide +kernel
theorem d_MO_like_45 : decode b_MO_like 45 = .ok (.aload_n 0, 1) := by decide +kernel
theorem d_MO_like_46 : decode b_MO_like 46 = .ok (.getfield 25, 3) := by decide +kernel
theorem d_MO_like_49 : decode b_MO_like 49 = .ok (.iload 6, 2) := by decide +kernel
theorem d_MO_like_51 : decode b_MO_like 51 = .ok (.iaload, 1) := by decide +kernel
theorem d_MO_like_52 : decode b_MO_like 52 = .ok (.sipush 4096, 3) := by decide +kernel
theorem d_MO_like_55 : decode b_MO_like 55 = .ok (.idiv, 1) := by decide +kernel
theorem d_MO_like_56 : decode b_MO_like 56 = .ok (.istore 7, 2) := by decide +kernel
theorem d_MO_like_58 : decode b_MO_like 58 = .ok (.aload_n 0, 1) := by decide +kernel
theorem d_MO_like_59 : decode b_MO_like 59 = .ok (.getfield 25, 3) := by decide +kernel
theorem d_MO_like_62 : decode b_MO_like 62 = .ok (.iload 6, 2) := by decide +kernel
theorem d_MO_like_64 : decode b_MO_like 64 = .ok (.iaload, 1) := by decide +kernel
theorem d_MO_like_65 : decode b_MO_like 65 = .ok (.bipush 64, 2) := by decide +kernel
theorem d_MO_like_67 : decode b_MO_like 67 = .ok (.idiv, 1) := by decide +kernel
theorem d_MO_like_68 : decode b_MO_like 68 = .ok (.bipush 64, 2) := by decide +kernel
theorem d_MO_like_70 : decode b_MO_like 70 = .ok (.irem, 1) := by decide +kernel
theorem d_MO_like_71 : decode b_MO_like 71 = .ok (.istore 8, 2) := by decide +kernel
theorem d_MO_like_73 : decode b_MO_like 73 = .ok (.aload_n 0, 1) := by decide +kernel
theorem d_MO_like_74 : decode b_MO_like 74 = .ok (.getfield 25, 3) := by decide +kernel
theorem d_MO_like_77 : decode b_MO_like 77 = .ok (.iload 6, 2) := by decide +kernel
theorem d_MO_like_79 : decode b_MO_like 79 = .ok (.iaload, 1) := by decide +kernel
theorem d_MO_like_80 : decode b_MO_like 80 = .ok (.bipush 64, 2) := by decide +kernel
theorem d_MO_like_82 : decode b_MO_like 82 = .ok (.irem, 1) := by decide +kernel
theorem d_MO_like_83 : decode b_MO_like 83 = .ok (.istore 9, 2) := by decide +kernel
theorem d_MO_like_85 : decode b_MO_like 85 = .ok (.aload_n 0, 1) := by decide +kernel
theorem d_MO_like_86 : decode b_MO_like 86 = .ok (.getfield 22, 3) := by decide +kernel
theorem d_MO_like_89 : decode b_MO_like 89 = .ok (.iload 6, 2) := by decide +kernel
theorem d_MO_like_91 : decode b_MO_like 91 = .ok (.iaload, 1) := by decide +kernel
theorem d_MO_like_92 : decode b_MO_like 92 = .ok (.iload_n 1, 1) := by decide +kernel
theorem d_MO_like_93 : decode b_MO_like 93 = .ok (.if_icmp .ne 45, 3) := by decide +kernel
theorem d_MO_like_96 : decode b_MO_like 96 = .ok (.iload_n 2, 1) := by decide +kernel
theorem d_MO_like_97 : decode b_MO_like 97 = .ok (.bipush 63, 2) := by decide +kernel
theorem d_MO_like_99 : decode b_MO_like 99 = .ok (.if_icmp .gt 9, 3) := by decide +kernel
theorem d_MO_like_102 : decode b_MO_like 102 = .ok (.iload_n 2, 1) := by decide +kernel
theorem d_MO_like_103 : decode b_MO_like 103 = .ok (.iload 7, 2) := by decide +kernel
theorem d_MO_like_105 : decode b_MO_like 105 = .ok (.if_icmp .ne 33, 3) := by decide +kernel
theorem d_MO_like_108 : decode b_MO_like 108 = .ok (.iload_n 3, 1) := by decide +kernel
theorem d_MO_like_109 : decode b_MO_like 109 = .ok (.bipush 63, 2) := by decide +kernel
theorem d_MO_like_111 : decode b_MO_like 111 = .ok (.if_icmp .gt 9, 3) := by decide +kernel
theorem d_MO_like_114 : decode b_MO_like 114 = .ok (.iload_n 3, 1) := by decide +kernel
theorem d_MO_like_115 : decode b_MO_like 115 = .ok (.iload 8, 2) := by decide +kernel
theorem d_MO_like_117 : decode b_MO_like 117 = .ok (.if_icmp .ne 21, 3) := by decide +kernel
theorem d_MO_like_120 : decode b_MO_like 120 = .ok (.iload 4, 2) := by decide +kernel
theorem d_MO_like_122 : decode b_MO_like 122 = .ok (.bipush 63, 2) := by decide +kernel
theorem d_MO_like_124 : decode b_MO_like 124 = .ok (.if_icmp .gt 10, 3) := by decide +kernel
theorem d_MO_like_127 : decode b_MO_like 127 = .ok (.iload 4, 2) := by decide +kernel
theorem d_MO_like_129 : decode b_MO_like 129 = .ok (.iload 9, 2) := by decide +kernel
theorem d_MO_like_131 : decode b_MO_like 131 = .ok (.if_icmp .ne 7, 3) := by decide +kernel
theorem d_MO_like_134 : decode b_MO_like 134 = .ok (.iconst 1, 1) := by decide +kernel
theorem d_MO_like_135 : decode b_MO_like 135 = .ok (.goto 4, 3) := by decide +kernel
theorem d_MO_like_138 : decode b_MO_like 138 = .ok (.iconst 0, 1) := by decide +kernel
theorem d_MO_like_139 : decode b_MO_like 139 = .ok (.istore 10, 2) := by decide +kernel
theorem d_MO_like_141 : decode b_MO_like 141 = .ok (.iload 10, 2) := by decide +kernel
theorem d_MO_like_143 : decode b_MO_like 143 = .ok (.ifCond .eq 63, 3) := by decide +kernel
theorem d_MO_like_146 : decode b_MO_like 146 = .ok (.iload_n 2, 1) := by decide +kernel
theorem d_MO_like_147 : decode b_MO_like 147 = .ok (.bipush 64, 2) := by decide +kernel
theorem d_MO_like_149 : decode b_MO_like 149 = .ok (.if_icmp .lt 15, 3) := by decide +kernel
theorem d_MO_like_152 : decode b_MO_like 152 = .ok (.iload_n 2, 1) := by decide +kernel
theorem d_MO_like_153 : decode b_MO_like 153 = .ok (.iload_n 3, 1) := by decide +kernel
theorem d_MO_like_154 : decode b_MO_like 154 = .ok (.if_icmp .ne 10, 3) := by decide +kernel
theorem d_MO_like_157 : decode b_MO_like 157 = .ok (.iload 7, 2) := by decide +kernel
theorem d_MO_like_159 : decode b_MO_like 159 = .ok (.iload 8, 2) := by decide +kernel
theorem d_MO_like_161 : decode b_MO_like 161 = .ok (.if_icmp .ne 45, 3) := by decide +kernel
theorem d_MO_like_164 : decode b_MO_like 164 = .ok (.iload_n 2, 1) := by decide +kernel
theorem d_MO_like_165 : decode b_MO_like 165 = .ok (.bipush 64, 2) := by decide +kernel
theorem d_MO_like_167 : decode b_MO_like 167 = .ok (.if_icmp .lt 16, 3) := by decide +kernel
theorem d_MO_like_170 : decode b_MO_like 170 = .ok (.iload_n 2, 1) := by decide +kernel
theorem d_MO_like_171 : decode b_MO_like 171 = .ok (.iload 4, 2) := by decide +kernel
theorem d_MO_like_173 : decode b_MO_like 173 = .ok (.if_icmp .ne 10, 3) := by decide +kernel
theorem d_MO_like_176 : decode b_MO_like 176 = .ok (.iload 7, 2) := by decide +kernel
