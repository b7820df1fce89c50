theorem d_MO_item_193 : decode b_MO_item 193 = .ok (.aload_n 0, 1) := by decide +kernel
theorem d_MO_item_194 : decode b_MO_item 194 = .ok (.getfield 48, 3) := by decide +kernel
theorem d_MO_item_197 : decode b_MO_item 197 = .ok (.bipush 24, 2) := by decide +kernel
theorem d_MO_item_199 : decode b_MO_item 199 = .ok (.iaload, 1) := by decide +kernel
theorem d_MO_item_200 : decode b_MO_item 200 = .ok (.ireturn, 1) := by decide +kernel
theorem d_MO_isHeld_0 : decode b_MO_isHeld 0 = .ok (.iload_n 1, 1) := by decide +kernel
theorem d_MO_isHeld_1 : decode b_MO_isHeld 1 = .ok (.bipush 64, 2) := by decide +kernel
theorem d_MO_isHeld_3 : decode b_MO_isHeld 3 = .ok (.if_icmp .ge 7, 3) := by decide +kernel
theorem d_MO_isHeld_6 : decode b_MO_isHeld 6 = .ok (.iconst 1, 1) := by decide +kernel
theorem d_MO_isHeld_7 : decode b_MO_isHeld 7 = .ok (.goto 4, 3) := by decide +kernel
theorem d_MO_isHeld_10 : decode b_MO_isHeld 10 = .ok (.iconst 0, 1) := by decide +kernel
theorem d_MO_isHeld_11 : decode b_MO_isHeld 11 = .ok (.istore_n 2, 1) := by decide +kernel
theorem d_MO_isHeld_12 : decode b_MO_isHeld 12 = .ok (.iconst 0, 1) := by decide +kernel
theorem d_MO_isHeld_13 : decode b_MO_isHeld 13 = .ok (.istore_n 3, 1) := by decide +kernel
theorem d_MO_isHeld_14 : decode b_MO_isHeld 14 = .ok (.iload_n 3, 1) := by decide +kernel
theorem d_MO_isHeld_15 : decode b_MO_isHeld 15 = .ok (.aload_n 0, 1) := by decide +kernel
theorem d_MO_isHeld_16 : decode b_MO_isHeld 16 = .ok (.getfield 48, 3) := by decide +kernel
theorem d_MO_isHeld_19 : decode b_MO_isHeld 19 = .ok (.bipush 24, 2) := by decide +kernel
theorem d_MO_isHeld_21 : decode b_MO_isHeld 21 = .ok (.iaload, 1) := by decide +kernel
theorem d_MO_isHeld_22 : decode b_MO_isHeld 22 = .ok (.if_icmp .ge 67, 3) := by decide +kernel
theorem d_MO_isHeld_25 : decode b_MO_isHeld 25 = .ok (.sipush 144, 3) := by decide +kernel
theorem d_MO_isHeld_28 : decode b_MO_isHeld 28 = .ok (.iload_n 3, 1) := by decide +kernel
theorem d_MO_isHeld_29 : decode b_MO_isHeld 29 = .ok (.iadd, 1) := by decide +kernel
theorem d_MO_isHeld_30 : decode b_MO_isHeld 30 = .ok (.istore 4, 2) := by decide +kernel
theorem d_MO_isHeld_32 : decode b_MO_isHeld 32 = .ok (.iconst 0, 1) := by decide +kernel
theorem d_MO_isHeld_33 : decode b_MO_isHeld 33 = .ok (.istore 5, 2) := by decide +kernel
theorem d_MO_isHeld_35 : decode b_MO_isHeld 35 = .ok (.iload 5, 2) := by decide +kernel
theorem d_MO_isHeld_37 : decode b_MO_isHeld 37 = .ok (.iconst 3, 1) := by decide +kernel
theorem d_MO_isHeld_38 : decode b_MO_isHeld 38 = .ok (.if_icmp .ge 45, 3) := by decide +kernel
theorem d_MO_isHeld_41 : decode b_MO_isHeld 41 = .ok (.iload_n 2, 1) := by decide +kernel
theorem d_MO_isHeld_42 : decode b_MO_isHeld 42 = .ok (.ifCond .ne 29, 3) := by decide +kernel
theorem d_MO_isHeld_45 : decode b_MO_isHeld 45 = .ok (.aload_n 0, 1) := by decide +kernel
theorem d_MO_isHeld_46 : decode b_MO_isHeld 46 = .ok (.getfield 51, 3) := by decide +kernel
theorem d_MO_isHeld_49 : decode b_MO_isHeld 49 = .ok (.iload 4, 2) := by decide +kernel
theorem d_MO_isHeld_51 : decode b_MO_isHeld 51 = .ok (.iaload, 1) := by decide +kernel
theorem d_MO_isHeld_52 : decode b_MO_isHeld 52 = .ok (.ifCond .ne 23, 3) := by decide +kernel
theorem d_MO_isHeld_55 : decode b_MO_isHeld 55 = .ok (.aload_n 0, 1) := by decide +kernel
theorem d_MO_isHeld_56 : decode b_MO_isHeld 56 = .ok (.getfield 57, 3) := by decide +kernel
theorem d_MO_isHeld_59 : decode b_MO_isHeld 59 = .ok (.iconst 3, 1) := by decide +kernel
theorem d_MO_isHeld_60 : decode b_MO_isHeld 60 = .ok (.iload 4, 2) := by decide +kernel
theorem d_MO_isHeld_62 : decode b_MO_isHeld 62 = .ok (.imul, 1) := by decide +kernel
theorem d_MO_isHeld_63 : decode b_MO_isHeld 63 = .ok (.iload 5, 2) := by decide +kernel
theorem d_MO_isHeld_65 : decode b_MO_isHeld 65 = .ok (.iadd, 1) := by decide +kernel
theorem d_MO_isHeld_66 : decode b_MO_isHeld 66 = .ok (.iaload, 1) := by decide +kernel
theorem d_MO_isHeld_67 : decode b_MO_isHeld 67 = .ok (.iload_n 1, 1) := by decide +kernel
theorem d_MO_isHeld_68 : decode b_MO_isHeld 68 = .ok (.if_icmp .ne 7, 3) := by decide +kernel
theorem d_MO_isHeld_71 : decode b_MO_isHeld 71 = .ok (.iconst 1, 1) := by decide +kernel
theorem d_MO_isHeld_72 : decode b_MO_isHeld 72 = .ok (.goto 4, 3) := by decide +kernel
theorem d_MO_isHeld_75 : decode b_MO_isHeld 75 = .ok (.iconst 0, 1) := by decide +kernel
theorem d_MO_isHeld_76 : decode b_MO_isHeld 76 = .ok (.istore_n 2, 1) := by decide +kernel
theorem d_MO_isHeld_77 : decode b_MO_isHeld 77 = .ok (.iinc 5 1, 3) := by decide +kernel
theorem d_MO_isHeld_80 : decode b_MO_isHeld 80 = .ok (.goto (-45), 3) := by decide +kernel
theorem d_MO_isHeld_83 : decode b_MO_isHeld 83 = .ok (.iinc 3 1, 3) := by decide +kernel
theorem d_MO_isHeld_86 : decode b_MO_isHeld 86 = .ok (.goto (-72), 3) := by decide +kernel
theorem d_MO_isHeld_89 : decode b_MO_isHeld 89 = .ok (.iload_n 2, 1) := by decide +kernel
theorem d_MO_isHeld_90 : decode b_MO_isHeld 90 = .ok (.ireturn, 1) := by decide +kernel
theorem d_MO_rule_0 : decode b_MO_rule 0 = .ok (.aload_n 0, 1) := by decide +kernel
theorem d_MO_rule_1 : decode b_MO_rule 1 = .ok (.aload_n 0, 1) := by decide +kernel
theorem d_MO_rule_2 : decode b_MO_rule 2 = .ok (.getfield 112, 3) := by decide +kernel
theorem d_MO_rule_5 : decode b_MO_rule 5 = .ok (.ifCond .eq 12, 3) := by decide +kernel
theorem d_MO_rule_8 : decode b_MO_rule 8 = .ok (.aload_n 0, 1) := by decide +kernel
theorem d_MO_rule_9 : decode b_MO_rule 9 = .ok (.getfield 123, 3) := by decide +kernel
theorem d_MO_rule_12 : decode b_MO_rule 12 = .ok (.bipush 24, 2) := by decide +kernel
theorem d_MO_rule_14 : decode b_MO_rule 14 = .ok (.if_icmp .ne 7, 3) := by decide +kernel
theorem d_MO_rule_17 : decode b_MO_rule 17 = .ok (.iconst 1, 1) := by decide +kernel
theorem d_MO_rule_18 : decode b_MO_rule 18 = .ok (.goto 4, 3) := by decide +kernel
theorem d_MO_rule_21 : decode b_MO_rule 21 = .ok (.iconst 0, 1) := by decide +kernel
theorem d_MO_rule_22 : decode b_MO_rule 22 = .ok (.putfield 72, 3) := by decide +kernel
theorem d_MO_rule_25 : decode b_MO_rule 25 = .ok (.aload_n 0, 1) := by decide +kernel
theorem d_MO_rule_26 : decode b_MO_rule 26 = .ok (.getfield 72, 3) := by decide +kernel
theorem d_MO_rule_29 : decode b_MO_rule 29 = .ok (.ifCond .le 5, 3) := by decide +kernel
theorem d_MO_rule_32 : decode b_MO_rule 32 = .ok (.iconst 0, 1) := by decide +kernel
theorem d_MO_rule_33 : decode b_MO_rule 33 = .ok (.ireturn, 1) := by decide +kernel
theorem d_MO_rule_34 : decode b_MO_rule 34 = .ok (.iconst 1, 1) := by decide +kernel
theorem d_MO_rule_35 : decode b_MO_rule 35 = .ok (.istore_n 1, 1) := by decide +kernel
theorem d_MO_rule_36 : decode b_MO_rule 36 = .ok (.iconst 0, 1) := by decide +kernel
theorem d_MO_rule_37 : decode b_MO_rule 37 = .ok (.istore_n 2, 1) := by decide +kernel
theorem d_MO_rule_38 : decode b_MO_rule 38 = .ok (.iload_n 2, 1) := by decide +kernel
theorem d_MO_rule_39 : decode b_MO_rule 39 = .ok (.iconst 3, 1) := by decide +kernel
theorem d_MO_rule_40 : decode b_MO_rule 40 = .ok (.if_icmp .ge 85, 3) := by decide +kernel
theorem d_MO_rule_43 : decode b_MO_rule 43 = .ok (.iload_n 1, 1) := by decide +kernel
theorem d_MO_rule_44 : decode b_MO_rule 44 = .ok (.ifCond .eq 23, 3) := by decide +kernel
theorem d_MO_rule_47 : decode b_MO_rule 47 = .ok (.aload_n 0, 1) := by decide +kernel
theorem d_MO_rule_48 : decode b_MO_rule 48 = .ok (.aload_n 0, 1) := by decide +kernel
theorem d_MO_rule_49 : decode b_MO_rule 49 = .ok (.getfield 45, 3) := by decide +kernel
theorem d_MO_rule_52 : decode b_MO_rule 52 = .ok (.bipush 72, 2) := by decide +kernel
theorem d_MO_rule_54 : decode b_MO_rule 54 = .ok (.iload_n 2, 1) := by decide +kernel
theorem d_MO_rule_55 : decode b_MO_rule 55 = .ok (.iadd, 1) := by decide +kernel
theorem d_MO_rule_56 : decode b_MO_rule 56 = .ok (.iaload, 1) := by decide +kernel
theorem d_MO_rule_57 : decode b_MO_rule 57 = .ok (.invokevirtual 126, 3) := by decide +kernel
theorem d_MO_rule_60 : decode b_MO_rule 60 = .ok (.ifCond .eq 7, 3) := by decide +kernel
theorem d_MO_rule_63 : decode b_MO_rule 63 = .ok (.iconst 1, 1) := by decide +kernel
theorem d_MO_rule_64 : decode b_MO_rule 64 = .ok (.goto 4, 3) := by decide +kernel
theorem d_MO_rule_67 : decode b_MO_rule 67 = .ok (.iconst 0, 1) := by decide +kernel
theorem d_MO_rule_68 : decode b_MO_rule 68 = .ok (.istore_n 1, 1) := by decide +kernel
theorem d_MO_rule_69 : decode b_MO_rule 69 = .ok (.iconst 0, 1) := by decide +kernel
theorem d_MO_rule_70 : decode b_MO_rule 70 = .ok (.istore_n 3, 1) := by decide +kernel
theorem d_MO_rule_71 : decode b_MO_rule 71 = .ok (.iload_n 3, 1) := by decide +kernel
theorem d_MO_rule_72 : decode b_MO_rule 72 = .ok (.aload_n 0, 1) := by decide +kernel
theorem d_MO_rule_73 : decode b_MO_rule 73 = .ok (.getfield 48, 3) := by decide +kernel
theorem d_MO_rule_76 : decode b_MO_rule 76 = .ok (.bipush 24, 2) := by decide +kernel
theorem d_MO_rule_78 : decode b_MO_rule 78 = .ok (.iaload, 1) := by decide +kernel
theorem d_MO_rule_79 : decode b_MO_rule 79 = .ok (.if_icmp .ge 40, 3) := by decide +kernel
theorem d_MO_rule_82 : decode b_MO_rule 82 = .ok (.iload_n 1, 1) := by decide +kernel
theorem d_MO_rule_83 : decode b_MO_rule 83 = .ok (.ifCond .eq 28, 3) := by decide +kernel
theorem d_MO_rule_86 : decode b_MO_rule 86 = .ok (.aload_n 0, 1) := by decide +kernel
theorem d_MO_rule_87 : decode b_MO_rule 87 = .ok (.aload_n 0, 1) := by decide +kernel
theorem d_MO_rule_88 : decode b_MO_rule 88 = .ok (.getfield 57, 3) := by decide +kernel
theorem d_MO_rule_91 : decode b_MO_rule 91 = .ok (.iconst 3, 1) := by decide +kernel
theorem d_MO_rule_92 : decode b_MO_rule 92 = .ok (.sipush 144, 3) := by decide +kernel
theorem d_MO_rule_95 : decode b_MO_rule 95 = .ok (.iload_n 3, 1) := by decide +kernel
theorem d_MO_rule_96 : decode b_MO_rule 96 = .ok (.iadd, 1) := by decide +kernel
theorem d_MO_rule_97 : decode b_MO_rule 97 = .ok (.imul, 1) := by decide +kernel
theorem d_MO_rule_98 : decode b_MO_rule 98 = .ok (.iload_n 2, 1) := by decide +kernel
theorem d_MO_rule_99 : decode b_MO_rule 99 = .ok (.iadd, 1) := by decide +kernel
theorem d_MO_rule_100 : decode b_MO_rule 100 = .ok (.iaload, 1) := by decide +kernel
theorem d_MO_rule_101 : decode b_MO_rule 101 = .ok (.invokevirtual 126, 3) := by decide +kernel
theorem d_MO_rule_104 : decode b_MO_rule 104 = .ok (.ifCond .eq 7, 3) := by decide +kernel
theorem d_MO_rule_107 : decode b_MO_rule 107 = .ok (.iconst 1, 1) := by decide +kernel
theorem d_MO_rule_108 : decode b_MO_rule 108 = .ok (.goto 4, 3) := by decide +kernel
theorem d_MO_rule_111 : decode b_MO_rule 111 = .ok (.iconst 0, 1) := by decide +kernel
theorem d_MO_rule_112 : decode b_MO_rule 112 = .ok (.istore_n 1, 1) := by decide +kernel
theorem d_MO_rule_113 : decode b_MO_rule 113 = .ok (.iinc 3 1, 3) := by decide +kernel
theorem d_MO_rule_116 : decode b_MO_rule 116 = .ok (.goto (-45), 3) := by decide +kernel
theorem d_MO_rule_119 : decode b_MO_rule 119 = .ok (.iinc 2 1, 3) := by decide +kernel
theorem d_MO_rule_122 : decode b_MO_rule 122 = .ok (.goto (-84), 3) := by decide +kernel
theorem d_MO_rule_125 : decode b_MO_rule 125 = .ok (.iload_n 1, 1) := by decide +kernel
theorem d_MO_rule_126 : decode b_MO_rule 126 = .ok (.ifCond .ne 6, 3) := by decide +kernel
theorem d_MO_rule_129 : decode b_MO_rule 129 = .ok (.bipush (-2), 2) := by decide +kernel
theorem d_MO_rule_131 : decode b_MO_rule 131 = .ok (.ireturn, 1) := by decide +kernel
theorem d_MO_rule_132 : decode b_MO_rule 132 = .ok (.aload_n 0, 1) := by decide +kernel
theorem d_MO_rule_133 : decode b_MO_rule 133 = .ok (.getfield 42, 3) := by decide +kernel
theorem d_MO_rule_136 : decode b_MO_rule 136 = .ok (.aload_n 0, 1) := by decide +kernel
theorem d_MO_rule_137 : decode b_MO_rule 137 = .ok (.getfield 123, 3) := by decide +kernel
theorem d_MO_rule_140 : decode b_MO_rule 140 = .ok (.aload_n 0, 1) := by decide +kernel
theorem d_MO_rule_141 : decode b_MO_rule 141 = .ok (.getfield 42, 3) := by decide +kernel
theorem d_MO_rule_144 : decode b_MO_rule 144 = .ok (.bipush 24, 2) := by decide +kernel
theorem d_MO_rule_146 : decode b_MO_rule 146 = .ok (.iaload, 1) := by decide +kernel
theorem d_MO_rule_147 : decode b_MO_rule 147 = .ok (.iastore, 1) := by decide +kernel
theorem d_MO_rule_148 : decode b_MO_rule 148 = .ok (.aload_n 0, 1) := by decide +kernel
theorem d_MO_rule_149 : decode b_MO_rule 149 = .ok (.getfield 48, 3) := by decide +kernel
theorem d_MO_rule_152 : decode b_MO_rule 152 = .ok (.aload_n 0, 1) := by decide +kernel
theorem d_MO_rule_153 : decode b_MO_rule 153 = .ok (.getfield 123, 3) := by decide +kernel
theorem d_MO_rule_156 : decode b_MO_rule 156 = .ok (.aload_n 0, 1) := by decide +kernel
theorem d_MO_rule_157 : decode b_MO_rule 157 = .ok (.getfield 48, 3) := by decide +kernel
theorem d_MO_rule_160 : decode b_MO_rule 160 = .ok (.bipush 24, 2) := by decide +kernel
theorem d_MO_rule_162 : decode b_MO_rule 162 = .ok (.iaload, 1) := by decide +kernel
theorem d_MO_rule_163 : decode b_MO_rule 163 = .ok (.iastore, 1) := by decide +kernel
theorem d_MO_rule_164 : decode b_MO_rule 164 = .ok (.iconst 0, 1) := by decide +kernel
theorem d_MO_rule_165 : decode b_MO_rule 165 = .ok (.istore_n 2, 1) := by decide +kernel
theorem d_MO_rule_166 : decode b_MO_rule 166 = .ok (.iload_n 2, 1) := by decide +kernel
theorem d_MO_rule_167 : decode b_MO_rule 167 = .ok (.iconst 3, 1) := by decide +kernel
theorem d_MO_rule_168 : decode b_MO_rule 168 = .ok (.if_icmp .ge 31, 3) := by decide +kernel
theorem d_MO_rule_171 : decode b_MO_rule 171 = .ok (.aload_n 0, 1) := by decide +kernel
theorem d_MO_rule_172 : decode b_MO_rule 172 = .ok (.getfield 45, 3) := by decide +kernel
theorem d_MO_rule_175 : decode b_MO_rule 175 = .ok (.iconst 3, 1) := by decide +kernel
theorem d_MO_rule_176 : decode b_MO_rule 176 = .ok (.aload_n 0, 1) := by decide +kernel
theorem d_MO_rule_177 : decode b_MO_rule 177 = .ok (.getfield 123, 3) := by decide +kernel
theorem d_MO_rule_180 : decode b_MO_rule 180 = .ok (.imul, 1) := by decide +kernel
theorem d_MO_rule_181 : decode b_MO_rule 181 = .ok (.iload_n 2, 1) := by decide +kernel
theorem d_MO_rule_182 : decode b_MO_rule 182 = .ok (.iadd, 1) := by decide +kernel
theorem d_MO_rule_183 : decode b_MO_rule 183 = .ok (.aload_n 0, 1) := by decide +kernel
theorem d_MO_rule_184 : decode b_MO_rule 184 = .ok (.getfield 45, 3) := by decide +kernel
theorem d_MO_rule_187 : decode b_MO_rule 187 = .ok (.bipush 72, 2) := by decide +kernel
theorem d_MO_rule_189 : decode b_MO_rule 189 = .ok (.iload_n 2, 1) := by decide +kernel
theorem d_MO_rule_190 : decode b_MO_rule 190 = .ok (.iadd, 1) := by decide +kernel
theorem d_MO_rule_191 : decode b_MO_rule 191 = .ok (.iaload, 1) := by decide +kernel
theorem d_MO_rule_192 : decode b_MO_rule 192 = .ok (.iastore, 1) := by decide +kernel
theorem d_MO_rule_193 : decode b_MO_rule 193 = .ok (.iinc 2 1, 3) := by decide +kernel
theorem d_MO_rule_196 : decode b_MO_rule 196 = .ok (.goto (-30), 3) := by decide +kernel
theorem d_MO_rule_199 : decode b_MO_rule 199 = .ok (.iconst 0, 1) := by decide +kernel
theorem d_MO_rule_200 : decode b_MO_rule 200 = .ok (.istore_n 2, 1) := by decide +kernel
theorem d_MO_rule_201 : decode b_MO_rule 201 = .ok (.iload_n 2, 1) := by decide +kernel
theorem d_MO_rule_202 : decode b_MO_rule 202 = .ok (.aload_n 0, 1) := by decide +kernel
theorem d_MO_rule_203 : decode b_MO_rule 203 = .ok (.getfield 48, 3) := by decide +kernel
theorem d_MO_rule_206 : decode b_MO_rule 206 = .ok (.bipush 24, 2) := by decide +kernel
theorem d_MO_rule_208 : decode b_MO_rule 208 = .ok (.iaload, 1) := by decide +kernel
theorem d_MO_rule_209 : decode b_MO_rule 209 = .ok (.if_icmp .ge 86, 3) := by decide +kernel
theorem d_MO_rule_212 : decode b_MO_rule 212 = .ok (.sipush 144, 3) := by decide +kernel
theorem d_MO_rule_215 : decode b_MO_rule 215 = .ok (.iload_n 2, 1) := by decide +kernel
theorem d_MO_rule_216 : decode b_MO_rule 216 = .ok (.iadd, 1) := by decide +kernel
theorem d_MO_rule_217 : decode b_MO_rule 217 = .ok (.istore_n 3, 1) := by decide +kernel
theorem d_MO_rule_218 : decode b_MO_rule 218 = .ok (.bipush 6, 2) := by decide +kernel
theorem d_MO_rule_220 : decode b_MO_rule 220 = .ok (.aload_n 0, 1) := by decide +kernel
theorem d_MO_rule_221 : decode b_MO_rule 221 = .ok (.getfield 123, 3) := by decide +kernel
theorem d_MO_rule_224 : decode b_MO_rule 224 = .ok (.imul, 1) := by decide +kernel
theorem d_MO_rule_225 : decode b_MO_rule 225 = .ok (.iload_n 2, 1) := by decide +kernel
theorem d_MO_rule_226 : decode b_MO_rule 226 = .ok (.iadd, 1) := by decide +kernel
theorem d_MO_rule_227 : decode b_MO_rule 227 = .ok (.istore 4, 2) := by decide +kernel
theorem d_MO_rule_229 : decode b_MO_rule 229 = .ok (.aload_n 0, 1) := by decide +kernel
theorem d_MO_rule_230 : decode b_MO_rule 230 = .ok (.getfield 51, 3) := by decide +kernel
theorem d_MO_rule_233 : decode b_MO_rule 233 = .ok (.iload 4, 2) := by decide +kernel
theorem d_MO_rule_235 : decode b_MO_rule 235 = .ok (.aload_n 0, 1) := by decide +kernel
theorem d_MO_rule_236 : decode b_MO_rule 236 = .ok (.getfield 51, 3) := by decide +kernel
theorem d_MO_rule_239 : decode b_MO_rule 239 = .ok (.iload_n 3, 1) := by decide +kernel
theorem d_MO_rule_240 : decode b_MO_rule 240 = .ok (.iaload, 1) := by decide +kernel
theorem d_MO_rule_241 : decode b_MO_rule 241 = .ok (.iastore, 1) := by decide +kernel
theorem d_MO_rule_242 : decode b_MO_rule 242 = .ok (.aload_n 0, 1) := by decide +kernel
theorem d_MO_rule_243 : decode b_MO_rule 243 = .ok (.getfield 54, 3) := by decide +kernel
theorem d_MO_rule_246 : decode b_MO_rule 246 = .ok (.iload 4, 2) := by decide +kernel
theorem d_MO_rule_248 : decode b_MO_rule 248 = .ok (.aload_n 0, 1) := by decide +kernel
theorem d_MO_rule_249 : decode b_MO_rule 249 = .ok (.getfield 54, 3) := by decide +kernel
theorem d_MO_rule_252 : decode b_MO_rule 252 = .ok (.iload_n 3, 1) := by decide +kernel
theorem d_MO_rule_253 : decode b_MO_rule 253 = .ok (.iaload, 1) := by decide +kernel
theorem d_MO_rule_254 : decode b_MO_rule 254 = .ok (.iastore, 1) := by decide +kernel
theorem d_MO_rule_255 : decode b_MO_rule 255 = .ok (.aload_n 0, 1) := by decide +kernel
theorem d_MO_rule_256 : decode b_MO_rule 256 = .ok (.iload 4, 2) := by decide +kernel
theorem d_MO_rule_258 : decode b_MO_rule 258 = .ok (.aload_n 0, 1) := by decide +kernel
theorem d_MO_rule_259 : decode b_MO_rule 259 = .ok (.getfield 57, 3) := by decide +kernel
theorem d_MO_rule_262 : decode b_MO_rule 262 = .ok (.iconst 3, 1) := by decide +kernel
theorem d_MO_rule_263 : decode b_MO_rule 263 = .ok (.iload_n 3, 1) := by decide +kernel
theorem d_MO_rule_264 : decode b_MO_rule 264 = .ok (.imul, 1) := by decide +kernel
theorem d_MO_rule_265 : decode b_MO_rule 265 = .ok (.iaload, 1) := by decide +kernel
theorem d_MO_rule_266 : decode b_MO_rule 266 = .ok (.aload_n 0, 1) := by decide +kernel
theorem d_MO_rule_267 : decode b_MO_rule 267 = .ok (.getfield 57, 3) := by decide +kernel
theorem d_MO_rule_270 : decode b_MO_rule 270 = .ok (.iconst 3, 1) := by decide +kernel
theorem d_MO_rule_271 : decode b_MO_rule 271 = .ok (.iload_n 3, 1) := by decide +kernel
theorem d_MO_rule_272 : decode b_MO_rule 272 = .ok (.imul, 1) := by decide +kernel
theorem d_MO_rule_273 : decode b_MO_rule 273 = .ok (.iconst 1, 1) := by decide +kernel
theorem d_MO_rule_274 : decode b_MO_rule 274 = .ok (.iadd, 1) := by decide +kernel
theorem d_MO_rule_275 : decode b_MO_rule 275 = .ok (.iaload, 1) := by decide +kernel
theorem d_MO_rule_276 : decode b_MO_rule 276 = .ok (.aload_n 0, 1) := by decide +kernel
theorem d_MO_rule_277 : decode b_MO_rule 277 = .ok (.getfield 57, 3) := by decide +kernel
theorem d_MO_rule_280 : decode b_MO_rule 280 = .ok (.iconst 3, 1) := by decide +kernel
theorem d_MO_rule_281 : decode b_MO_rule 281 = .ok (.iload_n 3, 1) := by decide +kernel
theorem d_MO_rule_282 : decode b_MO_rule 282 = .ok (.imul, 1) := by decide +kernel
theorem d_MO_rule_283 : decode b_MO_rule 283 = .ok (.iconst 2, 1) := by decide +kernel
theorem d_MO_rule_284 : decode b_MO_rule 284 = .ok (.iadd, 1) := by decide +kernel
theorem d_MO_rule_285 : decode b_MO_rule 285 = .ok (.iaload, 1) := by decide +kernel
theorem d_MO_rule_286 : decode b_MO_rule 286 = .ok (.invokevirtual 120, 3) := by decide +kernel
theorem d_MO_rule_289 : decode b_MO_rule 289 = .ok (.iinc 2 1, 3) := by decide +kernel
theorem d_MO_rule_292 : decode b_MO_rule 292 = .ok (.goto (-91), 3) := by decide +kernel
theorem d_MO_rule_295 : decode b_MO_rule 295 = .ok (.aload_n 0, 1) := by decide +kernel
theorem d_MO_rule_296 : decode b_MO_rule 296 = .ok (.dup, 1) := by decide +kernel
theorem d_MO_rule_297 : decode b_MO_rule 297 = .ok (.getfield 123, 3) := by decide +kernel
theorem d_MO_rule_300 : decode b_MO_rule 300 = .ok (.iconst 1, 1) := by decide +kernel
theorem d_MO_rule_301 : decode b_MO_rule 301 = .ok (.iadd, 1) := by decide +kernel
theorem d_MO_rule_302 : decode b_MO_rule 302 = .ok (.putfield 123, 3) := by decide +kernel
theorem d_MO_rule_305 : decode b_MO_rule 305 = .ok (.aload_n 0, 1) := by decide +kernel
theorem d_MO_rule_306 : decode b_MO_rule 306 = .ok (.iconst 0, 1) := by decide +kernel
theorem d_MO_rule_307 : decode b_MO_rule 307 = .ok (.putfield 112, 3) := by decide +kernel
theorem d_MO_rule_310 : decode b_MO_rule 310 = .ok (.aload_n 0, 1) := by decide +kernel
theorem d_MO_rule_311 : decode b_MO_rule 311 = .ok (.invokevirtual 97, 3) := by decide +kernel
theorem d_MO_rule_314 : decode b_MO_rule 314 = .ok (.aload_n 0, 1) := by decide +kernel
theorem d_MO_rule_315 : decode b_MO_rule 315 = .ok (.getfield 123, 3) := by decide +kernel
theorem d_MO_rule_318 : decode b_MO_rule 318 = .ok (.iconst 1, 1) := by decide +kernel
theorem d_MO_rule_319 : decode b_MO_rule 319 = .ok (.isub, 1) := by decide +kernel
theorem d_MO_rule_320 : decode b_MO_rule 320 = .ok (.ireturn, 1) := by decide +kernel
theorem d_MO_stratify_0 : decode b_MO_stratify 0 = .ok (.iconst 0, 1) := by decide +kernel
theorem d_MO_stratify_1 : decode b_MO_stratify 1 = .ok (.istore_n 1, 1) := by decide +kernel
theorem d_MO_stratify_2 : decode b_MO_stratify 2 = .ok (.iload_n 1, 1) := by decide +kernel
theorem d_MO_stratify_3 : decode b_MO_stratify 3 = .ok (.aload_n 0, 1) := by decide +kernel
theorem d_MO_stratify_4 : decode b_MO_stratify 4 = .ok (.getfield 76, 3) := by decide +kernel
theorem d_MO_stratify_7 : decode b_MO_stratify 7 = .ok (.if_icmp .ge 16, 3) := by decide +kernel
theorem d_MO_stratify_10 : decode b_MO_stratify 10 = .ok (.aload_n 0, 1) := by decide +kernel
theorem d_MO_stratify_11 : decode b_MO_stratify 11 = .ok (.getfield 13, 3) := by decide +kernel
theorem d_MO_stratify_14 : decode b_MO_stratify 14 = .ok (.iload_n 1, 1) := by decide +kernel
theorem d_MO_stratify_15 : decode b_MO_stratify 15 = .ok (.iconst 0, 1) := by decide +kernel
theorem d_MO_stratify_16 : decode b_MO_stratify 16 = .ok (.iastore, 1) := by decide +kernel
theorem d_MO_stratify_17 : decode b_MO_stratify 17 = .ok (.iinc 1 1, 3) := by decide +kernel
theorem d_MO_stratify_20 : decode b_MO_stratify 20 = .ok (.goto (-18), 3) := by decide +kernel
theorem d_MO_stratify_23 : decode b_MO_stratify 23 = .ok (.iconst 0, 1) := by decide +kernel
theorem d_MO_stratify_24 : decode b_MO_stratify 24 = .ok (.istore_n 1, 1) := by decide +kernel
theorem d_MO_stratify_25 : decode b_MO_stratify 25 = .ok (.iconst 0, 1) := by decide +kernel
theorem d_MO_stratify_26 : decode b_MO_stratify 26 = .ok (.istore_n 2, 1) := by decide +kernel
theorem d_MO_stratify_27 : decode b_MO_stratify 27 = .ok (.iload_n 2, 1) := by decide +kernel
theorem d_MO_stratify_28 : decode b_MO_stratify 28 = .ok (.aload_n 0, 1) := by decide +kernel
theorem d_MO_stratify_29 : decode b_MO_stratify 29 = .ok (.getfield 76, 3) := by decide +kernel
theorem d_MO_stratify_32 : decode b_MO_stratify 32 = .ok (.if_icmp .gt 147, 3) := by decide +kernel
theorem d_MO_stratify_35 : decode b_MO_stratify 35 = .ok (.iload_n 1, 1) := by decide +kernel
theorem d_MO_stratify_36 : decode b_MO_stratify 36 = .ok (.ifCond .ne 143, 3) := by decide +kernel
theorem d_MO_stratify_39 : decode b_MO_stratify 39 = .ok (.iconst 1, 1) := by decide +kernel
theorem d_MO_stratify_40 : decode b_MO_stratify 40 = .ok (.istore_n 1, 1) := by decide +kernel
theorem d_MO_stratify_41 : decode b_MO_stratify 41 = .ok (.iconst 0, 1) := by decide +kernel
theorem d_MO_stratify_42 : decode b_MO_stratify 42 = .ok (.istore_n 3, 1) := by decide +kernel
theorem d_MO_stratify_43 : decode b_MO_stratify 43 = .ok (.iload_n 3, 1) := by decide +kernel
theorem d_MO_stratify_44 : decode b_MO_stratify 44 = .ok (.aload_n 0, 1) := by decide +kernel
theorem d_MO_stratify_45 : decode b_MO_stratify 45 = .ok (.getfield 123, 3) := by decide +kernel
theorem d_MO_stratify_48 : decode b_MO_stratify 48 = .ok (.if_icmp .ge 125, 3) := by decide +kernel
theorem d_MO_stratify_51 : decode b_MO_stratify 51 = .ok (.iconst 0, 1) := by decide +kernel
theorem d_MO_stratify_52 : decode b_MO_stratify 52 = .ok (.istore 4, 2) := by decide +kernel
theorem d_MO_stratify_54 : decode b_MO_stratify 54 = .ok (.iload 4, 2) := by decide +kernel
theorem d_MO_stratify_56 : decode b_MO_stratify 56 = .ok (.aload_n 0, 1) := by decide +kernel
theorem d_MO_stratify_57 : decode b_MO_stratify 57 = .ok (.getfield 48, 3) := by decide +kernel
theorem d_MO_stratify_60 : decode b_MO_stratify 60 = .ok (.iload_n 3, 1) := by decide +kernel
theorem d_MO_stratify_61 : decode b_MO_stratify 61 = .ok (.iaload, 1) := by decide +kernel
theorem d_MO_stratify_62 : decode b_MO_stratify 62 = .ok (.if_icmp .ge 105, 3) := by decide +kernel
theorem d_MO_stratify_65 : decode b_MO_stratify 65 = .ok (.bipush 6, 2) := by decide +kernel
theorem d_MO_stratify_67 : decode b_MO_stratify 67 = .ok (.iload_n 3, 1) := by decide +kernel
theorem d_MO_stratify_68 : decode b_MO_stratify 68 = .ok (.imul, 1) := by decide +kernel
theorem d_MO_stratify_69 : decode b_MO_stratify 69 = .ok (.iload 4, 2) := by decide +kernel
theorem d_MO_stratify_71 : decode b_MO_stratify 71 = .ok (.iadd, 1) := by decide +kernel
theorem d_MO_stratify_72 : decode b_MO_stratify 72 = .ok (.istore 5, 2) := by decide +kernel
theorem d_MO_stratify_74 : decode b_MO_stratify 74 = .ok (.aload_n 0, 1) := by decide +kernel
theorem d_MO_stratify_75 : decode b_MO_stratify 75 = .ok (.getfield 51, 3) := by decide +kernel
theorem d_MO_stratify_78 : decode b_MO_stratify 78 = .ok (.iload 5, 2) := by decide +kernel
theorem d_MO_stratify_80 : decode b_MO_stratify 80 = .ok (.iaload, 1) := by decide +kernel
theorem d_MO_stratify_81 : decode b_MO_stratify 81 = .ok (.ifCond .ne 18, 3) := by decide +kernel
theorem d_MO_stratify_84 : decode b_MO_stratify 84 = .ok (.aload_n 0, 1) := by decide +kernel
theorem d_MO_stratify_85 : decode b_MO_stratify 85 = .ok (.getfield 13, 3) := by decide +kernel
theorem d_MO_stratify_88 : decode b_MO_stratify 88 = .ok (.aload_n 0, 1) := by decide +kernel
theorem d_MO_stratify_89 : decode b_MO_stratify 89 = .ok (.getfield 54, 3) := by decide +kernel
theorem d_MO_stratify_92 : decode b_MO_stratify 92 = .ok (.iload 5, 2) := by decide +kernel
theorem d_MO_stratify_94 : decode b_MO_stratify 94 = .ok (.iaload, 1) := by decide +kernel
theorem d_MO_stratify_95 : decode b_MO_stratify 95 = .ok (.iaload, 1) := by decide +kernel
theorem d_MO_stratify_96 : decode b_MO_stratify 96 = .ok (.goto 32, 3) := by decide +kernel
theorem d_MO_stratify_99 : decode b_MO_stratify 99 = .ok (.aload_n 0, 1) := by decide +kernel
theorem d_MO_stratify_100 : decode b_MO_stratify 100 = .ok (.getfield 51, 3) := by decide +kernel
theorem d_MO_stratify_103 : decode b_MO_stratify 103 = .ok (.iload 5, 2) := by decide +kernel
theorem d_MO_stratify_105 : decode b_MO_stratify 105 = .ok (.iaload, 1) := by decide +kernel
theorem d_MO_stratify_106 : decode b_MO_stratify 106 = .ok (.iconst 1, 1) := by decide +kernel
theorem d_MO_stratify_107 : decode b_MO_stratify 107 = .ok (.if_icmp .ne 20, 3) := by decide +kernel
theorem d_MO_stratify_110 : decode b_MO_stratify 110 = .ok (.aload_n 0, 1) := by decide +kernel
theorem d_MO_stratify_111 : decode b_MO_stratify 111 = .ok (.getfield 13, 3) := by decide +kernel
theorem d_MO_stratify_114 : decode b_MO_stratify 114 = .ok (.aload_n 0, 1) := by decide +kernel
theorem d_MO_stratify_115 : decode b_MO_stratify 115 = .ok (.getfield 54, 3) := by decide +kernel
theorem d_MO_stratify_118 : decode b_MO_stratify 118 = .ok (.iload 5, 2) := by decide +kernel
theorem d_MO_stratify_120 : decode b_MO_stratify 120 = .ok (.iaload, 1) := by decide +kernel
theorem d_MO_stratify_121 : decode b_MO_stratify 121 = .ok (.iaload, 1) := by decide +kernel
theorem d_MO_stratify_122 : decode b_MO_stratify 122 = .ok (.iconst 1, 1) := by decide +kernel
theorem d_MO_stratify_123 : decode b_MO_stratify 123 = .ok (.iadd, 1) := by decide +kernel
theorem d_MO_stratify_124 : decode b_MO_stratify 124 = .ok (.goto 4, 3) := by decide +kernel
theorem d_MO_stratify_127 : decode b_MO_stratify 127 = .ok (.iconst 0, 1) := by decide +kernel
theorem d_MO_stratify_128 : decode b_MO_stratify 128 = .ok (.istore 6, 2) := by decide +kernel
theorem d_MO_stratify_130 : decode b_MO_stratify 130 = .ok (.iload 6, 2) := by decide +kernel
theorem d_MO_stratify_132 : decode b_MO_stratify 132 = .ok (.aload_n 0, 1) := by decide +kernel
theorem d_MO_stratify_133 : decode b_MO_stratify 133 = .ok (.getfield 13, 3) := by decide +kernel
theorem d_MO_stratify_136 : decode b_MO_stratify 136 = .ok (.aload_n 0, 1) := by decide +kernel
theorem d_MO_stratify_137 : decode b_MO_stratify 137 = .ok (.getfield 42, 3) := by decide +kernel
theorem d_MO_stratify_140 : decode b_MO_stratify 140 = .ok (.iload_n 3, 1) := by decide +kernel
theorem d_MO_stratify_141 : decode b_MO_stratify 141 = .ok (.iaload, 1) := by decide +kernel
theorem d_MO_stratify_142 : decode b_MO_stratify 142 = .ok (.iaload, 1) := by decide +kernel
theorem d_MO_stratify_143 : decode b_MO_stratify 143 = .ok (.if_icmp .le 18, 3) := by decide +kernel
theorem d_MO_stratify_146 : decode b_MO_stratify 146 = .ok (.aload_n 0, 1) := by decide +kernel
theorem d_MO_stratify_147 : decode b_MO_stratify 147 = .ok (.getfield 13, 3) := by decide +kernel
theorem d_MO_stratify_150 : decode b_MO_stratify 150 = .ok (.aload_n 0, 1) := by decide +kernel
theorem d_MO_stratify_151 : decode b_MO_stratify 151 = .ok (.getfield 42, 3) := by decide +kernel
theorem d_MO_stratify_154 : decode b_MO_stratify 154 = .ok (.iload_n 3, 1) := by decide +kernel
theorem d_MO_stratify_155 : decode b_MO_stratify 155 = .ok (.iaload, 1) := by decide +kernel
theorem d_MO_stratify_156 : decode b_MO_stratify 156 = .ok (.iload 6, 2) := by decide +kernel
theorem d_MO_stratify_158 : decode b_MO_stratify 158 = .ok (.iastore, 1) := by decide +kernel
theorem d_MO_stratify_159 : decode b_MO_stratify 159 = .ok (.iconst 0, 1) := by decide +kernel
theorem d_MO_stratify_160 : decode b_MO_stratify 160 = .ok (.istore_n 1, 1) := by decide +kernel
theorem d_MO_stratify_161 : decode b_MO_stratify 161 = .ok (.iinc 4 1, 3) := by decide +kernel
theorem d_MO_stratify_164 : decode b_MO_stratify 164 = .ok (.goto (-110), 3) := by decide +kernel
theorem d_MO_stratify_167 : decode b_MO_stratify 167 = .ok (.iinc 3 1, 3) := by decide +kernel
theorem d_MO_stratify_170 : decode b_MO_stratify 170 = .ok (.goto (-127), 3) := by decide +kernel
theorem d_MO_stratify_173 : decode b_MO_stratify 173 = .ok (.iinc 2 1, 3) := by decide +kernel
theorem d_MO_stratify_176 : decode b_MO_stratify 176 = .ok (.goto (-149), 3) := by decide +kernel
theorem d_MO_stratify_179 : decode b_MO_stratify 179 = .ok (.iconst 0, 1) := by decide +kernel
theorem d_MO_stratify_180 : decode b_MO_stratify 180 = .ok (.istore_n 2, 1) := by decide +kernel
theorem d_MO_stratify_181 : decode b_MO_stratify 181 = .ok (.iload_n 2, 1) := by decide +kernel
theorem d_MO_stratify_182 : decode b_MO_stratify 182 = .ok (.aload_n 0, 1) := by decide +kernel
theorem d_MO_stratify_183 : decode b_MO_stratify 183 = .ok (.getfield 76, 3) := by decide +kernel
theorem d_MO_stratify_186 : decode b_MO_stratify 186 = .ok (.if_icmp .ge 32, 3) := by decide +kernel
theorem d_MO_stratify_189 : decode b_MO_stratify 189 = .ok (.iload_n 1, 1) := by decide +kernel
theorem d_MO_stratify_190 : decode b_MO_stratify 190 = .ok (.ifCond .eq 20, 3) := by decide +kernel
theorem d_MO_stratify_193 : decode b_MO_stratify 193 = .ok (.aload_n 0, 1) := by decide +kernel
theorem d_MO_stratify_194 : decode b_MO_stratify 194 = .ok (.getfield 13, 3) := by decide +kernel
theorem d_MO_stratify_197 : decode b_MO_stratify 197 = .ok (.iload_n 2, 1) := by decide +kernel
theorem d_MO_stratify_198 : decode b_MO_stratify 198 = .ok (.iaload, 1) := by decide +kernel
theorem d_MO_stratify_199 : decode b_MO_stratify 199 = .ok (.aload_n 0, 1) := by decide +kernel
theorem d_MO_stratify_200 : decode b_MO_stratify 200 = .ok (.getfield 76, 3) := by decide +kernel
theorem d_MO_stratify_203 : decode b_MO_stratify 203 = .ok (.if_icmp .ge 7, 3) := by decide +kernel
theorem d_MO_stratify_206 : decode b_MO_stratify 206 = .ok (.iconst 1, 1) := by decide +kernel
theorem d_MO_stratify_207 : decode b_MO_stratify 207 = .ok (.goto 4, 3) := by decide +kernel
theorem d_MO_stratify_210 : decode b_MO_stratify 210 = .ok (.iconst 0, 1) := by decide +kernel
theorem d_MO_stratify_211 : decode b_MO_stratify 211 = .ok (.istore_n 1, 1) := by decide +kernel
theorem d_MO_stratify_212 : decode b_MO_stratify 212 = .ok (.iinc 2 1, 3) := by decide +kernel
theorem d_MO_stratify_215 : decode b_MO_stratify 215 = .ok (.goto (-34), 3) := by decide +kernel
theorem d_MO_stratify_218 : decode b_MO_stratify 218 = .ok (.iload_n 1, 1) := by decide +kernel
theorem d_MO_stratify_219 : decode b_MO_stratify 219 = .ok (.ireturn, 1) := by decide +kernel
theorem d_MO_strataOf_0 : decode b_MO_strataOf 0 = .ok (.aload_n 0, 1) := by decide +kernel
theorem d_MO_strataOf_1 : decode b_MO_strataOf 1 = .ok (.invokevirtual 130, 3) := by decide +kernel
theorem d_MO_strataOf_4 : decode b_MO_strataOf 4 = .ok (.ifCond .ne 6, 3) := by decide +kernel
theorem d_MO_strataOf_7 : decode b_MO_strataOf 7 = .ok (.bipush (-3), 2) := by decide +kernel
theorem d_MO_strataOf_9 : decode b_MO_strataOf 9 = .ok (.ireturn, 1) := by decide +kernel
theorem d_MO_strataOf_10 : decode b_MO_strataOf 10 = .ok (.iconst 0, 1) := by decide +kernel
theorem d_MO_strataOf_11 : decode b_MO_strataOf 11 = .ok (.istore_n 1, 1) := by decide +kernel
theorem d_MO_strataOf_12 : decode b_MO_strataOf 12 = .ok (.iconst 0, 1) := by decide +kernel
theorem d_MO_strataOf_13 : decode b_MO_strataOf 13 = .ok (.istore_n 2, 1) := by decide +kernel
theorem d_MO_strataOf_14 : decode b_MO_strataOf 14 = .ok (.iload_n 2, 1) := by decide +kernel
theorem d_MO_strataOf_15 : decode b_MO_strataOf 15 = .ok (.aload_n 0, 1) := by decide +kernel
theorem d_MO_strataOf_16 : decode b_MO_strataOf 16 = .ok (.getfield 76, 3) := by decide +kernel
theorem d_MO_strataOf_19 : decode b_MO_strataOf 19 = .ok (.if_icmp .ge 34, 3) := by decide +kernel
theorem d_MO_strataOf_22 : decode b_MO_strataOf 22 = .ok (.aload_n 0, 1) := by decide +kernel
theorem d_MO_strataOf_23 : decode b_MO_strataOf 23 = .ok (.getfield 13, 3) := by decide +kernel
theorem d_MO_strataOf_26 : decode b_MO_strataOf 26 = .ok (.iload_n 2, 1) := by decide +kernel
theorem d_MO_strataOf_27 : decode b_MO_strataOf 27 = .ok (.iaload, 1) := by decide +kernel
theorem d_MO_strataOf_28 : decode b_MO_strataOf 28 = .ok (.iconst 1, 1) := by decide +kernel
theorem d_MO_strataOf_29 : decode b_MO_strataOf 29 = .ok (.iadd, 1) := by decide +kernel
theorem d_MO_strataOf_30 : decode b_MO_strataOf 30 = .ok (.iload_n 1, 1) := by decide +kernel
theorem d_MO_strataOf_31 : decode b_MO_strataOf 31 = .ok (.if_icmp .le 14, 3) := by decide +kernel
theorem d_MO_strataOf_34 : decode b_MO_strataOf 34 = .ok (.aload_n 0, 1) := by decide +kernel
theorem d_MO_strataOf_35 : decode b_MO_strataOf 35 = .ok (.getfield 13, 3) := by decide +kernel
theorem d_MO_strataOf_38 : decode b_MO_strataOf 38 = .ok (.iload_n 2, 1) := by decide +kernel
theorem d_MO_strataOf_39 : decode b_MO_strataOf 39 = .ok (.iaload, 1) := by decide +kernel
theorem d_MO_strataOf_40 : decode b_MO_strataOf 40 = .ok (.iconst 1, 1) := by decide +kernel
theorem d_MO_strataOf_41 : decode b_MO_strataOf 41 = .ok (.iadd, 1) := by decide +kernel
theorem d_MO_strataOf_42 : decode b_MO_strataOf 42 = .ok (.goto 4, 3) := by decide +kernel
theorem d_MO_strataOf_45 : decode b_MO_strataOf 45 = .ok (.iload_n 1, 1) := by decide +kernel
theorem d_MO_strataOf_46 : decode b_MO_strataOf 46 = .ok (.istore_n 1, 1) := by decide +kernel
theorem d_MO_strataOf_47 : decode b_MO_strataOf 47 = .ok (.iinc 2 1, 3) := by decide +kernel
theorem d_MO_strataOf_50 : decode b_MO_strataOf 50 = .ok (.goto (-36), 3) := by decide +kernel
theorem d_MO_strataOf_53 : decode b_MO_strataOf 53 = .ok (.iload_n 1, 1) := by decide +kernel
theorem d_MO_strataOf_54 : decode b_MO_strataOf 54 = .ok (.ireturn, 1) := by decide +kernel
theorem d_MO_strata_0 : decode b_MO_strata 0 = .ok (.aload_n 0, 1) := by decide +kernel
theorem d_MO_strata_1 : decode b_MO_strata 1 = .ok (.iconst 0, 1) := by decide +kernel
theorem d_MO_strata_2 : decode b_MO_strata 2 = .ok (.putfield 72, 3) := by decide +kernel
theorem d_MO_strata_5 : decode b_MO_strata 5 = .ok (.aload_n 0, 1) := by decide +kernel
theorem d_MO_strata_6 : decode b_MO_strata 6 = .ok (.invokevirtual 134, 3) := by decide +kernel
theorem d_MO_strata_9 : decode b_MO_strata 9 = .ok (.ireturn, 1) := by decide +kernel
theorem d_MO_stratum_0 : decode b_MO_stratum 0 = .ok (.aload_n 0, 1) := by decide +kernel
theorem d_MO_stratum_1 : decode b_MO_stratum 1 = .ok (.iload_n 1, 1) := by decide +kernel
theorem d_MO_stratum_2 : decode b_MO_stratum 2 = .ok (.ifCond .lt 11, 3) := by decide +kernel
theorem d_MO_stratum_5 : decode b_MO_stratum 5 = .ok (.iload_n 1, 1) := by decide +kernel
theorem d_MO_stratum_6 : decode b_MO_stratum 6 = .ok (.aload_n 0, 1) := by decide +kernel
theorem d_MO_stratum_7 : decode b_MO_stratum 7 = .ok (.getfield 76, 3) := by decide +kernel
theorem d_MO_stratum_10 : decode b_MO_stratum 10 = .ok (.if_icmp .lt 7, 3) := by decide +kernel
theorem d_MO_stratum_13 : decode b_MO_stratum 13 = .ok (.iconst 1, 1) := by decide +kernel
theorem d_MO_stratum_14 : decode b_MO_stratum 14 = .ok (.goto 17, 3) := by decide +kernel
theorem d_MO_stratum_17 : decode b_MO_stratum 17 = .ok (.aload_n 0, 1) := by decide +kernel
theorem d_MO_stratum_18 : decode b_MO_stratum 18 = .ok (.invokevirtual 134, 3) := by decide +kernel
theorem d_MO_stratum_21 : decode b_MO_stratum 21 = .ok (.bipush (-3), 2) := by decide +kernel
theorem d_MO_stratum_23 : decode b_MO_stratum 23 = .ok (.if_icmp .ne 7, 3) := by decide +kernel
theorem d_MO_stratum_26 : decode b_MO_stratum 26 = .ok (.iconst 2, 1) := by decide +kernel
theorem d_MO_stratum_27 : decode b_MO_stratum 27 = .ok (.goto 4, 3) := by decide +kernel
theorem d_MO_stratum_30 : decode b_MO_stratum 30 = .ok (.iconst 0, 1) := by decide +kernel
theorem d_MO_stratum_31 : decode b_MO_stratum 31 = .ok (.putfield 72, 3) := by decide +kernel
theorem d_MO_stratum_34 : decode b_MO_stratum 34 = .ok (.aload_n 0, 1) := by decide +kernel
theorem d_MO_stratum_35 : decode b_MO_stratum 35 = .ok (.getfield 72, 3) := by decide +kernel
theorem d_MO_stratum_38 : decode b_MO_stratum 38 = .ok (.ifCond .le 7, 3) := by decide +kernel
theorem d_MO_stratum_41 : decode b_MO_stratum 41 = .ok (.iconst 0, 1) := by decide +kernel
theorem d_MO_stratum_42 : decode b_MO_stratum 42 = .ok (.goto 9, 3) := by decide +kernel
theorem d_MO_stratum_45 : decode b_MO_stratum 45 = .ok (.aload_n 0, 1) := by decide +kernel
theorem d_MO_stratum_46 : decode b_MO_stratum 46 = .ok (.getfield 13, 3) := by decide +kernel
theorem d_MO_stratum_49 : decode b_MO_stratum 49 = .ok (.iload_n 1, 1) := by decide +kernel
theorem d_MO_stratum_50 : decode b_MO_stratum 50 = .ok (.iaload, 1) := by decide +kernel
theorem d_MO_stratum_51 : decode b_MO_stratum 51 = .ok (.ireturn, 1) := by decide +kernel
theorem d_MO_of_0 : decode b_MO_of 0 = .ok (.iload_n 1, 1) := by decide +kernel
theorem d_MO_of_1 : decode b_MO_of 1 = .ok (.bipush 64, 2) := by decide +kernel
theorem d_MO_of_3 : decode b_MO_of 3 = .ok (.if_icmp .ge 7, 3) := by decide +kernel
theorem d_MO_of_6 : decode b_MO_of 6 = .ok (.iload_n 1, 1) := by decide +kernel
theorem d_MO_of_7 : decode b_MO_of 7 = .ok (.goto 12, 3) := by decide +kernel
theorem d_MO_of_10 : decode b_MO_of 10 = .ok (.aload_n 0, 1) := by decide +kernel
theorem d_MO_of_11 : decode b_MO_of 11 = .ok (.getfield 60, 3) := by decide +kernel
theorem d_MO_of_14 : decode b_MO_of 14 = .ok (.iload_n 1, 1) := by decide +kernel
theorem d_MO_of_15 : decode b_MO_of 15 = .ok (.bipush 64, 2) := by decide +kernel
theorem d_MO_of_17 : decode b_MO_of 17 = .ok (.isub, 1) := by decide +kernel
theorem d_MO_of_18 : decode b_MO_of 18 = .ok (.iaload, 1) := by decide +kernel
theorem d_MO_of_19 : decode b_MO_of 19 = .ok (.ireturn, 1) := by decide +kernel
theorem d_MO_binds_0 : decode b_MO_binds 0 = .ok (.iconst 0, 1) := by decide +kernel
theorem d_MO_binds_1 : decode b_MO_binds 1 = .ok (.istore 4, 2) := by decide +kernel
theorem d_MO_binds_3 : decode b_MO_binds 3 = .ok (.iconst 1, 1) := by decide +kernel
theorem d_MO_binds_4 : decode b_MO_binds 4 = .ok (.istore 5, 2) := by decide +kernel
theorem d_MO_binds_6 : decode b_MO_binds 6 = .ok (.iconst 0, 1) := by decide +kernel
theorem d_MO_binds_7 : decode b_MO_binds 7 = .ok (.istore 6, 2) := by decide +kernel
theorem d_MO_binds_9 : decode b_MO_binds 9 = .ok (.iload 6, 2) := by decide +kernel
theorem d_MO_binds_11 : decode b_MO_binds 11 = .ok (.iload_n 2, 1) := by decide +kernel
theorem d_MO_binds_12 : decode b_MO_binds 12 = .ok (.if_icmp .ge 111, 3) := by decide +kernel
theorem d_MO_binds_15 : decode b_MO_binds 15 = .ok (.iload 6, 2) := by decide +kernel
theorem d_MO_binds_17 : decode b_MO_binds 17 = .ok (.ifCond .ne 11, 3) := by decide +kernel
theorem d_MO_binds_20 : decode b_MO_binds 20 = .ok (.iload_n 3, 1) := by decide +kernel
theorem d_MO_binds_21 : decode b_MO_binds 21 = .ok (.sipush 4096, 3) := by decide +kernel
theorem d_MO_binds_24 : decode b_MO_binds 24 = .ok (.idiv, 1) := by decide +kernel
theorem d_MO_binds_25 : decode b_MO_binds 25 = .ok (.goto 23, 3) := by decide +kernel
theorem d_MO_binds_28 : decode b_MO_binds 28 = .ok (.iload 6, 2) := by decide +kernel
theorem d_MO_binds_30 : decode b_MO_binds 30 = .ok (.iconst 1, 1) := by decide +kernel
theorem d_MO_binds_31 : decode b_MO_binds 31 = .ok (.if_icmp .ne 13, 3) := by decide +kernel
theorem d_MO_binds_34 : decode b_MO_binds 34 = .ok (.iload_n 3, 1) := by decide +kernel
theorem d_MO_binds_35 : decode b_MO_binds 35 = .ok (.bipush 64, 2) := by decide +kernel
theorem d_MO_binds_37 : decode b_MO_binds 37 = .ok (.idiv, 1) := by decide +kernel
theorem d_MO_binds_38 : decode b_MO_binds 38 = .ok (.bipush 64, 2) := by decide +kernel
theorem d_MO_binds_40 : decode b_MO_binds 40 = .ok (.irem, 1) := by decide +kernel
theorem d_MO_binds_41 : decode b_MO_binds 41 = .ok (.goto 7, 3) := by decide +kernel
theorem d_MO_binds_44 : decode b_MO_binds 44 = .ok (.iload_n 3, 1) := by decide +kernel
theorem d_MO_binds_45 : decode b_MO_binds 45 = .ok (.bipush 64, 2) := by decide +kernel
theorem d_MO_binds_47 : decode b_MO_binds 47 = .ok (.irem, 1) := by decide +kernel
theorem d_MO_binds_48 : decode b_MO_binds 48 = .ok (.istore 7, 2) := by decide +kernel
theorem d_MO_binds_50 : decode b_MO_binds 50 = .ok (.aload_n 0, 1) := by decide +kernel
theorem d_MO_binds_51 : decode b_MO_binds 51 = .ok (.getfield 57, 3) := by decide +kernel
theorem d_MO_binds_54 : decode b_MO_binds 54 = .ok (.iload_n 1, 1) := by decide +kernel
theorem d_MO_binds_55 : decode b_MO_binds 55 = .ok (.iload 6, 2) := by decide +kernel
theorem d_MO_binds_57 : decode b_MO_binds 57 = .ok (.iadd, 1) := by decide +kernel
theorem d_MO_binds_58 : decode b_MO_binds 58 = .ok (.iaload, 1) := by decide +kernel
theorem d_MO_binds_59 : decode b_MO_binds 59 = .ok (.istore 8, 2) := by decide +kernel
theorem d_MO_binds_61 : decode b_MO_binds 61 = .ok (.aload_n 0, 1) := by decide +kernel
theorem d_MO_binds_62 : decode b_MO_binds 62 = .ok (.iload 8, 2) := by decide +kernel
theorem d_MO_binds_64 : decode b_MO_binds 64 = .ok (.invokevirtual 138, 3) := by decide +kernel
theorem d_MO_binds_67 : decode b_MO_binds 67 = .ok (.ifCond .ge 27, 3) := by decide +kernel
theorem d_MO_binds_70 : decode b_MO_binds 70 = .ok (.aload_n 0, 1) := by decide +kernel
theorem d_MO_binds_71 : decode b_MO_binds 71 = .ok (.getfield 60, 3) := by decide +kernel
theorem d_MO_binds_74 : decode b_MO_binds 74 = .ok (.iload 8, 2) := by decide +kernel
theorem d_MO_binds_76 : decode b_MO_binds 76 = .ok (.bipush 64, 2) := by decide +kernel
theorem d_MO_binds_78 : decode b_MO_binds 78 = .ok (.isub, 1) := by decide +kernel
theorem d_MO_binds_79 : decode b_MO_binds 79 = .ok (.iload 7, 2) := by decide +kernel
theorem d_MO_binds_81 : decode b_MO_binds 81 = .ok (.iastore, 1) := by decide +kernel
theorem d_MO_binds_82 : decode b_MO_binds 82 = .ok (.iload 4, 2) := by decide +kernel
theorem d_MO_binds_84 : decode b_MO_binds 84 = .ok (.iconst 1, 1) := by decide +kernel
theorem d_MO_binds_85 : decode b_MO_binds 85 = .ok (.iload 8, 2) := by decide +kernel
theorem d_MO_binds_87 : decode b_MO_binds 87 = .ok (.bipush 64, 2) := by decide +kernel
theorem d_MO_binds_89 : decode b_MO_binds 89 = .ok (.isub, 1) := by decide +kernel
theorem d_MO_binds_90 : decode b_MO_binds 90 = .ok (.ishl, 1) := by decide +kernel
theorem d_MO_binds_91 : decode b_MO_binds 91 = .ok (.ior, 1) := by decide +kernel
theorem d_MO_binds_92 : decode b_MO_binds 92 = .ok (.istore 4, 2) := by decide +kernel
theorem d_MO_binds_94 : decode b_MO_binds 94 = .ok (.iload 5, 2) := by decide +kernel
theorem d_MO_binds_96 : decode b_MO_binds 96 = .ok (.ifCond .eq 18, 3) := by decide +kernel
theorem d_MO_binds_99 : decode b_MO_binds 99 = .ok (.aload_n 0, 1) := by decide +kernel
theorem d_MO_binds_100 : decode b_MO_binds 100 = .ok (.iload 8, 2) := by decide +kernel
theorem d_MO_binds_102 : decode b_MO_binds 102 = .ok (.invokevirtual 138, 3) := by decide +kernel
theorem d_MO_binds_105 : decode b_MO_binds 105 = .ok (.iload 7, 2) := by decide +kernel
theorem d_MO_binds_107 : decode b_MO_binds 107 = .ok (.if_icmp .ne 7, 3) := by decide +kernel
theorem d_MO_binds_110 : decode b_MO_binds 110 = .ok (.iconst 1, 1) := by decide +kernel
theorem d_MO_binds_111 : decode b_MO_binds 111 = .ok (.goto 4, 3) := by decide +kernel
theorem d_MO_binds_114 : decode b_MO_binds 114 = .ok (.iconst 0, 1) := by decide +kernel
theorem d_MO_binds_115 : decode b_MO_binds 115 = .ok (.istore 5, 2) := by decide +kernel
theorem d_MO_binds_117 : decode b_MO_binds 117 = .ok (.iinc 6 1, 3) := by decide +kernel
theorem d_MO_binds_120 : decode b_MO_binds 120 = .ok (.goto (-111), 3) := by decide +kernel
theorem d_MO_binds_123 : decode b_MO_binds 123 = .ok (.iload 5, 2) := by decide +kernel
theorem d_MO_binds_125 : decode b_MO_binds 125 = .ok (.ifCond .ne 9, 3) := by decide +kernel
theorem d_MO_binds_128 : decode b_MO_binds 128 = .ok (.aload_n 0, 1) := by decide +kernel
theorem d_MO_binds_129 : decode b_MO_binds 129 = .ok (.iload 4, 2) := by decide +kernel
theorem d_MO_binds_131 : decode b_MO_binds 131 = .ok (.invokevirtual 140, 3) := by decide +kernel
theorem d_MO_binds_134 : decode b_MO_binds 134 = .ok (.iload 5, 2) := by decide +kernel
theorem d_MO_binds_136 : decode b_MO_binds 136 = .ok (.ifCond .eq 8, 3) := by decide +kernel
theorem d_MO_binds_139 : decode b_MO_binds 139 = .ok (.iload 4, 2) := by decide +kernel
theorem d_MO_binds_141 : decode b_MO_binds 141 = .ok (.goto 4, 3) := by decide +kernel
theorem d_MO_binds_144 : decode b_MO_binds 144 = .ok (.iconst (-1), 1) := by decide +kernel
theorem d_MO_binds_145 : decode b_MO_binds 145 = .ok (.ireturn, 1) := by decide +kernel
theorem d_MO_frees_0 : decode b_MO_frees 0 = .ok (.iconst 0, 1) := by decide +kernel
theorem d_MO_frees_1 : decode b_MO_frees 1 = .ok (.istore_n 2, 1) := by decide +kernel
theorem d_MO_frees_2 : decode b_MO_frees 2 = .ok (.iload_n 2, 1) := by decide +kernel
theorem d_MO_frees_3 : decode b_MO_frees 3 = .ok (.bipush 8, 2) := by decide +kernel
theorem d_MO_frees_5 : decode b_MO_frees 5 = .ok (.if_icmp .ge 34, 3) := by decide +kernel
theorem d_MO_frees_8 : decode b_MO_frees 8 = .ok (.aload_n 0, 1) := by decide +kernel
theorem d_MO_frees_9 : decode b_MO_frees 9 = .ok (.getfield 60, 3) := by decide +kernel
theorem d_MO_frees_12 : decode b_MO_frees 12 = .ok (.iload_n 2, 1) := by decide +kernel
theorem d_MO_frees_13 : decode b_MO_frees 13 = .ok (.iload_n 1, 1) := by decide +kernel
theorem d_MO_frees_14 : decode b_MO_frees 14 = .ok (.iload_n 2, 1) := by decide +kernel
theorem d_MO_frees_15 : decode b_MO_frees 15 = .ok (.ishr, 1) := by decide +kernel
theorem d_MO_frees_16 : decode b_MO_frees 16 = .ok (.iconst 1, 1) := by decide +kernel
theorem d_MO_frees_17 : decode b_MO_frees 17 = .ok (.iand, 1) := by decide +kernel
theorem d_MO_frees_18 : decode b_MO_frees 18 = .ok (.iconst 1, 1) := by decide +kernel
theorem d_MO_frees_19 : decode b_MO_frees 19 = .ok (.if_icmp .ne 7, 3) := by decide +kernel
theorem d_MO_frees_22 : decode b_MO_frees 22 = .ok (.iconst (-1), 1) := by decide +kernel
theorem d_MO_frees_23 : decode b_MO_frees 23 = .ok (.goto 9, 3) := by decide +kernel
theorem d_MO_frees_26 : decode b_MO_frees 26 = .ok (.aload_n 0, 1) := by decide +kernel
theorem d_MO_frees_27 : decode b_MO_frees 27 = .ok (.getfield 60, 3) := by decide +kernel
theorem d_MO_frees_30 : decode b_MO_frees 30 = .ok (.iload_n 2, 1) := by decide +kernel
theorem d_MO_frees_31 : decode b_MO_frees 31 = .ok (.iaload, 1) := by decide +kernel
theorem d_MO_frees_32 : decode b_MO_frees 32 = .ok (.iastore, 1) := by decide +kernel
theorem d_MO_frees_33 : decode b_MO_frees 33 = .ok (.iinc 2 1, 3) := by decide +kernel
theorem d_MO_frees_36 : decode b_MO_frees 36 = .ok (.goto (-34), 3) := by decide +kernel
theorem d_MO_frees_39 : decode b_MO_frees 39 = .ok (.return_, 1) := by decide +kernel
theorem d_MO_asked_0 : decode b_MO_asked 0 = .ok (.iconst 1, 1) := by decide +kernel
theorem d_MO_asked_1 : decode b_MO_asked 1 = .ok (.istore_n 2, 1) := by decide +kernel
theorem d_MO_asked_2 : decode b_MO_asked 2 = .ok (.iconst 0, 1) := by decide +kernel
theorem d_MO_asked_3 : decode b_MO_asked 3 = .ok (.istore_n 3, 1) := by decide +kernel
theorem d_MO_asked_4 : decode b_MO_asked 4 = .ok (.iload_n 3, 1) := by decide +kernel
theorem d_MO_asked_5 : decode b_MO_asked 5 = .ok (.aload_n 0, 1) := by decide +kernel
theorem d_MO_asked_6 : decode b_MO_asked 6 = .ok (.getfield 48, 3) := by decide +kernel
theorem d_MO_asked_9 : decode b_MO_asked 9 = .ok (.iload_n 1, 1) := by decide +kernel
theorem d_MO_asked_10 : decode b_MO_asked 10 = .ok (.iaload, 1) := by decide +kernel
theorem d_MO_asked_11 : decode b_MO_asked 11 = .ok (.if_icmp .ge 158, 3) := by decide +kernel
theorem d_MO_asked_14 : decode b_MO_asked 14 = .ok (.bipush 6, 2) := by decide +kernel
theorem d_MO_asked_16 : decode b_MO_asked 16 = .ok (.iload_n 1, 1) := by decide +kernel
theorem d_MO_asked_17 : decode b_MO_asked 17 = .ok (.imul, 1) := by decide +kernel
theorem d_MO_asked_18 : decode b_MO_asked 18 = .ok (.iload_n 3, 1) := by decide +kernel
theorem d_MO_asked_19 : decode b_MO_asked 19 = .ok (.iadd, 1) := by decide +kernel
theorem d_MO_asked_20 : decode b_MO_asked 20 = .ok (.istore 4, 2) := by decide +kernel
theorem d_MO_asked_22 : decode b_MO_asked 22 = .ok (.aload_n 0, 1) := by decide +kernel
theorem d_MO_asked_23 : decode b_MO_asked 23 = .ok (.aload_n 0, 1) := by decide +kernel
theorem d_MO_asked_24 : decode b_MO_asked 24 = .ok (.getfield 57, 3) := by decide +kernel
theorem d_MO_asked_27 : decode b_MO_asked 27 = .ok (.iconst 3, 1) := by decide +kernel
theorem d_MO_asked_28 : decode b_MO_asked 28 = .ok (.iload 4, 2) := by decide +kernel
theorem d_MO_asked_30 : decode b_MO_asked 30 = .ok (.imul, 1) := by decide +kernel
theorem d_MO_asked_31 : decode b_MO_asked 31 = .ok (.iaload, 1) := by decide +kernel
theorem d_MO_asked_32 : decode b_MO_asked 32 = .ok (.invokevirtual 138, 3) := by decide +kernel
theorem d_MO_asked_35 : decode b_MO_asked 35 = .ok (.istore 5, 2) := by decide +kernel
theorem d_MO_asked_37 : decode b_MO_asked 37 = .ok (.aload_n 0, 1) := by decide +kernel
theorem d_MO_asked_38 : decode b_MO_asked 38 = .ok (.aload_n 0, 1) := by decide +kernel
theorem d_MO_asked_39 : decode b_MO_asked 39 = .ok (.getfield 57, 3) := by decide +kernel
theorem d_MO_asked_42 : decode b_MO_asked 42 = .ok (.iconst 3, 1) := by decide +kernel
theorem d_MO_asked_43 : decode b_MO_asked 43 = .ok (.iload 4, 2) := by decide +kernel
theorem d_MO_asked_45 : decode b_MO_asked 45 = .ok (.imul, 1) := by decide +kernel
theorem d_MO_asked_46 : decode b_MO_asked 46 = .ok (.iconst 1, 1) := by decide +kernel
theorem d_MO_asked_47 : decode b_MO_asked 47 = .ok (.iadd, 1) := by decide +kernel
theorem d_MO_asked_48 : decode b_MO_asked 48 = .ok (.iaload, 1) := by decide +kernel
theorem d_MO_asked_49 : decode b_MO_asked 49 = .ok (.invokevirtual 138, 3) := by decide +kernel
theorem d_MO_asked_52 : decode b_MO_asked 52 = .ok (.istore 6, 2) := by decide +kernel
theorem d_MO_asked_54 : decode b_MO_asked 54 = .ok (.aload_n 0, 1) := by decide +kernel
theorem d_MO_asked_55 : decode b_MO_asked 55 = .ok (.getfield 51, 3) := by decide +kernel
theorem d_MO_asked_58 : decode b_MO_asked 58 = .ok (.iload 4, 2) := by decide +kernel
theorem d_MO_asked_60 : decode b_MO_asked 60 = .ok (.iaload, 1) := by decide +kernel
theorem d_MO_asked_61 : decode b_MO_asked 61 = .ok (.iconst 1, 1) := by decide +kernel
theorem d_MO_asked_62 : decode b_MO_asked 62 = .ok (.if_icmp .ne 52, 3) := by decide +kernel
theorem d_MO_asked_65 : decode b_MO_asked 65 = .ok (.iload_n 2, 1) := by decide +kernel
theorem d_MO_asked_66 : decode b_MO_asked 66 = .ok (.ifCond .eq 43, 3) := by decide +kernel
theorem d_MO_asked_69 : decode b_MO_asked 69 = .ok (.aload_n 0, 1) := by decide +kernel
theorem d_MO_asked_70 : decode b_MO_asked 70 = .ok (.aload_n 0, 1) := by decide +kernel
theorem d_MO_asked_71 : decode b_MO_asked 71 = .ok (.getfield 54, 3) := by decide +kernel
theorem d_MO_asked_74 : decode b_MO_asked 74 = .ok (.iload 4, 2) := by decide +kernel
theorem d_MO_asked_76 : decode b_MO_asked 76 = .ok (.iaload, 1) := by decide +kernel
theorem d_MO_asked_77 : decode b_MO_asked 77 = .ok (.iload 5, 2) := by decide +kernel
theorem d_MO_asked_79 : decode b_MO_asked 79 = .ok (.iload 6, 2) := by decide +kernel
theorem d_MO_asked_81 : decode b_MO_asked 81 = .ok (.aload_n 0, 1) := by decide +kernel
theorem d_MO_asked_82 : decode b_MO_asked 82 = .ok (.aload_n 0, 1) := by decide +kernel
theorem d_MO_asked_83 : decode b_MO_asked 83 = .ok (.getfield 57, 3) := by decide +kernel
theorem d_MO_asked_86 : decode b_MO_asked 86 = .ok (.iconst 3, 1) := by decide +kernel
theorem d_MO_asked_87 : decode b_MO_asked 87 = .ok (.iload 4, 2) := by decide +kernel
theorem d_MO_asked_89 : decode b_MO_asked 89 = .ok (.imul, 1) := by decide +kernel
theorem d_MO_asked_90 : decode b_MO_asked 90 = .ok (.iconst 2, 1) := by decide +kernel
theorem d_MO_asked_91 : decode b_MO_asked 91 = .ok (.iadd, 1) := by decide +kernel
theorem d_MO_asked_92 : decode b_MO_asked 92 = .ok (.iaload, 1) := by decide +kernel
theorem d_MO_asked_93 : decode b_MO_asked 93 = .ok (.invokevirtual 138, 3) := by decide +kernel
theorem d_MO_asked_96 : decode b_MO_asked 96 = .ok (.invokestatic 104, 3) := by decide +kernel
theorem d_MO_asked_99 : decode b_MO_asked 99 = .ok (.invokevirtual 144, 3) := by decide +kernel
theorem d_MO_asked_102 : decode b_MO_asked 102 = .ok (.ifCond .ne 7, 3) := by decide +kernel
theorem d_MO_asked_105 : decode b_MO_asked 105 = .ok (.iconst 1, 1) := by decide +kernel
theorem d_MO_asked_106 : decode b_MO_asked 106 = .ok (.goto 4, 3) := by decide +kernel
theorem d_MO_asked_109 : decode b_MO_asked 109 = .ok (.iconst 0, 1) := by decide +kernel
theorem d_MO_asked_110 : decode b_MO_asked 110 = .ok (.istore_n 2, 1) := by decide +kernel
theorem d_MO_asked_111 : decode b_MO_asked 111 = .ok (.goto 52, 3) := by decide +kernel
theorem d_MO_asked_114 : decode b_MO_asked 114 = .ok (.aload_n 0, 1) := by decide +kernel
theorem d_MO_asked_115 : decode b_MO_asked 115 = .ok (.getfield 51, 3) := by decide +kernel
theorem d_MO_asked_118 : decode b_MO_asked 118 = .ok (.iload 4, 2) := by decide +kernel
theorem d_MO_asked_120 : decode b_MO_asked 120 = .ok (.iaload, 1) := by decide +kernel
theorem d_MO_asked_121 : decode b_MO_asked 121 = .ok (.iconst 1, 1) := by decide +kernel
theorem d_MO_asked_122 : decode b_MO_asked 122 = .ok (.if_icmp .le 41, 3) := by decide +kernel
theorem d_MO_asked_125 : decode b_MO_asked 125 = .ok (.iload_n 2, 1) := by decide +kernel
theorem d_MO_asked_126 : decode b_MO_asked 126 = .ok (.ifCond .eq 35, 3) := by decide +kernel
theorem d_MO_asked_129 : decode b_MO_asked 129 = .ok (.aload_n 0, 1) := by decide +kernel
theorem d_MO_asked_130 : decode b_MO_asked 130 = .ok (.getfield 51, 3) := by decide +kernel
theorem d_MO_asked_133 : decode b_MO_asked 133 = .ok (.iload 4, 2) := by decide +kernel
theorem d_MO_asked_135 : decode b_MO_asked 135 = .ok (.iaload, 1) := by decide +kernel
theorem d_MO_asked_136 : decode b_MO_asked 136 = .ok (.iconst 2, 1) := by decide +kernel
theorem d_MO_asked_137 : decode b_MO_asked 137 = .ok (.if_icmp .ne 13, 3) := by decide +kernel
theorem d_MO_asked_140 : decode b_MO_asked 140 = .ok (.iload 5, 2) := by decide +kernel
theorem d_MO_asked_142 : decode b_MO_asked 142 = .ok (.iload 6, 2) := by decide +kernel
theorem d_MO_asked_144 : decode b_MO_asked 144 = .ok (.if_icmp .ge 17, 3) := by decide +kernel
theorem d_MO_asked_147 : decode b_MO_asked 147 = .ok (.goto 10, 3) := by decide +kernel
theorem d_MO_asked_150 : decode b_MO_asked 150 = .ok (.iload 5, 2) := by decide +kernel
theorem d_MO_asked_152 : decode b_MO_asked 152 = .ok (.iload 6, 2) := by decide +kernel
theorem d_MO_asked_154 : decode b_MO_asked 154 = .ok (.if_icmp .eq 7, 3) := by decide +kernel
theorem d_MO_asked_157 : decode b_MO_asked 157 = .ok (.iconst 1, 1) := by decide +kernel
theorem d_MO_asked_158 : decode b_MO_asked 158 = .ok (.goto 4, 3) := by decide +kernel
theorem d_MO_asked_161 : decode b_MO_asked 161 = .ok (.iconst 0, 1) := by decide +kernel
theorem d_MO_asked_162 : decode b_MO_asked 162 = .ok (.istore_n 2, 1) := by decide +kernel
theorem d_MO_asked_163 : decode b_MO_asked 163 = .ok (.iinc 3 1, 3) := by decide +kernel
theorem d_MO_asked_166 : decode b_MO_asked 166 = .ok (.goto (-162), 3) := by decide +kernel
theorem d_MO_asked_169 : decode b_MO_asked 169 = .ok (.iload_n 2, 1) := by decide +kernel
theorem d_MO_asked_170 : decode b_MO_asked 170 = .ok (.ireturn, 1) := by decide +kernel
theorem d_MO_find_0 : decode b_MO_find 0 = .ok (.aload_n 0, 1) := by decide +kernel
theorem d_MO_find_1 : decode b_MO_find 1 = .ok (.aload_n 0, 1) := by decide +kernel
theorem d_MO_find_2 : decode b_MO_find 2 = .ok (.getfield 45, 3) := by decide +kernel
theorem d_MO_find_5 : decode b_MO_find 5 = .ok (.iconst 3, 1) := by decide +kernel
theorem d_MO_find_6 : decode b_MO_find 6 = .ok (.iload_n 1, 1) := by decide +kernel
theorem d_MO_find_7 : decode b_MO_find 7 = .ok (.imul, 1) := by decide +kernel
theorem d_MO_find_8 : decode b_MO_find 8 = .ok (.iaload, 1) := by decide +kernel
theorem d_MO_find_9 : decode b_MO_find 9 = .ok (.invokevirtual 138, 3) := by decide +kernel
theorem d_MO_find_12 : decode b_MO_find 12 = .ok (.aload_n 0, 1) := by decide +kernel
theorem d_MO_find_13 : decode b_MO_find 13 = .ok (.aload_n 0, 1) := by decide +kernel
theorem d_MO_find_14 : decode b_MO_find 14 = .ok (.getfield 45, 3) := by decide +kernel
theorem d_MO_find_17 : decode b_MO_find 17 = .ok (.iconst 3, 1) := by decide +kernel
theorem d_MO_find_18 : decode b_MO_find 18 = .ok (.iload_n 1, 1) := by decide +kernel
theorem d_MO_find_19 : decode b_MO_find 19 = .ok (.imul, 1) := by decide +kernel
theorem d_MO_find_20 : decode b_MO_find 20 = .ok (.iconst 1, 1) := by decide +kernel
theorem d_MO_find_21 : decode b_MO_find 21 = .ok (.iadd, 1) := by decide +kernel
theorem d_MO_find_22 : decode b_MO_find 22 = .ok (.iaload, 1) := by decide +kernel
theorem d_MO_find_23 : decode b_MO_find 23 = .ok (.invokevirtual 138, 3) := by decide +kernel
theorem d_MO_find_26 : decode b_MO_find 26 = .ok (.aload_n 0, 1) := by decide +kernel
theorem d_MO_find_27 : decode b_MO_find 27 = .ok (.aload_n 0, 1) := by decide +kernel
theorem d_MO_find_28 : decode b_MO_find 28 = .ok (.getfield 45, 3) := by decide +kernel
theorem d_MO_find_31 : decode b_MO_find 31 = .ok (.iconst 3, 1) := by decide +kernel
theorem d_MO_find_32 : decode b_MO_find 32 = .ok (.iload_n 1, 1) := by decide +kernel
theorem d_MO_find_33 : decode b_MO_find 33 = .ok (.imul, 1) := by decide +kernel
theorem d_MO_find_34 : decode b_MO_find 34 = .ok (.iconst 2, 1) := by decide +kernel
theorem d_MO_find_35 : decode b_MO_find 35 = .ok (.iadd, 1) := by decide +kernel
theorem d_MO_find_36 : decode b_MO_find 36 = .ok (.iaload, 1) := by decide +kernel
theorem d_MO_find_37 : decode b_MO_find 37 = .ok (.invokevirtual 138, 3) := by decide +kernel
theorem d_MO_find_40 : decode b_MO_find 40 = .ok (.invokestatic 104, 3) := by decide +kernel
theorem d_MO_find_43 : decode b_MO_find 43 = .ok (.istore_n 2, 1) := by decide +kernel
theorem d_MO_find_44 : decode b_MO_find 44 = .ok (.aload_n 0, 1) := by decide +kernel
theorem d_MO_find_45 : decode b_MO_find 45 = .ok (.getfield 39, 3) := by decide +kernel
theorem d_MO_find_48 : decode b_MO_find 48 = .ok (.sipush 4096, 3) := by decide +kernel
theorem d_MO_find_51 : decode b_MO_find 51 = .ok (.aload_n 0, 1) := by decide +kernel
theorem d_MO_find_52 : decode b_MO_find 52 = .ok (.getfield 42, 3) := by decide +kernel
theorem d_MO_find_55 : decode b_MO_find 55 = .ok (.iload_n 1, 1) := by decide +kernel
theorem d_MO_find_56 : decode b_MO_find 56 = .ok (.iaload, 1) := by decide +kernel
theorem d_MO_find_57 : decode b_MO_find 57 = .ok (.imul, 1) := by decide +kernel
theorem d_MO_find_58 : decode b_MO_find 58 = .ok (.iload_n 2, 1) := by decide +kernel
theorem d_MO_find_59 : decode b_MO_find 59 = .ok (.bipush 64, 2) := by decide +kernel
theorem d_MO_find_61 : decode b_MO_find 61 = .ok (.idiv, 1) := by decide +kernel
theorem d_MO_find_62 : decode b_MO_find 62 = .ok (.iadd, 1) := by decide +kernel
theorem d_MO_find_63 : decode b_MO_find 63 = .ok (.laload, 1) := by decide +kernel
theorem d_MO_find_64 : decode b_MO_find 64 = .ok (.iload_n 2, 1) := by decide +kernel
theorem d_MO_find_65 : decode b_MO_find 65 = .ok (.bipush 64, 2) := by decide +kernel
theorem d_MO_find_67 : decode b_MO_find 67 = .ok (.irem, 1) := by decide +kernel
theorem d_MO_find_68 : decode b_MO_find 68 = .ok (.lshr, 1) := by decide +kernel
theorem d_MO_find_69 : decode b_MO_find 69 = .ok (.lconst 1, 1) := by decide +kernel
