theorem d_MO_like_178 : decode b_MO_like 178 = .ok (.iload 9, 2) := by decide +kernel
theorem d_MO_like_180 : decode b_MO_like 180 = .ok (.if_icmp .ne 26, 3) := by decide +kernel
theorem d_MO_like_183 : decode b_MO_like 183 = .ok (.iload_n 3, 1) := by decide +kernel
theorem d_MO_like_184 : decode b_MO_like 184 = .ok (.bipush 64, 2) := by decide +kernel
theorem d_MO_like_186 : decode b_MO_like 186 = .ok (.if_icmp .lt 16, 3) := by decide +kernel
theorem d_MO_like_189 : decode b_MO_like 189 = .ok (.iload_n 3, 1) := by decide +kernel
theorem d_MO_like_190 : decode b_MO_like 190 = .ok (.iload 4, 2) := by decide +kernel
theorem d_MO_like_192 : decode b_MO_like 192 = .ok (.if_icmp .ne 10, 3) := by decide +kernel
theorem d_MO_like_195 : decode b_MO_like 195 = .ok (.iload 8, 2) := by decide +kernel
theorem d_MO_like_197 : decode b_MO_like 197 = .ok (.iload 9, 2) := by decide +kernel
theorem d_MO_like_199 : decode b_MO_like 199 = .ok (.if_icmp .ne 7, 3) := by decide +kernel
theorem d_MO_like_202 : decode b_MO_like 202 = .ok (.iconst 1, 1) := by decide +kernel
theorem d_MO_like_203 : decode b_MO_like 203 = .ok (.goto 4, 3) := by decide +kernel
theorem d_MO_like_206 : decode b_MO_like 206 = .ok (.iconst 0, 1) := by decide +kernel
theorem d_MO_like_207 : decode b_MO_like 207 = .ok (.istore 10, 2) := by decide +kernel
theorem d_MO_like_209 : decode b_MO_like 209 = .ok (.iload 5, 2) := by decide +kernel
theorem d_MO_like_211 : decode b_MO_like 211 = .ok (.iload 10, 2) := by decide +kernel
theorem d_MO_like_213 : decode b_MO_like 213 = .ok (.ifCond .eq 7, 3) := by decide +kernel
theorem d_MO_like_216 : decode b_MO_like 216 = .ok (.iconst 1, 1) := by decide +kernel
theorem d_MO_like_217 : decode b_MO_like 217 = .ok (.goto 4, 3) := by decide +kernel
theorem d_MO_like_220 : decode b_MO_like 220 = .ok (.iconst 0, 1) := by decide +kernel
theorem d_MO_like_221 : decode b_MO_like 221 = .ok (.iadd, 1) := by decide +kernel
theorem d_MO_like_222 : decode b_MO_like 222 = .ok (.istore 5, 2) := by decide +kernel
theorem d_MO_like_224 : decode b_MO_like 224 = .ok (.iinc 6 1, 3) := by decide +kernel
theorem d_MO_like_227 : decode b_MO_like 227 = .ok (.goto (-198), 3) := by decide +kernel
theorem d_MO_like_230 : decode b_MO_like 230 = .ok (.iload 5, 2) := by decide +kernel
theorem d_MO_like_232 : decode b_MO_like 232 = .ok (.ireturn, 1) := by decide +kernel
theorem d_MO_matches_0 : decode b_MO_matches 0 = .ok (.aload_n 0, 1) := by decide +kernel
theorem d_MO_matches_1 : decode b_MO_matches 1 = .ok (.iload_n 1, 1) := by decide +kernel
theorem d_MO_matches_2 : decode b_MO_matches 2 = .ok (.ifCond .lt 11, 3) := by decide +kernel
theorem d_MO_matches_5 : decode b_MO_matches 5 = .ok (.iload_n 1, 1) := by decide +kernel
theorem d_MO_matches_6 : decode b_MO_matches 6 = .ok (.aload_n 0, 1) := by decide +kernel
theorem d_MO_matches_7 : decode b_MO_matches 7 = .ok (.getfield 123, 3) := by decide +kernel
theorem d_MO_matches_10 : decode b_MO_matches 10 = .ok (.if_icmp .lt 7, 3) := by decide +kernel
theorem d_MO_matches_13 : decode b_MO_matches 13 = .ok (.iconst 1, 1) := by decide +kernel
theorem d_MO_matches_14 : decode b_MO_matches 14 = .ok (.goto 4, 3) := by decide +kernel
theorem d_MO_matches_17 : decode b_MO_matches 17 = .ok (.iconst 0, 1) := by decide +kernel
theorem d_MO_matches_18 : decode b_MO_matches 18 = .ok (.putfield 72, 3) := by decide +kernel
theorem d_MO_matches_21 : decode b_MO_matches 21 = .ok (.aload_n 0, 1) := by decide +kernel
theorem d_MO_matches_22 : decode b_MO_matches 22 = .ok (.iconst 0, 1) := by decide +kernel
theorem d_MO_matches_23 : decode b_MO_matches 23 = .ok (.putfield 163, 3) := by decide +kernel
theorem d_MO_matches_26 : decode b_MO_matches 26 = .ok (.aload_n 0, 1) := by decide +kernel
theorem d_MO_matches_27 : decode b_MO_matches 27 = .ok (.getfield 72, 3) := by decide +kernel
theorem d_MO_matches_30 : decode b_MO_matches 30 = .ok (.ifCond .ne 9, 3) := by decide +kernel
theorem d_MO_matches_33 : decode b_MO_matches 33 = .ok (.aload_n 0, 1) := by decide +kernel
theorem d_MO_matches_34 : decode b_MO_matches 34 = .ok (.iload_n 1, 1) := by decide +kernel
theorem d_MO_matches_35 : decode b_MO_matches 35 = .ok (.iconst 0, 1) := by decide +kernel
theorem d_MO_matches_36 : decode b_MO_matches 36 = .ok (.invokevirtual 169, 3) := by decide +kernel
theorem d_MO_matches_39 : decode b_MO_matches 39 = .ok (.aload_n 0, 1) := by decide +kernel
theorem d_MO_matches_40 : decode b_MO_matches 40 = .ok (.getfield 163, 3) := by decide +kernel
theorem d_MO_matches_43 : decode b_MO_matches 43 = .ok (.ireturn, 1) := by decide +kernel
