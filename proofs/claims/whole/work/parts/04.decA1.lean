theorem d_IT_init_0 : decode b_IT_init 0 = .ok (.aload_n 0, 1) := by decide +kernel
theorem d_IT_init_1 : decode b_IT_init 1 = .ok (.invokespecial 3, 3) := by decide +kernel
theorem d_IT_init_4 : decode b_IT_init 4 = .ok (.aload_n 0, 1) := by decide +kernel
theorem d_IT_init_5 : decode b_IT_init 5 = .ok (.iload_n 1, 1) := by decide +kernel
theorem d_IT_init_6 : decode b_IT_init 6 = .ok (.putfield 9, 3) := by decide +kernel
theorem d_IT_init_9 : decode b_IT_init 9 = .ok (.aload_n 0, 1) := by decide +kernel
theorem d_IT_init_10 : decode b_IT_init 10 = .ok (.iload_n 2, 1) := by decide +kernel
theorem d_IT_init_11 : decode b_IT_init 11 = .ok (.putfield 15, 3) := by decide +kernel
theorem d_IT_init_14 : decode b_IT_init 14 = .ok (.aload_n 0, 1) := by decide +kernel
theorem d_IT_init_15 : decode b_IT_init 15 = .ok (.iload_n 3, 1) := by decide +kernel
theorem d_IT_init_16 : decode b_IT_init 16 = .ok (.putfield 18, 3) := by decide +kernel
theorem d_IT_init_19 : decode b_IT_init 19 = .ok (.aload_n 0, 1) := by decide +kernel
theorem d_IT_init_20 : decode b_IT_init 20 = .ok (.iload 4, 2) := by decide +kernel
theorem d_IT_init_22 : decode b_IT_init 22 = .ok (.putfield 21, 3) := by decide +kernel
theorem d_IT_init_25 : decode b_IT_init 25 = .ok (.aload_n 0, 1) := by decide +kernel
theorem d_IT_init_26 : decode b_IT_init 26 = .ok (.iload 5, 2) := by decide +kernel
theorem d_IT_init_28 : decode b_IT_init 28 = .ok (.putfield 24, 3) := by decide +kernel
theorem d_IT_init_31 : decode b_IT_init 31 = .ok (.aload_n 0, 1) := by decide +kernel
theorem d_IT_init_32 : decode b_IT_init 32 = .ok (.iload 6, 2) := by decide +kernel
theorem d_IT_init_34 : decode b_IT_init 34 = .ok (.putfield 27, 3) := by decide +kernel
theorem d_IT_init_37 : decode b_IT_init 37 = .ok (.aload_n 0, 1) := by decide +kernel
theorem d_IT_init_38 : decode b_IT_init 38 = .ok (.iconst 0, 1) := by decide +kernel
theorem d_IT_init_39 : decode b_IT_init 39 = .ok (.putfield 30, 3) := by decide +kernel
theorem d_IT_init_42 : decode b_IT_init 42 = .ok (.aload_n 0, 1) := by decide +kernel
theorem d_IT_init_43 : decode b_IT_init 43 = .ok (.iload_n 3, 1) := by decide +kernel
theorem d_IT_init_44 : decode b_IT_init 44 = .ok (.putfield 33, 3) := by decide +kernel
theorem d_IT_init_47 : decode b_IT_init 47 = .ok (.aload_n 0, 1) := by decide +kernel
theorem d_IT_init_48 : decode b_IT_init 48 = .ok (.iconst 0, 1) := by decide +kernel
theorem d_IT_init_49 : decode b_IT_init 49 = .ok (.putfield 36, 3) := by decide +kernel
theorem d_IT_init_52 : decode b_IT_init 52 = .ok (.return_, 1) := by decide +kernel
theorem d_IT_term_0 : decode b_IT_term 0 = .ok (.iload_n 1, 1) := by decide +kernel
theorem d_IT_term_1 : decode b_IT_term 1 = .ok (.ifCond .ne 10, 3) := by decide +kernel
theorem d_IT_term_4 : decode b_IT_term 4 = .ok (.aload_n 0, 1) := by decide +kernel
theorem d_IT_term_5 : decode b_IT_term 5 = .ok (.getfield 21, 3) := by decide +kernel
theorem d_IT_term_8 : decode b_IT_term 8 = .ok (.goto 19, 3) := by decide +kernel
theorem d_IT_term_11 : decode b_IT_term 11 = .ok (.iload_n 1, 1) := by decide +kernel
theorem d_IT_term_12 : decode b_IT_term 12 = .ok (.iconst 1, 1) := by decide +kernel
theorem d_IT_term_13 : decode b_IT_term 13 = .ok (.if_icmp .ne 10, 3) := by decide +kernel
theorem d_IT_term_16 : decode b_IT_term 16 = .ok (.aload_n 0, 1) := by decide +kernel
theorem d_IT_term_17 : decode b_IT_term 17 = .ok (.getfield 24, 3) := by decide +kernel
theorem d_IT_term_20 : decode b_IT_term 20 = .ok (.goto 7, 3) := by decide +kernel
theorem d_IT_term_23 : decode b_IT_term 23 = .ok (.aload_n 0, 1) := by decide +kernel
theorem d_IT_term_24 : decode b_IT_term 24 = .ok (.getfield 27, 3) := by decide +kernel
theorem d_IT_term_27 : decode b_IT_term 27 = .ok (.ireturn, 1) := by decide +kernel
theorem d_IT_bindsAt_0 : decode b_IT_bindsAt 0 = .ok (.aload_n 0, 1) := by decide +kernel
theorem d_IT_bindsAt_1 : decode b_IT_bindsAt 1 = .ok (.getfield 30, 3) := by decide +kernel
theorem d_IT_bindsAt_4 : decode b_IT_bindsAt 4 = .ok (.iload_n 1, 1) := by decide +kernel
theorem d_IT_bindsAt_5 : decode b_IT_bindsAt 5 = .ok (.ishr, 1) := by decide +kernel
theorem d_IT_bindsAt_6 : decode b_IT_bindsAt 6 = .ok (.iconst 1, 1) := by decide +kernel
theorem d_IT_bindsAt_7 : decode b_IT_bindsAt 7 = .ok (.iand, 1) := by decide +kernel
theorem d_IT_bindsAt_8 : decode b_IT_bindsAt 8 = .ok (.ifCond .eq 7, 3) := by decide +kernel
theorem d_IT_bindsAt_11 : decode b_IT_bindsAt 11 = .ok (.iconst 1, 1) := by decide +kernel
theorem d_IT_bindsAt_12 : decode b_IT_bindsAt 12 = .ok (.goto 4, 3) := by decide +kernel
theorem d_IT_bindsAt_15 : decode b_IT_bindsAt 15 = .ok (.iconst 0, 1) := by decide +kernel
theorem d_IT_bindsAt_16 : decode b_IT_bindsAt 16 = .ok (.ireturn, 1) := by decide +kernel
theorem d_IT_isOpen_0 : decode b_IT_isOpen 0 = .ok (.aload_n 0, 1) := by decide +kernel
theorem d_IT_isOpen_1 : decode b_IT_isOpen 1 = .ok (.getfield 33, 3) := by decide +kernel
theorem d_IT_isOpen_4 : decode b_IT_isOpen 4 = .ok (.istore_n 1, 1) := by decide +kernel
theorem d_IT_isOpen_5 : decode b_IT_isOpen 5 = .ok (.iload_n 1, 1) := by decide +kernel
theorem d_IT_isOpen_6 : decode b_IT_isOpen 6 = .ok (.aload_n 0, 1) := by decide +kernel
theorem d_IT_isOpen_7 : decode b_IT_isOpen 7 = .ok (.getfield 18, 3) := by decide +kernel
theorem d_IT_isOpen_10 : decode b_IT_isOpen 10 = .ok (.if_icmp .ge 19, 3) := by decide +kernel
theorem d_IT_isOpen_13 : decode b_IT_isOpen 13 = .ok (.aload_n 0, 1) := by decide +kernel
theorem d_IT_isOpen_14 : decode b_IT_isOpen 14 = .ok (.iload_n 1, 1) := by decide +kernel
theorem d_IT_isOpen_15 : decode b_IT_isOpen 15 = .ok (.invokevirtual 39, 3) := by decide +kernel
theorem d_IT_isOpen_18 : decode b_IT_isOpen 18 = .ok (.ifCond .ne 5, 3) := by decide +kernel
theorem d_IT_isOpen_21 : decode b_IT_isOpen 21 = .ok (.iconst 0, 1) := by decide +kernel
theorem d_IT_isOpen_22 : decode b_IT_isOpen 22 = .ok (.ireturn, 1) := by decide +kernel
theorem d_IT_isOpen_23 : decode b_IT_isOpen 23 = .ok (.iinc 1 1, 3) := by decide +kernel
theorem d_IT_isOpen_26 : decode b_IT_isOpen 26 = .ok (.goto (-21), 3) := by decide +kernel
theorem d_IT_isOpen_29 : decode b_IT_isOpen 29 = .ok (.iconst 1, 1) := by decide +kernel
theorem d_IT_isOpen_30 : decode b_IT_isOpen 30 = .ok (.ireturn, 1) := by decide +kernel
theorem d_IT_span_0 : decode b_IT_span 0 = .ok (.iconst 1, 1) := by decide +kernel
theorem d_IT_span_1 : decode b_IT_span 1 = .ok (.bipush 6, 2) := by decide +kernel
theorem d_IT_span_3 : decode b_IT_span 3 = .ok (.iconst 3, 1) := by decide +kernel
theorem d_IT_span_4 : decode b_IT_span 4 = .ok (.aload_n 0, 1) := by decide +kernel
theorem d_IT_span_5 : decode b_IT_span 5 = .ok (.getfield 33, 3) := by decide +kernel
theorem d_IT_span_8 : decode b_IT_span 8 = .ok (.isub, 1) := by decide +kernel
theorem d_IT_span_9 : decode b_IT_span 9 = .ok (.imul, 1) := by decide +kernel
theorem d_IT_span_10 : decode b_IT_span 10 = .ok (.ishl, 1) := by decide +kernel
theorem d_IT_span_11 : decode b_IT_span 11 = .ok (.ireturn, 1) := by decide +kernel
theorem d_MA_init_0 : decode b_MA_init 0 = .ok (.aload_n 0, 1) := by decide +kernel
theorem d_MA_init_1 : decode b_MA_init 1 = .ok (.invokespecial 3, 3) := by decide +kernel
theorem d_MA_init_4 : decode b_MA_init 4 = .ok (.aload_n 0, 1) := by decide +kernel
theorem d_MA_init_5 : decode b_MA_init 5 = .ok (.aload_n 1, 1) := by decide +kernel
theorem d_MA_init_6 : decode b_MA_init 6 = .ok (.putfield 9, 3) := by decide +kernel
theorem d_MA_init_9 : decode b_MA_init 9 = .ok (.aload_n 0, 1) := by decide +kernel
theorem d_MA_init_10 : decode b_MA_init 10 = .ok (.bipush 8, 2) := by decide +kernel
theorem d_MA_init_12 : decode b_MA_init 12 = .ok (.newarray .int, 2) := by decide +kernel
theorem d_MA_init_14 : decode b_MA_init 14 = .ok (.putfield 15, 3) := by decide +kernel
theorem d_MA_init_17 : decode b_MA_init 17 = .ok (.return_, 1) := by decide +kernel
theorem d_MA_valueOf_0 : decode b_MA_valueOf 0 = .ok (.iload_n 1, 1) := by decide +kernel
theorem d_MA_valueOf_1 : decode b_MA_valueOf 1 = .ok (.bipush 64, 2) := by decide +kernel
theorem d_MA_valueOf_3 : decode b_MA_valueOf 3 = .ok (.if_icmp .ge 7, 3) := by decide +kernel
theorem d_MA_valueOf_6 : decode b_MA_valueOf 6 = .ok (.iload_n 1, 1) := by decide +kernel
theorem d_MA_valueOf_7 : decode b_MA_valueOf 7 = .ok (.goto 12, 3) := by decide +kernel
theorem d_MA_valueOf_10 : decode b_MA_valueOf 10 = .ok (.aload_n 0, 1) := by decide +kernel
theorem d_MA_valueOf_11 : decode b_MA_valueOf 11 = .ok (.getfield 15, 3) := by decide +kernel
theorem d_MA_valueOf_14 : decode b_MA_valueOf 14 = .ok (.iload_n 1, 1) := by decide +kernel
theorem d_MA_valueOf_15 : decode b_MA_valueOf 15 = .ok (.bipush 64, 2) := by decide +kernel
theorem d_MA_valueOf_17 : decode b_MA_valueOf 17 = .ok (.isub, 1) := by decide +kernel
theorem d_MA_valueOf_18 : decode b_MA_valueOf 18 = .ok (.iaload, 1) := by decide +kernel
theorem d_MA_valueOf_19 : decode b_MA_valueOf 19 = .ok (.ireturn, 1) := by decide +kernel
theorem d_MA_codeOf_0 : decode b_MA_codeOf 0 = .ok (.aload_n 1, 1) := by decide +kernel
theorem d_MA_codeOf_1 : decode b_MA_codeOf 1 = .ok (.getfield 19, 3) := by decide +kernel
theorem d_MA_codeOf_4 : decode b_MA_codeOf 4 = .ok (.istore_n 2, 1) := by decide +kernel
theorem d_MA_codeOf_5 : decode b_MA_codeOf 5 = .ok (.iconst 0, 1) := by decide +kernel
theorem d_MA_codeOf_6 : decode b_MA_codeOf 6 = .ok (.istore_n 3, 1) := by decide +kernel
theorem d_MA_codeOf_7 : decode b_MA_codeOf 7 = .ok (.iload_n 3, 1) := by decide +kernel
theorem d_MA_codeOf_8 : decode b_MA_codeOf 8 = .ok (.iconst 3, 1) := by decide +kernel
theorem d_MA_codeOf_9 : decode b_MA_codeOf 9 = .ok (.if_icmp .ge 36, 3) := by decide +kernel
theorem d_MA_codeOf_12 : decode b_MA_codeOf 12 = .ok (.iload_n 2, 1) := by decide +kernel
theorem d_MA_codeOf_13 : decode b_MA_codeOf 13 = .ok (.bipush 64, 2) := by decide +kernel
theorem d_MA_codeOf_15 : decode b_MA_codeOf 15 = .ok (.imul, 1) := by decide +kernel
theorem d_MA_codeOf_16 : decode b_MA_codeOf 16 = .ok (.iload_n 3, 1) := by decide +kernel
theorem d_MA_codeOf_17 : decode b_MA_codeOf 17 = .ok (.aload_n 1, 1) := by decide +kernel
theorem d_MA_codeOf_18 : decode b_MA_codeOf 18 = .ok (.getfield 25, 3) := by decide +kernel
theorem d_MA_codeOf_21 : decode b_MA_codeOf 21 = .ok (.if_icmp .ge 15, 3) := by decide +kernel
theorem d_MA_codeOf_24 : decode b_MA_codeOf 24 = .ok (.aload_n 0, 1) := by decide +kernel
theorem d_MA_codeOf_25 : decode b_MA_codeOf 25 = .ok (.aload_n 1, 1) := by decide +kernel
theorem d_MA_codeOf_26 : decode b_MA_codeOf 26 = .ok (.iload_n 3, 1) := by decide +kernel
theorem d_MA_codeOf_27 : decode b_MA_codeOf 27 = .ok (.invokevirtual 28, 3) := by decide +kernel
theorem d_MA_codeOf_30 : decode b_MA_codeOf 30 = .ok (.invokevirtual 32, 3) := by decide +kernel
theorem d_MA_codeOf_33 : decode b_MA_codeOf 33 = .ok (.goto 4, 3) := by decide +kernel
theorem d_MA_codeOf_36 : decode b_MA_codeOf 36 = .ok (.iconst 0, 1) := by decide +kernel
theorem d_MA_codeOf_37 : decode b_MA_codeOf 37 = .ok (.iadd, 1) := by decide +kernel
theorem d_MA_codeOf_38 : decode b_MA_codeOf 38 = .ok (.istore_n 2, 1) := by decide +kernel
theorem d_MA_codeOf_39 : decode b_MA_codeOf 39 = .ok (.iinc 3 1, 3) := by decide +kernel
theorem d_MA_codeOf_42 : decode b_MA_codeOf 42 = .ok (.goto (-35), 3) := by decide +kernel
theorem d_MA_codeOf_45 : decode b_MA_codeOf 45 = .ok (.iload_n 2, 1) := by decide +kernel
theorem d_MA_codeOf_46 : decode b_MA_codeOf 46 = .ok (.ireturn, 1) := by decide +kernel
theorem d_MA_fits_0 : decode b_MA_fits 0 = .ok (.aload_n 1, 1) := by decide +kernel
theorem d_MA_fits_1 : decode b_MA_fits 1 = .ok (.getfield 25, 3) := by decide +kernel
theorem d_MA_fits_4 : decode b_MA_fits 4 = .ok (.istore_n 3, 1) := by decide +kernel
theorem d_MA_fits_5 : decode b_MA_fits 5 = .ok (.iload_n 3, 1) := by decide +kernel
theorem d_MA_fits_6 : decode b_MA_fits 6 = .ok (.aload_n 1, 1) := by decide +kernel
theorem d_MA_fits_7 : decode b_MA_fits 7 = .ok (.getfield 35, 3) := by decide +kernel
theorem d_MA_fits_10 : decode b_MA_fits 10 = .ok (.if_icmp .ge 59, 3) := by decide +kernel
theorem d_MA_fits_13 : decode b_MA_fits 13 = .ok (.aload_n 1, 1) := by decide +kernel
theorem d_MA_fits_14 : decode b_MA_fits 14 = .ok (.iload_n 3, 1) := by decide +kernel
theorem d_MA_fits_15 : decode b_MA_fits 15 = .ok (.invokevirtual 28, 3) := by decide +kernel
theorem d_MA_fits_18 : decode b_MA_fits 18 = .ok (.istore 4, 2) := by decide +kernel
theorem d_MA_fits_20 : decode b_MA_fits 20 = .ok (.iload_n 2, 1) := by decide +kernel
theorem d_MA_fits_21 : decode b_MA_fits 21 = .ok (.iload_n 3, 1) := by decide +kernel
theorem d_MA_fits_22 : decode b_MA_fits 22 = .ok (.invokestatic 38, 3) := by decide +kernel
theorem d_MA_fits_25 : decode b_MA_fits 25 = .ok (.istore 5, 2) := by decide +kernel
theorem d_MA_fits_27 : decode b_MA_fits 27 = .ok (.aload_n 1, 1) := by decide +kernel
theorem d_MA_fits_28 : decode b_MA_fits 28 = .ok (.iload_n 3, 1) := by decide +kernel
theorem d_MA_fits_29 : decode b_MA_fits 29 = .ok (.invokevirtual 42, 3) := by decide +kernel
theorem d_MA_fits_32 : decode b_MA_fits 32 = .ok (.ifCond .eq 18, 3) := by decide +kernel
theorem d_MA_fits_35 : decode b_MA_fits 35 = .ok (.aload_n 0, 1) := by decide +kernel
theorem d_MA_fits_36 : decode b_MA_fits 36 = .ok (.getfield 15, 3) := by decide +kernel
theorem d_MA_fits_39 : decode b_MA_fits 39 = .ok (.iload 4, 2) := by decide +kernel
theorem d_MA_fits_41 : decode b_MA_fits 41 = .ok (.bipush 64, 2) := by decide +kernel
theorem d_MA_fits_43 : decode b_MA_fits 43 = .ok (.isub, 1) := by decide +kernel
theorem d_MA_fits_44 : decode b_MA_fits 44 = .ok (.iload 5, 2) := by decide +kernel
theorem d_MA_fits_46 : decode b_MA_fits 46 = .ok (.iastore, 1) := by decide +kernel
theorem d_MA_fits_47 : decode b_MA_fits 47 = .ok (.goto 16, 3) := by decide +kernel
theorem d_MA_fits_50 : decode b_MA_fits 50 = .ok (.aload_n 0, 1) := by decide +kernel
theorem d_MA_fits_51 : decode b_MA_fits 51 = .ok (.iload 4, 2) := by decide +kernel
theorem d_MA_fits_53 : decode b_MA_fits 53 = .ok (.invokevirtual 32, 3) := by decide +kernel
theorem d_MA_fits_56 : decode b_MA_fits 56 = .ok (.iload 5, 2) := by decide +kernel
theorem d_MA_fits_58 : decode b_MA_fits 58 = .ok (.if_icmp .eq 5, 3) := by decide +kernel
theorem d_MA_fits_61 : decode b_MA_fits 61 = .ok (.iconst 0, 1) := by decide +kernel
theorem d_MA_fits_62 : decode b_MA_fits 62 = .ok (.ireturn, 1) := by decide +kernel
theorem d_MA_fits_63 : decode b_MA_fits 63 = .ok (.iinc 3 1, 3) := by decide +kernel
theorem d_MA_fits_66 : decode b_MA_fits 66 = .ok (.goto (-61), 3) := by decide +kernel
theorem d_MA_fits_69 : decode b_MA_fits 69 = .ok (.iconst 1, 1) := by decide +kernel
theorem d_MA_fits_70 : decode b_MA_fits 70 = .ok (.ireturn, 1) := by decide +kernel
theorem d_MA_checksHold_0 : decode b_MA_checksHold 0 = .ok (.iconst 0, 1) := by decide +kernel
theorem d_MA_checksHold_1 : decode b_MA_checksHold 1 = .ok (.istore_n 3, 1) := by decide +kernel
theorem d_MA_checksHold_2 : decode b_MA_checksHold 2 = .ok (.iload_n 3, 1) := by decide +kernel
theorem d_MA_checksHold_3 : decode b_MA_checksHold 3 = .ok (.aload_n 1, 1) := by decide +kernel
theorem d_MA_checksHold_4 : decode b_MA_checksHold 4 = .ok (.getfield 46, 3) := by decide +kernel
theorem d_MA_checksHold_7 : decode b_MA_checksHold 7 = .ok (.if_icmp .ge 74, 3) := by decide +kernel
theorem d_MA_checksHold_10 : decode b_MA_checksHold 10 = .ok (.aload_n 1, 1) := by decide +kernel
theorem d_MA_checksHold_11 : decode b_MA_checksHold 11 = .ok (.getfield 51, 3) := by decide +kernel
theorem d_MA_checksHold_14 : decode b_MA_checksHold 14 = .ok (.iload_n 3, 1) := by decide +kernel
theorem d_MA_checksHold_15 : decode b_MA_checksHold 15 = .ok (.aaload, 1) := by decide +kernel
theorem d_MA_checksHold_16 : decode b_MA_checksHold 16 = .ok (.astore 4, 2) := by decide +kernel
theorem d_MA_checksHold_18 : decode b_MA_checksHold 18 = .ok (.aload 4, 2) := by decide +kernel
theorem d_MA_checksHold_20 : decode b_MA_checksHold 20 = .ok (.getfield 55, 3) := by decide +kernel
theorem d_MA_checksHold_23 : decode b_MA_checksHold 23 = .ok (.iload_n 2, 1) := by decide +kernel
theorem d_MA_checksHold_24 : decode b_MA_checksHold 24 = .ok (.if_icmp .ne 51, 3) := by decide +kernel
theorem d_MA_checksHold_27 : decode b_MA_checksHold 27 = .ok (.aload 4, 2) := by decide +kernel
theorem d_MA_checksHold_29 : decode b_MA_checksHold 29 = .ok (.getfield 58, 3) := by decide +kernel
theorem d_MA_checksHold_32 : decode b_MA_checksHold 32 = .ok (.iconst 1, 1) := by decide +kernel
theorem d_MA_checksHold_33 : decode b_MA_checksHold 33 = .ok (.if_icmp .ne 27, 3) := by decide +kernel
theorem d_MA_checksHold_36 : decode b_MA_checksHold 36 = .ok (.aload_n 0, 1) := by decide +kernel
theorem d_MA_checksHold_37 : decode b_MA_checksHold 37 = .ok (.getfield 9, 3) := by decide +kernel
theorem d_MA_checksHold_40 : decode b_MA_checksHold 40 = .ok (.aload_n 0, 1) := by decide +kernel
theorem d_MA_checksHold_41 : decode b_MA_checksHold 41 = .ok (.aload 4, 2) := by decide +kernel
theorem d_MA_checksHold_43 : decode b_MA_checksHold 43 = .ok (.invokevirtual 61, 3) := by decide +kernel
theorem d_MA_checksHold_46 : decode b_MA_checksHold 46 = .ok (.invokevirtual 65, 3) := by decide +kernel
theorem d_MA_checksHold_49 : decode b_MA_checksHold 49 = .ok (.ifCond .ne 7, 3) := by decide +kernel
theorem d_MA_checksHold_52 : decode b_MA_checksHold 52 = .ok (.iconst 1, 1) := by decide +kernel
theorem d_MA_checksHold_53 : decode b_MA_checksHold 53 = .ok (.goto 13, 3) := by decide +kernel
theorem d_MA_checksHold_56 : decode b_MA_checksHold 56 = .ok (.iconst 0, 1) := by decide +kernel
theorem d_MA_checksHold_57 : decode b_MA_checksHold 57 = .ok (.goto 9, 3) := by decide +kernel
theorem d_MA_checksHold_60 : decode b_MA_checksHold 60 = .ok (.aload_n 0, 1) := by decide +kernel
theorem d_MA_checksHold_61 : decode b_MA_checksHold 61 = .ok (.aload 4, 2) := by decide +kernel
theorem d_MA_checksHold_63 : decode b_MA_checksHold 63 = .ok (.invokevirtual 70, 3) := by decide +kernel
theorem d_MA_checksHold_66 : decode b_MA_checksHold 66 = .ok (.istore 5, 2) := by decide +kernel
theorem d_MA_checksHold_68 : decode b_MA_checksHold 68 = .ok (.iload 5, 2) := by decide +kernel
theorem d_MA_checksHold_70 : decode b_MA_checksHold 70 = .ok (.ifCond .ne 5, 3) := by decide +kernel
theorem d_MA_checksHold_73 : decode b_MA_checksHold 73 = .ok (.iconst 0, 1) := by decide +kernel
theorem d_MA_checksHold_74 : decode b_MA_checksHold 74 = .ok (.ireturn, 1) := by decide +kernel
theorem d_MA_checksHold_75 : decode b_MA_checksHold 75 = .ok (.iinc 3 1, 3) := by decide +kernel
theorem d_MA_checksHold_78 : decode b_MA_checksHold 78 = .ok (.goto (-76), 3) := by decide +kernel
theorem d_MA_checksHold_81 : decode b_MA_checksHold 81 = .ok (.iconst 1, 1) := by decide +kernel
theorem d_MA_checksHold_82 : decode b_MA_checksHold 82 = .ok (.ireturn, 1) := by decide +kernel
theorem d_MA_comparisonHolds_0 : decode b_MA_comparisonHolds 0 = .ok (.aload_n 0, 1) := by decide +kernel
theorem d_MA_comparisonHolds_1 : decode b_MA_comparisonHolds 1 = .ok (.aload_n 1, 1) := by decide +kernel
theorem d_MA_comparisonHolds_2 : decode b_MA_comparisonHolds 2 = .ok (.getfield 74, 3) := by decide +kernel
theorem d_MA_comparisonHolds_5 : decode b_MA_comparisonHolds 5 = .ok (.invokevirtual 32, 3) := by decide +kernel
theorem d_MA_comparisonHolds_8 : decode b_MA_comparisonHolds 8 = .ok (.istore_n 2, 1) := by decide +kernel
theorem d_MA_comparisonHolds_9 : decode b_MA_comparisonHolds 9 = .ok (.aload_n 0, 1) := by decide +kernel
theorem d_MA_comparisonHolds_10 : decode b_MA_comparisonHolds 10 = .ok (.aload_n 1, 1) := by decide +kernel
theorem d_MA_comparisonHolds_11 : decode b_MA_comparisonHolds 11 = .ok (.getfield 77, 3) := by decide +kernel
theorem d_MA_comparisonHolds_14 : decode b_MA_comparisonHolds 14 = .ok (.invokevirtual 32, 3) := by decide +kernel
theorem d_MA_comparisonHolds_17 : decode b_MA_comparisonHolds 17 = .ok (.istore_n 3, 1) := by decide +kernel
theorem d_MA_comparisonHolds_18 : decode b_MA_comparisonHolds 18 = .ok (.aload_n 1, 1) := by decide +kernel
theorem d_MA_comparisonHolds_19 : decode b_MA_comparisonHolds 19 = .ok (.getfield 58, 3) := by decide +kernel
theorem d_MA_comparisonHolds_22 : decode b_MA_comparisonHolds 22 = .ok (.iconst 2, 1) := by decide +kernel
theorem d_MA_comparisonHolds_23 : decode b_MA_comparisonHolds 23 = .ok (.if_icmp .ne 16, 3) := by decide +kernel
theorem d_MA_comparisonHolds_26 : decode b_MA_comparisonHolds 26 = .ok (.iload_n 2, 1) := by decide +kernel
theorem d_MA_comparisonHolds_27 : decode b_MA_comparisonHolds 27 = .ok (.iload_n 3, 1) := by decide +kernel
theorem d_MA_comparisonHolds_28 : decode b_MA_comparisonHolds 28 = .ok (.if_icmp .ge 7, 3) := by decide +kernel
theorem d_MA_comparisonHolds_31 : decode b_MA_comparisonHolds 31 = .ok (.iconst 1, 1) := by decide +kernel
theorem d_MA_comparisonHolds_32 : decode b_MA_comparisonHolds 32 = .ok (.goto 17, 3) := by decide +kernel
theorem d_MA_comparisonHolds_35 : decode b_MA_comparisonHolds 35 = .ok (.iconst 0, 1) := by decide +kernel
theorem d_MA_comparisonHolds_36 : decode b_MA_comparisonHolds 36 = .ok (.goto 13, 3) := by decide +kernel
theorem d_MA_comparisonHolds_39 : decode b_MA_comparisonHolds 39 = .ok (.iload_n 2, 1) := by decide +kernel
theorem d_MA_comparisonHolds_40 : decode b_MA_comparisonHolds 40 = .ok (.iload_n 3, 1) := by decide +kernel
theorem d_MA_comparisonHolds_41 : decode b_MA_comparisonHolds 41 = .ok (.if_icmp .eq 7, 3) := by decide +kernel
theorem d_MA_comparisonHolds_44 : decode b_MA_comparisonHolds 44 = .ok (.iconst 1, 1) := by decide +kernel
theorem d_MA_comparisonHolds_45 : decode b_MA_comparisonHolds 45 = .ok (.goto 4, 3) := by decide +kernel
theorem d_MA_comparisonHolds_48 : decode b_MA_comparisonHolds 48 = .ok (.iconst 0, 1) := by decide +kernel
theorem d_MA_comparisonHolds_49 : decode b_MA_comparisonHolds 49 = .ok (.ireturn, 1) := by decide +kernel
theorem d_MA_countMatches_0 : decode b_MA_countMatches 0 = .ok (.aload_n 0, 1) := by decide +kernel
theorem d_MA_countMatches_1 : decode b_MA_countMatches 1 = .ok (.aload_n 1, 1) := by decide +kernel
theorem d_MA_countMatches_2 : decode b_MA_countMatches 2 = .ok (.iconst 0, 1) := by decide +kernel
theorem d_MA_countMatches_3 : decode b_MA_countMatches 3 = .ok (.invokevirtual 80, 3) := by decide +kernel
theorem d_MA_countMatches_6 : decode b_MA_countMatches 6 = .ok (.ireturn, 1) := by decide +kernel
theorem d_MA_countFrom_0 : decode b_MA_countFrom 0 = .ok (.aload_n 0, 1) := by decide +kernel
theorem d_MA_countFrom_1 : decode b_MA_countFrom 1 = .ok (.aload_n 1, 1) := by decide +kernel
theorem d_MA_countFrom_2 : decode b_MA_countFrom 2 = .ok (.iload_n 2, 1) := by decide +kernel
theorem d_MA_countFrom_3 : decode b_MA_countFrom 3 = .ok (.invokevirtual 84, 3) := by decide +kernel
theorem d_MA_countFrom_6 : decode b_MA_countFrom 6 = .ok (.ifCond .ne 5, 3) := by decide +kernel
theorem d_MA_countFrom_9 : decode b_MA_countFrom 9 = .ok (.iconst 0, 1) := by decide +kernel
theorem d_MA_countFrom_10 : decode b_MA_countFrom 10 = .ok (.ireturn, 1) := by decide +kernel
theorem d_MA_countFrom_11 : decode b_MA_countFrom 11 = .ok (.iload_n 2, 1) := by decide +kernel
theorem d_MA_countFrom_12 : decode b_MA_countFrom 12 = .ok (.aload_n 1, 1) := by decide +kernel
theorem d_MA_countFrom_13 : decode b_MA_countFrom 13 = .ok (.getfield 88, 3) := by decide +kernel
theorem d_MA_countFrom_16 : decode b_MA_countFrom 16 = .ok (.if_icmp .lt 5, 3) := by decide +kernel
theorem d_MA_countFrom_19 : decode b_MA_countFrom 19 = .ok (.iconst 1, 1) := by decide +kernel
theorem d_MA_countFrom_20 : decode b_MA_countFrom 20 = .ok (.ireturn, 1) := by decide +kernel
theorem d_MA_countFrom_21 : decode b_MA_countFrom 21 = .ok (.aload_n 1, 1) := by decide +kernel
theorem d_MA_countFrom_22 : decode b_MA_countFrom 22 = .ok (.getfield 91, 3) := by decide +kernel
theorem d_MA_countFrom_25 : decode b_MA_countFrom 25 = .ok (.iload_n 2, 1) := by decide +kernel
theorem d_MA_countFrom_26 : decode b_MA_countFrom 26 = .ok (.aaload, 1) := by decide +kernel
theorem d_MA_countFrom_27 : decode b_MA_countFrom 27 = .ok (.astore_n 3, 1) := by decide +kernel
theorem d_MA_countFrom_28 : decode b_MA_countFrom 28 = .ok (.aload_n 0, 1) := by decide +kernel
theorem d_MA_countFrom_29 : decode b_MA_countFrom 29 = .ok (.aload_n 3, 1) := by decide +kernel
theorem d_MA_countFrom_30 : decode b_MA_countFrom 30 = .ok (.invokevirtual 61, 3) := by decide +kernel
theorem d_MA_countFrom_33 : decode b_MA_countFrom 33 = .ok (.istore 4, 2) := by decide +kernel
theorem d_MA_countFrom_35 : decode b_MA_countFrom 35 = .ok (.iload 4, 2) := by decide +kernel
theorem d_MA_countFrom_37 : decode b_MA_countFrom 37 = .ok (.aload_n 3, 1) := by decide +kernel
theorem d_MA_countFrom_38 : decode b_MA_countFrom 38 = .ok (.invokevirtual 94, 3) := by decide +kernel
theorem d_MA_countFrom_41 : decode b_MA_countFrom 41 = .ok (.iadd, 1) := by decide +kernel
theorem d_MA_countFrom_42 : decode b_MA_countFrom 42 = .ok (.istore 5, 2) := by decide +kernel
theorem d_MA_countFrom_44 : decode b_MA_countFrom 44 = .ok (.aload_n 0, 1) := by decide +kernel
theorem d_MA_countFrom_45 : decode b_MA_countFrom 45 = .ok (.getfield 9, 3) := by decide +kernel
theorem d_MA_countFrom_48 : decode b_MA_countFrom 48 = .ok (.iload 4, 2) := by decide +kernel
theorem d_MA_countFrom_50 : decode b_MA_countFrom 50 = .ok (.invokevirtual 98, 3) := by decide +kernel
theorem d_MA_countFrom_53 : decode b_MA_countFrom 53 = .ok (.istore 6, 2) := by decide +kernel
theorem d_MA_countFrom_55 : decode b_MA_countFrom 55 = .ok (.aload_n 1, 1) := by decide +kernel
theorem d_MA_countFrom_56 : decode b_MA_countFrom 56 = .ok (.iload_n 2, 1) := by decide +kernel
theorem d_MA_countFrom_57 : decode b_MA_countFrom 57 = .ok (.invokestatic 101, 3) := by decide +kernel
theorem d_MA_countFrom_60 : decode b_MA_countFrom 60 = .ok (.ifCond .eq 16, 3) := by decide +kernel
theorem d_MA_countFrom_63 : decode b_MA_countFrom 63 = .ok (.aload_n 0, 1) := by decide +kernel
theorem d_MA_countFrom_64 : decode b_MA_countFrom 64 = .ok (.getfield 9, 3) := by decide +kernel
theorem d_MA_countFrom_67 : decode b_MA_countFrom 67 = .ok (.iload 5, 2) := by decide +kernel
theorem d_MA_countFrom_69 : decode b_MA_countFrom 69 = .ok (.invokevirtual 98, 3) := by decide +kernel
theorem d_MA_countFrom_72 : decode b_MA_countFrom 72 = .ok (.iload 6, 2) := by decide +kernel
theorem d_MA_countFrom_74 : decode b_MA_countFrom 74 = .ok (.isub, 1) := by decide +kernel
theorem d_MA_countFrom_75 : decode b_MA_countFrom 75 = .ok (.ireturn, 1) := by decide +kernel
theorem d_MA_countFrom_76 : decode b_MA_countFrom 76 = .ok (.iconst 0, 1) := by decide +kernel
theorem d_MA_countFrom_77 : decode b_MA_countFrom 77 = .ok (.istore 7, 2) := by decide +kernel
theorem d_MA_countFrom_79 : decode b_MA_countFrom 79 = .ok (.iload 6, 2) := by decide +kernel
theorem d_MA_countFrom_81 : decode b_MA_countFrom 81 = .ok (.istore 8, 2) := by decide +kernel
theorem d_MA_countFrom_83 : decode b_MA_countFrom 83 = .ok (.iload 8, 2) := by decide +kernel
theorem d_MA_countFrom_85 : decode b_MA_countFrom 85 = .ok (.aload_n 0, 1) := by decide +kernel
theorem d_MA_countFrom_86 : decode b_MA_countFrom 86 = .ok (.getfield 9, 3) := by decide +kernel
theorem d_MA_countFrom_89 : decode b_MA_countFrom 89 = .ok (.getfield 104, 3) := by decide +kernel
theorem d_MA_countFrom_92 : decode b_MA_countFrom 92 = .ok (.if_icmp .ge 55, 3) := by decide +kernel
theorem d_MA_countFrom_95 : decode b_MA_countFrom 95 = .ok (.aload_n 0, 1) := by decide +kernel
theorem d_MA_countFrom_96 : decode b_MA_countFrom 96 = .ok (.getfield 9, 3) := by decide +kernel
theorem d_MA_countFrom_99 : decode b_MA_countFrom 99 = .ok (.getfield 107, 3) := by decide +kernel
theorem d_MA_countFrom_102 : decode b_MA_countFrom 102 = .ok (.iload 8, 2) := by decide +kernel
theorem d_MA_countFrom_104 : decode b_MA_countFrom 104 = .ok (.iaload, 1) := by decide +kernel
theorem d_MA_countFrom_105 : decode b_MA_countFrom 105 = .ok (.iload 5, 2) := by decide +kernel
theorem d_MA_countFrom_107 : decode b_MA_countFrom 107 = .ok (.if_icmp .ge 40, 3) := by decide +kernel
theorem d_MA_countFrom_110 : decode b_MA_countFrom 110 = .ok (.aload_n 0, 1) := by decide +kernel
theorem d_MA_countFrom_111 : decode b_MA_countFrom 111 = .ok (.aload_n 3, 1) := by decide +kernel
theorem d_MA_countFrom_112 : decode b_MA_countFrom 112 = .ok (.aload_n 0, 1) := by decide +kernel
theorem d_MA_countFrom_113 : decode b_MA_countFrom 113 = .ok (.getfield 9, 3) := by decide +kernel
theorem d_MA_countFrom_116 : decode b_MA_countFrom 116 = .ok (.getfield 107, 3) := by decide +kernel
theorem d_MA_countFrom_119 : decode b_MA_countFrom 119 = .ok (.iload 8, 2) := by decide +kernel
theorem d_MA_countFrom_121 : decode b_MA_countFrom 121 = .ok (.iaload, 1) := by decide +kernel
theorem d_MA_countFrom_122 : decode b_MA_countFrom 122 = .ok (.invokevirtual 110, 3) := by decide +kernel
theorem d_MA_countFrom_125 : decode b_MA_countFrom 125 = .ok (.ifCond .eq 16, 3) := by decide +kernel
theorem d_MA_countFrom_128 : decode b_MA_countFrom 128 = .ok (.iload 7, 2) := by decide +kernel
theorem d_MA_countFrom_130 : decode b_MA_countFrom 130 = .ok (.aload_n 0, 1) := by decide +kernel
theorem d_MA_countFrom_131 : decode b_MA_countFrom 131 = .ok (.aload_n 1, 1) := by decide +kernel
theorem d_MA_countFrom_132 : decode b_MA_countFrom 132 = .ok (.iload_n 2, 1) := by decide +kernel
theorem d_MA_countFrom_133 : decode b_MA_countFrom 133 = .ok (.iconst 1, 1) := by decide +kernel
theorem d_MA_countFrom_134 : decode b_MA_countFrom 134 = .ok (.iadd, 1) := by decide +kernel
theorem d_MA_countFrom_135 : decode b_MA_countFrom 135 = .ok (.invokevirtual 80, 3) := by decide +kernel
theorem d_MA_countFrom_138 : decode b_MA_countFrom 138 = .ok (.iadd, 1) := by decide +kernel
theorem d_MA_countFrom_139 : decode b_MA_countFrom 139 = .ok (.istore 7, 2) := by decide +kernel
theorem d_MA_countFrom_141 : decode b_MA_countFrom 141 = .ok (.iinc 8 1, 3) := by decide +kernel
theorem d_MA_countFrom_144 : decode b_MA_countFrom 144 = .ok (.goto (-61), 3) := by decide +kernel
theorem d_MA_countFrom_147 : decode b_MA_countFrom 147 = .ok (.iload 7, 2) := by decide +kernel
theorem d_MA_countFrom_149 : decode b_MA_countFrom 149 = .ok (.ireturn, 1) := by decide +kernel
theorem d_MA_isOpenEnd_0 : decode b_MA_isOpenEnd 0 = .ok (.iload_n 1, 1) := by decide +kernel
theorem d_MA_isOpenEnd_1 : decode b_MA_isOpenEnd 1 = .ok (.iconst 1, 1) := by decide +kernel
theorem d_MA_isOpenEnd_2 : decode b_MA_isOpenEnd 2 = .ok (.iadd, 1) := by decide +kernel
theorem d_MA_isOpenEnd_3 : decode b_MA_isOpenEnd 3 = .ok (.aload_n 0, 1) := by decide +kernel
theorem d_MA_isOpenEnd_4 : decode b_MA_isOpenEnd 4 = .ok (.getfield 88, 3) := by decide +kernel
theorem d_MA_isOpenEnd_7 : decode b_MA_isOpenEnd 7 = .ok (.if_icmp .lt 15, 3) := by decide +kernel
theorem d_MA_isOpenEnd_10 : decode b_MA_isOpenEnd 10 = .ok (.aload_n 0, 1) := by decide +kernel
theorem d_MA_isOpenEnd_11 : decode b_MA_isOpenEnd 11 = .ok (.getfield 91, 3) := by decide +kernel
theorem d_MA_isOpenEnd_14 : decode b_MA_isOpenEnd 14 = .ok (.iload_n 1, 1) := by decide +kernel
theorem d_MA_isOpenEnd_15 : decode b_MA_isOpenEnd 15 = .ok (.aaload, 1) := by decide +kernel
theorem d_MA_isOpenEnd_16 : decode b_MA_isOpenEnd 16 = .ok (.invokevirtual 114, 3) := by decide +kernel
theorem d_MA_isOpenEnd_19 : decode b_MA_isOpenEnd 19 = .ok (.ifCond .ne 5, 3) := by decide +kernel
theorem d_MA_isOpenEnd_22 : decode b_MA_isOpenEnd 22 = .ok (.iconst 0, 1) := by decide +kernel
theorem d_MA_isOpenEnd_23 : decode b_MA_isOpenEnd 23 = .ok (.ireturn, 1) := by decide +kernel
theorem d_MA_isOpenEnd_24 : decode b_MA_isOpenEnd 24 = .ok (.iconst 0, 1) := by decide +kernel
theorem d_MA_isOpenEnd_25 : decode b_MA_isOpenEnd 25 = .ok (.istore_n 2, 1) := by decide +kernel
theorem d_MA_isOpenEnd_26 : decode b_MA_isOpenEnd 26 = .ok (.iload_n 2, 1) := by decide +kernel
theorem d_MA_isOpenEnd_27 : decode b_MA_isOpenEnd 27 = .ok (.aload_n 0, 1) := by decide +kernel
theorem d_MA_isOpenEnd_28 : decode b_MA_isOpenEnd 28 = .ok (.getfield 46, 3) := by decide +kernel
theorem d_MA_isOpenEnd_31 : decode b_MA_isOpenEnd 31 = .ok (.if_icmp .ge 27, 3) := by decide +kernel
theorem d_MA_isOpenEnd_34 : decode b_MA_isOpenEnd 34 = .ok (.aload_n 0, 1) := by decide +kernel
theorem d_MA_isOpenEnd_35 : decode b_MA_isOpenEnd 35 = .ok (.getfield 51, 3) := by decide +kernel
theorem d_MA_isOpenEnd_38 : decode b_MA_isOpenEnd 38 = .ok (.iload_n 2, 1) := by decide +kernel
theorem d_MA_isOpenEnd_39 : decode b_MA_isOpenEnd 39 = .ok (.aaload, 1) := by decide +kernel
theorem d_MA_isOpenEnd_40 : decode b_MA_isOpenEnd 40 = .ok (.getfield 55, 3) := by decide +kernel
theorem d_MA_isOpenEnd_43 : decode b_MA_isOpenEnd 43 = .ok (.aload_n 0, 1) := by decide +kernel
theorem d_MA_isOpenEnd_44 : decode b_MA_isOpenEnd 44 = .ok (.getfield 88, 3) := by decide +kernel
theorem d_MA_isOpenEnd_47 : decode b_MA_isOpenEnd 47 = .ok (.if_icmp .ne 5, 3) := by decide +kernel
theorem d_MA_isOpenEnd_50 : decode b_MA_isOpenEnd 50 = .ok (.iconst 0, 1) := by decide +kernel
theorem d_MA_isOpenEnd_51 : decode b_MA_isOpenEnd 51 = .ok (.ireturn, 1) := by decide +kernel
theorem d_MA_isOpenEnd_52 : decode b_MA_isOpenEnd 52 = .ok (.iinc 2 1, 3) := by decide +kernel
theorem d_MA_isOpenEnd_55 : decode b_MA_isOpenEnd 55 = .ok (.goto (-29), 3) := by decide +kernel
theorem d_MA_isOpenEnd_58 : decode b_MA_isOpenEnd 58 = .ok (.iconst 1, 1) := by decide +kernel
theorem d_MA_isOpenEnd_59 : decode b_MA_isOpenEnd 59 = .ok (.ireturn, 1) := by decide +kernel
theorem d_RU_init_0 : decode b_RU_init 0 = .ok (.aload_n 0, 1) := by decide +kernel
theorem d_RU_init_1 : decode b_RU_init 1 = .ok (.invokespecial 3, 3) := by decide +kernel
theorem d_RU_init_4 : decode b_RU_init 4 = .ok (.aload_n 0, 1) := by decide +kernel
theorem d_RU_init_5 : decode b_RU_init 5 = .ok (.aload_n 1, 1) := by decide +kernel
theorem d_RU_init_6 : decode b_RU_init 6 = .ok (.putfield 9, 3) := by decide +kernel
theorem d_RU_init_9 : decode b_RU_init 9 = .ok (.aload_n 0, 1) := by decide +kernel
theorem d_RU_init_10 : decode b_RU_init 10 = .ok (.iconst 3, 1) := by decide +kernel
theorem d_RU_init_11 : decode b_RU_init 11 = .ok (.anewarray 15, 3) := by decide +kernel
theorem d_RU_init_14 : decode b_RU_init 14 = .ok (.putfield 17, 3) := by decide +kernel
theorem d_RU_init_17 : decode b_RU_init 17 = .ok (.aload_n 0, 1) := by decide +kernel
theorem d_RU_init_18 : decode b_RU_init 18 = .ok (.bipush 6, 2) := by decide +kernel
theorem d_RU_init_20 : decode b_RU_init 20 = .ok (.anewarray 15, 3) := by decide +kernel
theorem d_RU_init_23 : decode b_RU_init 23 = .ok (.putfield 21, 3) := by decide +kernel
theorem d_RU_init_26 : decode b_RU_init 26 = .ok (.aload_n 0, 1) := by decide +kernel
theorem d_RU_init_27 : decode b_RU_init 27 = .ok (.iconst 0, 1) := by decide +kernel
theorem d_RU_init_28 : decode b_RU_init 28 = .ok (.putfield 24, 3) := by decide +kernel
theorem d_RU_init_31 : decode b_RU_init 31 = .ok (.aload_n 0, 1) := by decide +kernel
theorem d_RU_init_32 : decode b_RU_init 32 = .ok (.iconst 0, 1) := by decide +kernel
theorem d_RU_init_33 : decode b_RU_init 33 = .ok (.putfield 28, 3) := by decide +kernel
theorem d_RU_init_36 : decode b_RU_init 36 = .ok (.aload_n 0, 1) := by decide +kernel
theorem d_RU_init_37 : decode b_RU_init 37 = .ok (.bipush 8, 2) := by decide +kernel
theorem d_RU_init_39 : decode b_RU_init 39 = .ok (.newarray .int, 2) := by decide +kernel
theorem d_RU_init_41 : decode b_RU_init 41 = .ok (.putfield 31, 3) := by decide +kernel
theorem d_RU_init_44 : decode b_RU_init 44 = .ok (.return_, 1) := by decide +kernel
theorem d_RU_itemCount_0 : decode b_RU_itemCount 0 = .ok (.aload_n 0, 1) := by decide +kernel
theorem d_RU_itemCount_1 : decode b_RU_itemCount 1 = .ok (.getfield 24, 3) := by decide +kernel
theorem d_RU_itemCount_4 : decode b_RU_itemCount 4 = .ok (.aload_n 0, 1) := by decide +kernel
theorem d_RU_itemCount_5 : decode b_RU_itemCount 5 = .ok (.getfield 28, 3) := by decide +kernel
theorem d_RU_itemCount_8 : decode b_RU_itemCount 8 = .ok (.iadd, 1) := by decide +kernel
theorem d_RU_itemCount_9 : decode b_RU_itemCount 9 = .ok (.ireturn, 1) := by decide +kernel
theorem d_RU_hasRoomFor_0 : decode b_RU_hasRoomFor 0 = .ok (.aload_n 0, 1) := by decide +kernel
theorem d_RU_hasRoomFor_1 : decode b_RU_hasRoomFor 1 = .ok (.invokevirtual 35, 3) := by decide +kernel
theorem d_RU_hasRoomFor_4 : decode b_RU_hasRoomFor 4 = .ok (.bipush 6, 2) := by decide +kernel
theorem d_RU_hasRoomFor_6 : decode b_RU_hasRoomFor 6 = .ok (.if_icmp .ge 19, 3) := by decide +kernel
theorem d_RU_hasRoomFor_9 : decode b_RU_hasRoomFor 9 = .ok (.iload_n 1, 1) := by decide +kernel
theorem d_RU_hasRoomFor_10 : decode b_RU_hasRoomFor 10 = .ok (.ifCond .ne 11, 3) := by decide +kernel
theorem d_RU_hasRoomFor_13 : decode b_RU_hasRoomFor 13 = .ok (.aload_n 0, 1) := by decide +kernel
theorem d_RU_hasRoomFor_14 : decode b_RU_hasRoomFor 14 = .ok (.getfield 24, 3) := by decide +kernel
theorem d_RU_hasRoomFor_17 : decode b_RU_hasRoomFor 17 = .ok (.iconst 3, 1) := by decide +kernel
theorem d_RU_hasRoomFor_18 : decode b_RU_hasRoomFor 18 = .ok (.if_icmp .ge 7, 3) := by decide +kernel
theorem d_RU_hasRoomFor_21 : decode b_RU_hasRoomFor 21 = .ok (.iconst 1, 1) := by decide +kernel
theorem d_RU_hasRoomFor_22 : decode b_RU_hasRoomFor 22 = .ok (.goto 4, 3) := by decide +kernel
theorem d_RU_hasRoomFor_25 : decode b_RU_hasRoomFor 25 = .ok (.iconst 0, 1) := by decide +kernel
theorem d_RU_hasRoomFor_26 : decode b_RU_hasRoomFor 26 = .ok (.ireturn, 1) := by decide +kernel
theorem d_RU_add_0 : decode b_RU_add 0 = .ok (.aload_n 0, 1) := by decide +kernel
theorem d_RU_add_1 : decode b_RU_add 1 = .ok (.aload_n 1, 1) := by decide +kernel
theorem d_RU_add_2 : decode b_RU_add 2 = .ok (.getfield 39, 3) := by decide +kernel
theorem d_RU_add_5 : decode b_RU_add 5 = .ok (.invokevirtual 42, 3) := by decide +kernel
theorem d_RU_add_8 : decode b_RU_add 8 = .ok (.ifCond .ne 4, 3) := by decide +kernel
theorem d_RU_add_11 : decode b_RU_add 11 = .ok (.return_, 1) := by decide +kernel
theorem d_RU_add_12 : decode b_RU_add 12 = .ok (.aload_n 1, 1) := by decide +kernel
theorem d_RU_add_13 : decode b_RU_add 13 = .ok (.getfield 39, 3) := by decide +kernel
theorem d_RU_add_16 : decode b_RU_add 16 = .ok (.ifCond .eq 24, 3) := by decide +kernel
theorem d_RU_add_19 : decode b_RU_add 19 = .ok (.aload_n 0, 1) := by decide +kernel
theorem d_RU_add_20 : decode b_RU_add 20 = .ok (.getfield 21, 3) := by decide +kernel
theorem d_RU_add_23 : decode b_RU_add 23 = .ok (.aload_n 0, 1) := by decide +kernel
theorem d_RU_add_24 : decode b_RU_add 24 = .ok (.getfield 28, 3) := by decide +kernel
theorem d_RU_add_27 : decode b_RU_add 27 = .ok (.aload_n 1, 1) := by decide +kernel
theorem d_RU_add_28 : decode b_RU_add 28 = .ok (.aastore, 1) := by decide +kernel
theorem d_RU_add_29 : decode b_RU_add 29 = .ok (.aload_n 0, 1) := by decide +kernel
theorem d_RU_add_30 : decode b_RU_add 30 = .ok (.dup, 1) := by decide +kernel
theorem d_RU_add_31 : decode b_RU_add 31 = .ok (.getfield 28, 3) := by decide +kernel
theorem d_RU_add_34 : decode b_RU_add 34 = .ok (.iconst 1, 1) := by decide +kernel
theorem d_RU_add_35 : decode b_RU_add 35 = .ok (.iadd, 1) := by decide +kernel
theorem d_RU_add_36 : decode b_RU_add 36 = .ok (.putfield 28, 3) := by decide +kernel
theorem d_RU_add_39 : decode b_RU_add 39 = .ok (.return_, 1) := by decide +kernel
theorem d_RU_add_40 : decode b_RU_add 40 = .ok (.aload_n 0, 1) := by decide +kernel
theorem d_RU_add_41 : decode b_RU_add 41 = .ok (.getfield 17, 3) := by decide +kernel
theorem d_RU_add_44 : decode b_RU_add 44 = .ok (.aload_n 0, 1) := by decide +kernel
theorem d_RU_add_45 : decode b_RU_add 45 = .ok (.getfield 24, 3) := by decide +kernel
theorem d_RU_add_48 : decode b_RU_add 48 = .ok (.aload_n 1, 1) := by decide +kernel
theorem d_RU_add_49 : decode b_RU_add 49 = .ok (.aastore, 1) := by decide +kernel
theorem d_RU_add_50 : decode b_RU_add 50 = .ok (.aload_n 0, 1) := by decide +kernel
theorem d_RU_add_51 : decode b_RU_add 51 = .ok (.dup, 1) := by decide +kernel
theorem d_RU_add_52 : decode b_RU_add 52 = .ok (.getfield 24, 3) := by decide +kernel
theorem d_RU_add_55 : decode b_RU_add 55 = .ok (.iconst 1, 1) := by decide +kernel
theorem d_RU_add_56 : decode b_RU_add 56 = .ok (.iadd, 1) := by decide +kernel
theorem d_RU_add_57 : decode b_RU_add 57 = .ok (.putfield 24, 3) := by decide +kernel
theorem d_RU_add_60 : decode b_RU_add 60 = .ok (.aload_n 0, 1) := by decide +kernel
theorem d_RU_add_61 : decode b_RU_add 61 = .ok (.aload_n 1, 1) := by decide +kernel
theorem d_RU_add_62 : decode b_RU_add 62 = .ok (.invokevirtual 46, 3) := by decide +kernel
theorem d_RU_add_65 : decode b_RU_add 65 = .ok (.return_, 1) := by decide +kernel
theorem d_RU_bindVariables_0 : decode b_RU_bindVariables 0 = .ok (.aload_n 1, 1) := by decide +kernel
theorem d_RU_bindVariables_1 : decode b_RU_bindVariables 1 = .ok (.getfield 50, 3) := by decide +kernel
theorem d_RU_bindVariables_4 : decode b_RU_bindVariables 4 = .ok (.iconst 1, 1) := by decide +kernel
theorem d_RU_bindVariables_5 : decode b_RU_bindVariables 5 = .ok (.isub, 1) := by decide +kernel
theorem d_RU_bindVariables_6 : decode b_RU_bindVariables 6 = .ok (.istore_n 2, 1) := by decide +kernel
theorem d_RU_bindVariables_7 : decode b_RU_bindVariables 7 = .ok (.iload_n 2, 1) := by decide +kernel
theorem d_RU_bindVariables_8 : decode b_RU_bindVariables 8 = .ok (.ifCond .lt 56, 3) := by decide +kernel
theorem d_RU_bindVariables_11 : decode b_RU_bindVariables 11 = .ok (.aload_n 1, 1) := by decide +kernel
theorem d_RU_bindVariables_12 : decode b_RU_bindVariables 12 = .ok (.iload_n 2, 1) := by decide +kernel
theorem d_RU_bindVariables_13 : decode b_RU_bindVariables 13 = .ok (.invokevirtual 53, 3) := by decide +kernel
theorem d_RU_bindVariables_16 : decode b_RU_bindVariables 16 = .ok (.bipush 64, 2) := by decide +kernel
theorem d_RU_bindVariables_18 : decode b_RU_bindVariables 18 = .ok (.isub, 1) := by decide +kernel
theorem d_RU_bindVariables_19 : decode b_RU_bindVariables 19 = .ok (.istore_n 3, 1) := by decide +kernel
theorem d_RU_bindVariables_20 : decode b_RU_bindVariables 20 = .ok (.iload_n 3, 1) := by decide +kernel
theorem d_RU_bindVariables_21 : decode b_RU_bindVariables 21 = .ok (.ifCond .lt 37, 3) := by decide +kernel
theorem d_RU_bindVariables_24 : decode b_RU_bindVariables 24 = .ok (.aload_n 0, 1) := by decide +kernel
theorem d_RU_bindVariables_25 : decode b_RU_bindVariables 25 = .ok (.getfield 31, 3) := by decide +kernel
theorem d_RU_bindVariables_28 : decode b_RU_bindVariables 28 = .ok (.iload_n 3, 1) := by decide +kernel
theorem d_RU_bindVariables_29 : decode b_RU_bindVariables 29 = .ok (.iaload, 1) := by decide +kernel
theorem d_RU_bindVariables_30 : decode b_RU_bindVariables 30 = .ok (.ifCond .ne 28, 3) := by decide +kernel
theorem d_RU_bindVariables_33 : decode b_RU_bindVariables 33 = .ok (.aload_n 1, 1) := by decide +kernel
theorem d_RU_bindVariables_34 : decode b_RU_bindVariables 34 = .ok (.iload_n 2, 1) := by decide +kernel
theorem d_RU_bindVariables_35 : decode b_RU_bindVariables 35 = .ok (.invokestatic 57, 3) := by decide +kernel
theorem d_RU_bindVariables_38 : decode b_RU_bindVariables 38 = .ok (.ifCond .eq 20, 3) := by decide +kernel
theorem d_RU_bindVariables_41 : decode b_RU_bindVariables 41 = .ok (.aload_n 1, 1) := by decide +kernel
theorem d_RU_bindVariables_42 : decode b_RU_bindVariables 42 = .ok (.dup, 1) := by decide +kernel
theorem d_RU_bindVariables_43 : decode b_RU_bindVariables 43 = .ok (.getfield 61, 3) := by decide +kernel
theorem d_RU_bindVariables_46 : decode b_RU_bindVariables 46 = .ok (.iconst 1, 1) := by decide +kernel
theorem d_RU_bindVariables_47 : decode b_RU_bindVariables 47 = .ok (.iload_n 2, 1) := by decide +kernel
theorem d_RU_bindVariables_48 : decode b_RU_bindVariables 48 = .ok (.ishl, 1) := by decide +kernel
theorem d_RU_bindVariables_49 : decode b_RU_bindVariables 49 = .ok (.ior, 1) := by decide +kernel
theorem d_RU_bindVariables_50 : decode b_RU_bindVariables 50 = .ok (.putfield 61, 3) := by decide +kernel
theorem d_RU_bindVariables_53 : decode b_RU_bindVariables 53 = .ok (.aload_n 1, 1) := by decide +kernel
theorem d_RU_bindVariables_54 : decode b_RU_bindVariables 54 = .ok (.iload_n 2, 1) := by decide +kernel
theorem d_RU_bindVariables_55 : decode b_RU_bindVariables 55 = .ok (.putfield 64, 3) := by decide +kernel
theorem d_RU_bindVariables_58 : decode b_RU_bindVariables 58 = .ok (.iinc 2 (-1), 3) := by decide +kernel
theorem d_RU_bindVariables_61 : decode b_RU_bindVariables 61 = .ok (.goto (-54), 3) := by decide +kernel
theorem d_RU_bindVariables_64 : decode b_RU_bindVariables 64 = .ok (.iconst 0, 1) := by decide +kernel
theorem d_RU_bindVariables_65 : decode b_RU_bindVariables 65 = .ok (.istore_n 2, 1) := by decide +kernel
theorem d_RU_bindVariables_66 : decode b_RU_bindVariables 66 = .ok (.iload_n 2, 1) := by decide +kernel
theorem d_RU_bindVariables_67 : decode b_RU_bindVariables 67 = .ok (.aload_n 1, 1) := by decide +kernel
theorem d_RU_bindVariables_68 : decode b_RU_bindVariables 68 = .ok (.getfield 50, 3) := by decide +kernel
theorem d_RU_bindVariables_71 : decode b_RU_bindVariables 71 = .ok (.if_icmp .ge 34, 3) := by decide +kernel
theorem d_RU_bindVariables_74 : decode b_RU_bindVariables 74 = .ok (.aload_n 1, 1) := by decide +kernel
theorem d_RU_bindVariables_75 : decode b_RU_bindVariables 75 = .ok (.iload_n 2, 1) := by decide +kernel
theorem d_RU_bindVariables_76 : decode b_RU_bindVariables 76 = .ok (.invokevirtual 67, 3) := by decide +kernel
theorem d_RU_bindVariables_79 : decode b_RU_bindVariables 79 = .ok (.ifCond .eq 20, 3) := by decide +kernel
theorem d_RU_bindVariables_82 : decode b_RU_bindVariables 82 = .ok (.aload_n 0, 1) := by decide +kernel
theorem d_RU_bindVariables_83 : decode b_RU_bindVariables 83 = .ok (.getfield 31, 3) := by decide +kernel
theorem d_RU_bindVariables_86 : decode b_RU_bindVariables 86 = .ok (.aload_n 1, 1) := by decide +kernel
theorem d_RU_bindVariables_87 : decode b_RU_bindVariables 87 = .ok (.iload_n 2, 1) := by decide +kernel
theorem d_RU_bindVariables_88 : decode b_RU_bindVariables 88 = .ok (.invokevirtual 53, 3) := by decide +kernel
theorem d_RU_bindVariables_91 : decode b_RU_bindVariables 91 = .ok (.bipush 64, 2) := by decide +kernel
theorem d_RU_bindVariables_93 : decode b_RU_bindVariables 93 = .ok (.isub, 1) := by decide +kernel
theorem d_RU_bindVariables_94 : decode b_RU_bindVariables 94 = .ok (.aload_n 0, 1) := by decide +kernel
theorem d_RU_bindVariables_95 : decode b_RU_bindVariables 95 = .ok (.getfield 24, 3) := by decide +kernel
theorem d_RU_bindVariables_98 : decode b_RU_bindVariables 98 = .ok (.iastore, 1) := by decide +kernel
theorem d_RU_bindVariables_99 : decode b_RU_bindVariables 99 = .ok (.iinc 2 1, 3) := by decide +kernel
theorem d_RU_bindVariables_102 : decode b_RU_bindVariables 102 = .ok (.goto (-36), 3) := by decide +kernel
theorem d_RU_bindVariables_105 : decode b_RU_bindVariables 105 = .ok (.return_, 1) := by decide +kernel
theorem d_RU_isFirstUse_0 : decode b_RU_isFirstUse 0 = .ok (.iconst 0, 1) := by decide +kernel
theorem d_RU_isFirstUse_1 : decode b_RU_isFirstUse 1 = .ok (.istore_n 2, 1) := by decide +kernel
theorem d_RU_isFirstUse_2 : decode b_RU_isFirstUse 2 = .ok (.iload_n 2, 1) := by decide +kernel
theorem d_RU_isFirstUse_3 : decode b_RU_isFirstUse 3 = .ok (.iload_n 1, 1) := by decide +kernel
theorem d_RU_isFirstUse_4 : decode b_RU_isFirstUse 4 = .ok (.if_icmp .ge 24, 3) := by decide +kernel
theorem d_RU_isFirstUse_7 : decode b_RU_isFirstUse 7 = .ok (.aload_n 0, 1) := by decide +kernel
theorem d_RU_isFirstUse_8 : decode b_RU_isFirstUse 8 = .ok (.iload_n 2, 1) := by decide +kernel
theorem d_RU_isFirstUse_9 : decode b_RU_isFirstUse 9 = .ok (.invokevirtual 53, 3) := by decide +kernel
theorem d_RU_isFirstUse_12 : decode b_RU_isFirstUse 12 = .ok (.aload_n 0, 1) := by decide +kernel
theorem d_RU_isFirstUse_13 : decode b_RU_isFirstUse 13 = .ok (.iload_n 1, 1) := by decide +kernel
theorem d_RU_isFirstUse_14 : decode b_RU_isFirstUse 14 = .ok (.invokevirtual 53, 3) := by decide +kernel
theorem d_RU_isFirstUse_17 : decode b_RU_isFirstUse 17 = .ok (.if_icmp .ne 5, 3) := by decide +kernel
theorem d_RU_isFirstUse_20 : decode b_RU_isFirstUse 20 = .ok (.iconst 0, 1) := by decide +kernel
theorem d_RU_isFirstUse_21 : decode b_RU_isFirstUse 21 = .ok (.ireturn, 1) := by decide +kernel
theorem d_RU_isFirstUse_22 : decode b_RU_isFirstUse 22 = .ok (.iinc 2 1, 3) := by decide +kernel
theorem d_RU_isFirstUse_25 : decode b_RU_isFirstUse 25 = .ok (.goto (-23), 3) := by decide +kernel
theorem d_RU_isFirstUse_28 : decode b_RU_isFirstUse 28 = .ok (.iconst 1, 1) := by decide +kernel
theorem d_RU_isFirstUse_29 : decode b_RU_isFirstUse 29 = .ok (.ireturn, 1) := by decide +kernel
theorem d_RU_settle_0 : decode b_RU_settle 0 = .ok (.aload_n 0, 1) := by decide +kernel
theorem d_RU_settle_1 : decode b_RU_settle 1 = .ok (.getfield 9, 3) := by decide +kernel
theorem d_RU_settle_4 : decode b_RU_settle 4 = .ok (.aload_n 0, 1) := by decide +kernel
theorem d_RU_settle_5 : decode b_RU_settle 5 = .ok (.aload_n 0, 1) := by decide +kernel
theorem d_RU_settle_6 : decode b_RU_settle 6 = .ok (.getfield 9, 3) := by decide +kernel
theorem d_RU_settle_9 : decode b_RU_settle 9 = .ok (.invokevirtual 70, 3) := by decide +kernel
theorem d_RU_settle_12 : decode b_RU_settle 12 = .ok (.putfield 74, 3) := by decide +kernel
theorem d_RU_settle_15 : decode b_RU_settle 15 = .ok (.aload_n 0, 1) := by decide +kernel
theorem d_RU_settle_16 : decode b_RU_settle 16 = .ok (.getfield 9, 3) := by decide +kernel
theorem d_RU_settle_19 : decode b_RU_settle 19 = .ok (.getfield 74, 3) := by decide +kernel
theorem d_RU_settle_22 : decode b_RU_settle 22 = .ok (.ifCond .lt 7, 3) := by decide +kernel
theorem d_RU_settle_25 : decode b_RU_settle 25 = .ok (.iconst 1, 1) := by decide +kernel
theorem d_RU_settle_26 : decode b_RU_settle 26 = .ok (.goto 4, 3) := by decide +kernel
theorem d_RU_settle_29 : decode b_RU_settle 29 = .ok (.iconst 0, 1) := by decide +kernel
theorem d_RU_settle_30 : decode b_RU_settle 30 = .ok (.istore_n 1, 1) := by decide +kernel
theorem d_RU_settle_31 : decode b_RU_settle 31 = .ok (.iconst 0, 1) := by decide +kernel
theorem d_RU_settle_32 : decode b_RU_settle 32 = .ok (.istore_n 2, 1) := by decide +kernel
theorem d_RU_settle_33 : decode b_RU_settle 33 = .ok (.iload_n 2, 1) := by decide +kernel
theorem d_RU_settle_34 : decode b_RU_settle 34 = .ok (.aload_n 0, 1) := by decide +kernel
theorem d_RU_settle_35 : decode b_RU_settle 35 = .ok (.getfield 28, 3) := by decide +kernel
theorem d_RU_settle_38 : decode b_RU_settle 38 = .ok (.if_icmp .ge 50, 3) := by decide +kernel
theorem d_RU_settle_41 : decode b_RU_settle 41 = .ok (.aload_n 0, 1) := by decide +kernel
theorem d_RU_settle_42 : decode b_RU_settle 42 = .ok (.getfield 21, 3) := by decide +kernel
theorem d_RU_settle_45 : decode b_RU_settle 45 = .ok (.iload_n 2, 1) := by decide +kernel
theorem d_RU_settle_46 : decode b_RU_settle 46 = .ok (.aaload, 1) := by decide +kernel
theorem d_RU_settle_47 : decode b_RU_settle 47 = .ok (.aload_n 0, 1) := by decide +kernel
theorem d_RU_settle_48 : decode b_RU_settle 48 = .ok (.aload_n 0, 1) := by decide +kernel
theorem d_RU_settle_49 : decode b_RU_settle 49 = .ok (.getfield 21, 3) := by decide +kernel
theorem d_RU_settle_52 : decode b_RU_settle 52 = .ok (.iload_n 2, 1) := by decide +kernel
theorem d_RU_settle_53 : decode b_RU_settle 53 = .ok (.aaload, 1) := by decide +kernel
theorem d_RU_settle_54 : decode b_RU_settle 54 = .ok (.invokevirtual 70, 3) := by decide +kernel
theorem d_RU_settle_57 : decode b_RU_settle 57 = .ok (.putfield 74, 3) := by decide +kernel
theorem d_RU_settle_60 : decode b_RU_settle 60 = .ok (.iload_n 1, 1) := by decide +kernel
theorem d_RU_settle_61 : decode b_RU_settle 61 = .ok (.ifCond .eq 19, 3) := by decide +kernel
theorem d_RU_settle_64 : decode b_RU_settle 64 = .ok (.aload_n 0, 1) := by decide +kernel
theorem d_RU_settle_65 : decode b_RU_settle 65 = .ok (.getfield 21, 3) := by decide +kernel
theorem d_RU_settle_68 : decode b_RU_settle 68 = .ok (.iload_n 2, 1) := by decide +kernel
theorem d_RU_settle_69 : decode b_RU_settle 69 = .ok (.aaload, 1) := by decide +kernel
theorem d_RU_settle_70 : decode b_RU_settle 70 = .ok (.getfield 74, 3) := by decide +kernel
theorem d_RU_settle_73 : decode b_RU_settle 73 = .ok (.ifCond .lt 7, 3) := by decide +kernel
theorem d_RU_settle_76 : decode b_RU_settle 76 = .ok (.iconst 1, 1) := by decide +kernel
theorem d_RU_settle_77 : decode b_RU_settle 77 = .ok (.goto 4, 3) := by decide +kernel
theorem d_RU_settle_80 : decode b_RU_settle 80 = .ok (.iconst 0, 1) := by decide +kernel
theorem d_RU_settle_81 : decode b_RU_settle 81 = .ok (.istore_n 1, 1) := by decide +kernel
theorem d_RU_settle_82 : decode b_RU_settle 82 = .ok (.iinc 2 1, 3) := by decide +kernel
theorem d_RU_settle_85 : decode b_RU_settle 85 = .ok (.goto (-52), 3) := by decide +kernel
theorem d_RU_settle_88 : decode b_RU_settle 88 = .ok (.iload_n 1, 1) := by decide +kernel
theorem d_RU_settle_89 : decode b_RU_settle 89 = .ok (.ireturn, 1) := by decide +kernel
theorem d_RU_readyOf_0 : decode b_RU_readyOf 0 = .ok (.iconst 0, 1) := by decide +kernel
theorem d_RU_readyOf_1 : decode b_RU_readyOf 1 = .ok (.istore_n 2, 1) := by decide +kernel
theorem d_RU_readyOf_2 : decode b_RU_readyOf 2 = .ok (.iconst 0, 1) := by decide +kernel
theorem d_RU_readyOf_3 : decode b_RU_readyOf 3 = .ok (.istore_n 3, 1) := by decide +kernel
theorem d_RU_readyOf_4 : decode b_RU_readyOf 4 = .ok (.iload_n 3, 1) := by decide +kernel
theorem d_RU_readyOf_5 : decode b_RU_readyOf 5 = .ok (.aload_n 1, 1) := by decide +kernel
theorem d_RU_readyOf_6 : decode b_RU_readyOf 6 = .ok (.getfield 50, 3) := by decide +kernel
theorem d_RU_readyOf_9 : decode b_RU_readyOf 9 = .ok (.if_icmp .ge 48, 3) := by decide +kernel
theorem d_RU_readyOf_12 : decode b_RU_readyOf 12 = .ok (.aload_n 1, 1) := by decide +kernel
theorem d_RU_readyOf_13 : decode b_RU_readyOf 13 = .ok (.iload_n 3, 1) := by decide +kernel
theorem d_RU_readyOf_14 : decode b_RU_readyOf 14 = .ok (.invokevirtual 53, 3) := by decide +kernel
theorem d_RU_readyOf_17 : decode b_RU_readyOf 17 = .ok (.bipush 64, 2) := by decide +kernel
theorem d_RU_readyOf_19 : decode b_RU_readyOf 19 = .ok (.isub, 1) := by decide +kernel
theorem d_RU_readyOf_20 : decode b_RU_readyOf 20 = .ok (.istore 4, 2) := by decide +kernel
theorem d_RU_readyOf_22 : decode b_RU_readyOf 22 = .ok (.iload 4, 2) := by decide +kernel
theorem d_RU_readyOf_24 : decode b_RU_readyOf 24 = .ok (.ifCond .lt 27, 3) := by decide +kernel
theorem d_RU_readyOf_27 : decode b_RU_readyOf 27 = .ok (.aload_n 0, 1) := by decide +kernel
theorem d_RU_readyOf_28 : decode b_RU_readyOf 28 = .ok (.getfield 31, 3) := by decide +kernel
theorem d_RU_readyOf_31 : decode b_RU_readyOf 31 = .ok (.iload 4, 2) := by decide +kernel
theorem d_RU_readyOf_33 : decode b_RU_readyOf 33 = .ok (.iaload, 1) := by decide +kernel
theorem d_RU_readyOf_34 : decode b_RU_readyOf 34 = .ok (.ifCond .ne 5, 3) := by decide +kernel
theorem d_RU_readyOf_37 : decode b_RU_readyOf 37 = .ok (.iconst (-1), 1) := by decide +kernel
theorem d_RU_readyOf_38 : decode b_RU_readyOf 38 = .ok (.ireturn, 1) := by decide +kernel
theorem d_RU_readyOf_39 : decode b_RU_readyOf 39 = .ok (.iload_n 2, 1) := by decide +kernel
theorem d_RU_readyOf_40 : decode b_RU_readyOf 40 = .ok (.aload_n 0, 1) := by decide +kernel
theorem d_RU_readyOf_41 : decode b_RU_readyOf 41 = .ok (.getfield 31, 3) := by decide +kernel
theorem d_RU_readyOf_44 : decode b_RU_readyOf 44 = .ok (.iload 4, 2) := by decide +kernel
theorem d_RU_readyOf_46 : decode b_RU_readyOf 46 = .ok (.iaload, 1) := by decide +kernel
theorem d_RU_readyOf_47 : decode b_RU_readyOf 47 = .ok (.invokestatic 77, 3) := by decide +kernel
theorem d_RU_readyOf_50 : decode b_RU_readyOf 50 = .ok (.istore_n 2, 1) := by decide +kernel
theorem d_RU_readyOf_51 : decode b_RU_readyOf 51 = .ok (.iinc 3 1, 3) := by decide +kernel
theorem d_RU_readyOf_54 : decode b_RU_readyOf 54 = .ok (.goto (-50), 3) := by decide +kernel
theorem d_RU_readyOf_57 : decode b_RU_readyOf 57 = .ok (.iload_n 2, 1) := by decide +kernel
theorem d_RU_readyOf_58 : decode b_RU_readyOf 58 = .ok (.ireturn, 1) := by decide +kernel
theorem d_RB_init_0 : decode b_RB_init 0 = .ok (.aload_n 0, 1) := by decide +kernel
theorem d_RB_init_1 : decode b_RB_init 1 = .ok (.invokespecial 3, 3) := by decide +kernel
theorem d_RB_init_4 : decode b_RB_init 4 = .ok (.aload_n 0, 1) := by decide +kernel
theorem d_RB_init_5 : decode b_RB_init 5 = .ok (.bipush 12, 2) := by decide +kernel
theorem d_RB_init_7 : decode b_RB_init 7 = .ok (.newarray .int, 2) := by decide +kernel
theorem d_RB_init_9 : decode b_RB_init 9 = .ok (.putfield 9, 3) := by decide +kernel
theorem d_RB_init_12 : decode b_RB_init 12 = .ok (.aload_n 0, 1) := by decide +kernel
theorem d_RB_init_13 : decode b_RB_init 13 = .ok (.bipush 24, 2) := by decide +kernel
theorem d_RB_init_15 : decode b_RB_init 15 = .ok (.anewarray 15, 3) := by decide +kernel
theorem d_RB_init_18 : decode b_RB_init 18 = .ok (.putfield 17, 3) := by decide +kernel
theorem d_RB_init_21 : decode b_RB_init 21 = .ok (.aload_n 0, 1) := by decide +kernel
theorem d_RB_init_22 : decode b_RB_init 22 = .ok (.bipush 12, 2) := by decide +kernel
theorem d_RB_init_24 : decode b_RB_init 24 = .ok (.newarray .int, 2) := by decide +kernel
theorem d_RB_init_26 : decode b_RB_init 26 = .ok (.putfield 21, 3) := by decide +kernel
theorem d_RB_init_29 : decode b_RB_init 29 = .ok (.aload_n 0, 1) := by decide +kernel
theorem d_RB_init_30 : decode b_RB_init 30 = .ok (.iconst 0, 1) := by decide +kernel
theorem d_RB_init_31 : decode b_RB_init 31 = .ok (.putfield 24, 3) := by decide +kernel
theorem d_RB_init_34 : decode b_RB_init 34 = .ok (.aload_n 0, 1) := by decide +kernel
theorem d_RB_init_35 : decode b_RB_init 35 = .ok (.iconst 0, 1) := by decide +kernel
theorem d_RB_init_36 : decode b_RB_init 36 = .ok (.putfield 28, 3) := by decide +kernel
theorem d_RB_init_39 : decode b_RB_init 39 = .ok (.aload_n 0, 1) := by decide +kernel
theorem d_RB_init_40 : decode b_RB_init 40 = .ok (.iconst 0, 1) := by decide +kernel
theorem d_RB_init_41 : decode b_RB_init 41 = .ok (.putfield 31, 3) := by decide +kernel
theorem d_RB_init_44 : decode b_RB_init 44 = .ok (.return_, 1) := by decide +kernel
theorem d_RB_addRelation_0 : decode b_RB_addRelation 0 = .ok (.aload_n 0, 1) := by decide +kernel
theorem d_RB_addRelation_1 : decode b_RB_addRelation 1 = .ok (.getfield 24, 3) := by decide +kernel
theorem d_RB_addRelation_4 : decode b_RB_addRelation 4 = .ok (.bipush 12, 2) := by decide +kernel
theorem d_RB_addRelation_6 : decode b_RB_addRelation 6 = .ok (.if_icmp .ge 27, 3) := by decide +kernel
theorem d_RB_addRelation_9 : decode b_RB_addRelation 9 = .ok (.aload_n 0, 1) := by decide +kernel
theorem d_RB_addRelation_10 : decode b_RB_addRelation 10 = .ok (.getfield 9, 3) := by decide +kernel
theorem d_RB_addRelation_13 : decode b_RB_addRelation 13 = .ok (.aload_n 0, 1) := by decide +kernel
theorem d_RB_addRelation_14 : decode b_RB_addRelation 14 = .ok (.getfield 24, 3) := by decide +kernel
theorem d_RB_addRelation_17 : decode b_RB_addRelation 17 = .ok (.iload_n 1, 1) := by decide +kernel
theorem d_RB_addRelation_18 : decode b_RB_addRelation 18 = .ok (.iastore, 1) := by decide +kernel
theorem d_RB_addRelation_19 : decode b_RB_addRelation 19 = .ok (.aload_n 0, 1) := by decide +kernel
theorem d_RB_addRelation_20 : decode b_RB_addRelation 20 = .ok (.dup, 1) := by decide +kernel
theorem d_RB_addRelation_21 : decode b_RB_addRelation 21 = .ok (.getfield 24, 3) := by decide +kernel
theorem d_RB_addRelation_24 : decode b_RB_addRelation 24 = .ok (.iconst 1, 1) := by decide +kernel
theorem d_RB_addRelation_25 : decode b_RB_addRelation 25 = .ok (.iadd, 1) := by decide +kernel
theorem d_RB_addRelation_26 : decode b_RB_addRelation 26 = .ok (.putfield 24, 3) := by decide +kernel
theorem d_RB_addRelation_29 : decode b_RB_addRelation 29 = .ok (.aload_n 0, 1) := by decide +kernel
theorem d_RB_addRelation_30 : decode b_RB_addRelation 30 = .ok (.invokevirtual 34, 3) := by decide +kernel
theorem d_RB_addRelation_33 : decode b_RB_addRelation 33 = .ok (.return_, 1) := by decide +kernel
theorem d_RB_addRule_0 : decode b_RB_addRule 0 = .ok (.aload_n 0, 1) := by decide +kernel
theorem d_RB_addRule_1 : decode b_RB_addRule 1 = .ok (.getfield 28, 3) := by decide +kernel
theorem d_RB_addRule_4 : decode b_RB_addRule 4 = .ok (.bipush 24, 2) := by decide +kernel
theorem d_RB_addRule_6 : decode b_RB_addRule 6 = .ok (.if_icmp .ge 27, 3) := by decide +kernel
theorem d_RB_addRule_9 : decode b_RB_addRule 9 = .ok (.aload_n 0, 1) := by decide +kernel
theorem d_RB_addRule_10 : decode b_RB_addRule 10 = .ok (.getfield 17, 3) := by decide +kernel
theorem d_RB_addRule_13 : decode b_RB_addRule 13 = .ok (.aload_n 0, 1) := by decide +kernel
theorem d_RB_addRule_14 : decode b_RB_addRule 14 = .ok (.getfield 28, 3) := by decide +kernel
theorem d_RB_addRule_17 : decode b_RB_addRule 17 = .ok (.aload_n 1, 1) := by decide +kernel
theorem d_RB_addRule_18 : decode b_RB_addRule 18 = .ok (.aastore, 1) := by decide +kernel
theorem d_RB_addRule_19 : decode b_RB_addRule 19 = .ok (.aload_n 0, 1) := by decide +kernel
theorem d_RB_addRule_20 : decode b_RB_addRule 20 = .ok (.dup, 1) := by decide +kernel
theorem d_RB_addRule_21 : decode b_RB_addRule 21 = .ok (.getfield 28, 3) := by decide +kernel
theorem d_RB_addRule_24 : decode b_RB_addRule 24 = .ok (.iconst 1, 1) := by decide +kernel
theorem d_RB_addRule_25 : decode b_RB_addRule 25 = .ok (.iadd, 1) := by decide +kernel
theorem d_RB_addRule_26 : decode b_RB_addRule 26 = .ok (.putfield 28, 3) := by decide +kernel
theorem d_RB_addRule_29 : decode b_RB_addRule 29 = .ok (.aload_n 0, 1) := by decide +kernel
theorem d_RB_addRule_30 : decode b_RB_addRule 30 = .ok (.invokevirtual 34, 3) := by decide +kernel
theorem d_RB_addRule_33 : decode b_RB_addRule 33 = .ok (.return_, 1) := by decide +kernel
theorem d_RB_findStrata_0 : decode b_RB_findStrata 0 = .ok (.iconst 0, 1) := by decide +kernel
theorem d_RB_findStrata_1 : decode b_RB_findStrata 1 = .ok (.istore_n 1, 1) := by decide +kernel
theorem d_RB_findStrata_2 : decode b_RB_findStrata 2 = .ok (.iload_n 1, 1) := by decide +kernel
theorem d_RB_findStrata_3 : decode b_RB_findStrata 3 = .ok (.aload_n 0, 1) := by decide +kernel
theorem d_RB_findStrata_4 : decode b_RB_findStrata 4 = .ok (.getfield 24, 3) := by decide +kernel
theorem d_RB_findStrata_7 : decode b_RB_findStrata 7 = .ok (.if_icmp .ge 16, 3) := by decide +kernel
theorem d_RB_findStrata_10 : decode b_RB_findStrata 10 = .ok (.aload_n 0, 1) := by decide +kernel
theorem d_RB_findStrata_11 : decode b_RB_findStrata 11 = .ok (.getfield 21, 3) := by decide +kernel
theorem d_RB_findStrata_14 : decode b_RB_findStrata 14 = .ok (.iload_n 1, 1) := by decide +kernel
theorem d_RB_findStrata_15 : decode b_RB_findStrata 15 = .ok (.iconst 0, 1) := by decide +kernel
theorem d_RB_findStrata_16 : decode b_RB_findStrata 16 = .ok (.iastore, 1) := by decide +kernel
theorem d_RB_findStrata_17 : decode b_RB_findStrata 17 = .ok (.iinc 1 1, 3) := by decide +kernel
theorem d_RB_findStrata_20 : decode b_RB_findStrata 20 = .ok (.goto (-18), 3) := by decide +kernel
theorem d_RB_findStrata_23 : decode b_RB_findStrata 23 = .ok (.aload_n 0, 1) := by decide +kernel
theorem d_RB_findStrata_24 : decode b_RB_findStrata 24 = .ok (.getfield 24, 3) := by decide +kernel
theorem d_RB_findStrata_27 : decode b_RB_findStrata 27 = .ok (.ifCond .le 7, 3) := by decide +kernel
theorem d_RB_findStrata_30 : decode b_RB_findStrata 30 = .ok (.iconst 1, 1) := by decide +kernel
theorem d_RB_findStrata_31 : decode b_RB_findStrata 31 = .ok (.goto 4, 3) := by decide +kernel
theorem d_RB_findStrata_34 : decode b_RB_findStrata 34 = .ok (.iconst 0, 1) := by decide +kernel
theorem d_RB_findStrata_35 : decode b_RB_findStrata 35 = .ok (.istore_n 1, 1) := by decide +kernel
theorem d_RB_findStrata_36 : decode b_RB_findStrata 36 = .ok (.iconst 0, 1) := by decide +kernel
theorem d_RB_findStrata_37 : decode b_RB_findStrata 37 = .ok (.istore_n 2, 1) := by decide +kernel
theorem d_RB_findStrata_38 : decode b_RB_findStrata 38 = .ok (.iload_n 2, 1) := by decide +kernel
theorem d_RB_findStrata_39 : decode b_RB_findStrata 39 = .ok (.aload_n 0, 1) := by decide +kernel
theorem d_RB_findStrata_40 : decode b_RB_findStrata 40 = .ok (.getfield 24, 3) := by decide +kernel
theorem d_RB_findStrata_43 : decode b_RB_findStrata 43 = .ok (.if_icmp .ge 18, 3) := by decide +kernel
theorem d_RB_findStrata_46 : decode b_RB_findStrata 46 = .ok (.iload_n 1, 1) := by decide +kernel
theorem d_RB_findStrata_47 : decode b_RB_findStrata 47 = .ok (.ifCond .eq 14, 3) := by decide +kernel
theorem d_RB_findStrata_50 : decode b_RB_findStrata 50 = .ok (.aload_n 0, 1) := by decide +kernel
theorem d_RB_findStrata_51 : decode b_RB_findStrata 51 = .ok (.invokevirtual 37, 3) := by decide +kernel
theorem d_RB_findStrata_54 : decode b_RB_findStrata 54 = .ok (.istore_n 1, 1) := by decide +kernel
theorem d_RB_findStrata_55 : decode b_RB_findStrata 55 = .ok (.iinc 2 1, 3) := by decide +kernel
theorem d_RB_findStrata_58 : decode b_RB_findStrata 58 = .ok (.goto (-20), 3) := by decide +kernel
theorem d_RB_findStrata_61 : decode b_RB_findStrata 61 = .ok (.aload_n 0, 1) := by decide +kernel
theorem d_RB_findStrata_62 : decode b_RB_findStrata 62 = .ok (.iload_n 1, 1) := by decide +kernel
theorem d_RB_findStrata_63 : decode b_RB_findStrata 63 = .ok (.ifCond .eq 8, 3) := by decide +kernel
theorem d_RB_findStrata_66 : decode b_RB_findStrata 66 = .ok (.bipush (-3), 2) := by decide +kernel
