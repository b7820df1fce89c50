theorem d_RR_init_0 : decode b_RR_init 0 = .ok (.aload_n 0, 1) := by decide +kernel
theorem d_RR_init_1 : decode b_RR_init 1 = .ok (.invokespecial 1, 3) := by decide +kernel
theorem d_RR_init_4 : decode b_RR_init 4 = .ok (.aload_n 0, 1) := by decide +kernel
theorem d_RR_init_5 : decode b_RR_init 5 = .ok (.new 7, 3) := by decide +kernel
theorem d_RR_init_8 : decode b_RR_init 8 = .ok (.dup, 1) := by decide +kernel
theorem d_RR_init_9 : decode b_RR_init 9 = .ok (.invokespecial 9, 3) := by decide +kernel
theorem d_RR_init_12 : decode b_RR_init 12 = .ok (.putfield 10, 3) := by decide +kernel
theorem d_RR_init_15 : decode b_RR_init 15 = .ok (.aload_n 0, 1) := by decide +kernel
theorem d_RR_init_16 : decode b_RR_init 16 = .ok (.new 16, 3) := by decide +kernel
theorem d_RR_init_19 : decode b_RR_init 19 = .ok (.dup, 1) := by decide +kernel
theorem d_RR_init_20 : decode b_RR_init 20 = .ok (.invokespecial 18, 3) := by decide +kernel
theorem d_RR_init_23 : decode b_RR_init 23 = .ok (.putfield 19, 3) := by decide +kernel
theorem d_RR_init_26 : decode b_RR_init 26 = .ok (.aload_n 0, 1) := by decide +kernel
theorem d_RR_init_27 : decode b_RR_init 27 = .ok (.new 23, 3) := by decide +kernel
theorem d_RR_init_30 : decode b_RR_init 30 = .ok (.dup, 1) := by decide +kernel
theorem d_RR_init_31 : decode b_RR_init 31 = .ok (.aload_n 0, 1) := by decide +kernel
theorem d_RR_init_32 : decode b_RR_init 32 = .ok (.getfield 19, 3) := by decide +kernel
theorem d_RR_init_35 : decode b_RR_init 35 = .ok (.invokespecial 25, 3) := by decide +kernel
theorem d_RR_init_38 : decode b_RR_init 38 = .ok (.putfield 28, 3) := by decide +kernel
theorem d_RR_init_41 : decode b_RR_init 41 = .ok (.aload_n 0, 1) := by decide +kernel
theorem d_RR_init_42 : decode b_RR_init 42 = .ok (.new 32, 3) := by decide +kernel
theorem d_RR_init_45 : decode b_RR_init 45 = .ok (.dup, 1) := by decide +kernel
theorem d_RR_init_46 : decode b_RR_init 46 = .ok (.aload_n 0, 1) := by decide +kernel
theorem d_RR_init_47 : decode b_RR_init 47 = .ok (.getfield 10, 3) := by decide +kernel
theorem d_RR_init_50 : decode b_RR_init 50 = .ok (.aload_n 0, 1) := by decide +kernel
theorem d_RR_init_51 : decode b_RR_init 51 = .ok (.getfield 19, 3) := by decide +kernel
theorem d_RR_init_54 : decode b_RR_init 54 = .ok (.aload_n 0, 1) := by decide +kernel
theorem d_RR_init_55 : decode b_RR_init 55 = .ok (.getfield 28, 3) := by decide +kernel
theorem d_RR_init_58 : decode b_RR_init 58 = .ok (.invokespecial 34, 3) := by decide +kernel
theorem d_RR_init_61 : decode b_RR_init 61 = .ok (.putfield 37, 3) := by decide +kernel
theorem d_RR_init_64 : decode b_RR_init 64 = .ok (.aload_n 0, 1) := by decide +kernel
theorem d_RR_init_65 : decode b_RR_init 65 = .ok (.iconst 0, 1) := by decide +kernel
theorem d_RR_init_66 : decode b_RR_init 66 = .ok (.putfield 41, 3) := by decide +kernel
theorem d_RR_init_69 : decode b_RR_init 69 = .ok (.aload_n 0, 1) := by decide +kernel
theorem d_RR_init_70 : decode b_RR_init 70 = .ok (.aconst_null, 1) := by decide +kernel
theorem d_RR_init_71 : decode b_RR_init 71 = .ok (.putfield 45, 3) := by decide +kernel
theorem d_RR_init_74 : decode b_RR_init 74 = .ok (.return_, 1) := by decide +kernel
theorem d_RR_relation_0 : decode b_RR_relation 0 = .ok (.iload_n 1, 1) := by decide +kernel
theorem d_RR_relation_1 : decode b_RR_relation 1 = .ok (.iconst 1, 1) := by decide +kernel
theorem d_RR_relation_2 : decode b_RR_relation 2 = .ok (.if_icmp .lt 8, 3) := by decide +kernel
theorem d_RR_relation_5 : decode b_RR_relation 5 = .ok (.iload_n 1, 1) := by decide +kernel
theorem d_RR_relation_6 : decode b_RR_relation 6 = .ok (.iconst 3, 1) := by decide +kernel
theorem d_RR_relation_7 : decode b_RR_relation 7 = .ok (.if_icmp .le 13, 3) := by decide +kernel
theorem d_RR_relation_10 : decode b_RR_relation 10 = .ok (.new 49, 3) := by decide +kernel
theorem d_RR_relation_13 : decode b_RR_relation 13 = .ok (.dup, 1) := by decide +kernel
theorem d_RR_relation_14 : decode b_RR_relation 14 = .ok (.ldc 51, 2) := by decide +kernel
theorem d_RR_relation_16 : decode b_RR_relation 16 = .ok (.invokespecial 53, 3) := by decide +kernel
theorem d_RR_relation_19 : decode b_RR_relation 19 = .ok (.athrow, 1) := by decide +kernel
theorem d_RR_relation_20 : decode b_RR_relation 20 = .ok (.aload_n 0, 1) := by decide +kernel
theorem d_RR_relation_21 : decode b_RR_relation 21 = .ok (.getfield 10, 3) := by decide +kernel
theorem d_RR_relation_24 : decode b_RR_relation 24 = .ok (.getfield 56, 3) := by decide +kernel
theorem d_RR_relation_27 : decode b_RR_relation 27 = .ok (.bipush 12, 2) := by decide +kernel
theorem d_RR_relation_29 : decode b_RR_relation 29 = .ok (.if_icmp .lt 13, 3) := by decide +kernel
theorem d_RR_relation_32 : decode b_RR_relation 32 = .ok (.new 59, 3) := by decide +kernel
theorem d_RR_relation_35 : decode b_RR_relation 35 = .ok (.dup, 1) := by decide +kernel
theorem d_RR_relation_36 : decode b_RR_relation 36 = .ok (.ldc 61, 2) := by decide +kernel
theorem d_RR_relation_38 : decode b_RR_relation 38 = .ok (.invokespecial 63, 3) := by decide +kernel
theorem d_RR_relation_41 : decode b_RR_relation 41 = .ok (.athrow, 1) := by decide +kernel
theorem d_RR_relation_42 : decode b_RR_relation 42 = .ok (.aload_n 0, 1) := by decide +kernel
theorem d_RR_relation_43 : decode b_RR_relation 43 = .ok (.getfield 10, 3) := by decide +kernel
theorem d_RR_relation_46 : decode b_RR_relation 46 = .ok (.iload_n 1, 1) := by decide +kernel
theorem d_RR_relation_47 : decode b_RR_relation 47 = .ok (.invokevirtual 64, 3) := by decide +kernel
theorem d_RR_relation_50 : decode b_RR_relation 50 = .ok (.aload_n 0, 1) := by decide +kernel
theorem d_RR_relation_51 : decode b_RR_relation 51 = .ok (.getfield 37, 3) := by decide +kernel
theorem d_RR_relation_54 : decode b_RR_relation 54 = .ok (.invokevirtual 68, 3) := by decide +kernel
theorem d_RR_relation_57 : decode b_RR_relation 57 = .ok (.aload_n 0, 1) := by decide +kernel
theorem d_RR_relation_58 : decode b_RR_relation 58 = .ok (.getfield 10, 3) := by decide +kernel
theorem d_RR_relation_61 : decode b_RR_relation 61 = .ok (.getfield 56, 3) := by decide +kernel
theorem d_RR_relation_64 : decode b_RR_relation 64 = .ok (.iconst 1, 1) := by decide +kernel
theorem d_RR_relation_65 : decode b_RR_relation 65 = .ok (.isub, 1) := by decide +kernel
theorem d_RR_relation_66 : decode b_RR_relation 66 = .ok (.ireturn, 1) := by decide +kernel
theorem d_RR_fact_0 : decode b_RR_fact 0 = .ok (.aload_n 0, 1) := by decide +kernel
theorem d_RR_fact_1 : decode b_RR_fact 1 = .ok (.iload_n 1, 1) := by decide +kernel
theorem d_RR_fact_2 : decode b_RR_fact 2 = .ok (.iload_n 2, 1) := by decide +kernel
theorem d_RR_fact_3 : decode b_RR_fact 3 = .ok (.iload_n 3, 1) := by decide +kernel
theorem d_RR_fact_4 : decode b_RR_fact 4 = .ok (.iload 4, 2) := by decide +kernel
theorem d_RR_fact_6 : decode b_RR_fact 6 = .ok (.invokevirtual 71, 3) := by decide +kernel
theorem d_RR_fact_9 : decode b_RR_fact 9 = .ok (.iload_n 1, 1) := by decide +kernel
theorem d_RR_fact_10 : decode b_RR_fact 10 = .ok (.iload_n 2, 1) := by decide +kernel
theorem d_RR_fact_11 : decode b_RR_fact 11 = .ok (.iload_n 3, 1) := by decide +kernel
theorem d_RR_fact_12 : decode b_RR_fact 12 = .ok (.iload 4, 2) := by decide +kernel
theorem d_RR_fact_14 : decode b_RR_fact 14 = .ok (.invokestatic 75, 3) := by decide +kernel
theorem d_RR_fact_17 : decode b_RR_fact 17 = .ok (.istore 5, 2) := by decide +kernel
theorem d_RR_fact_19 : decode b_RR_fact 19 = .ok (.aload_n 0, 1) := by decide +kernel
theorem d_RR_fact_20 : decode b_RR_fact 20 = .ok (.getfield 19, 3) := by decide +kernel
theorem d_RR_fact_23 : decode b_RR_fact 23 = .ok (.iload 5, 2) := by decide +kernel
theorem d_RR_fact_25 : decode b_RR_fact 25 = .ok (.invokevirtual 79, 3) := by decide +kernel
theorem d_RR_fact_28 : decode b_RR_fact 28 = .ok (.ifCond .eq 5, 3) := by decide +kernel
theorem d_RR_fact_31 : decode b_RR_fact 31 = .ok (.iconst 0, 1) := by decide +kernel
theorem d_RR_fact_32 : decode b_RR_fact 32 = .ok (.ireturn, 1) := by decide +kernel
theorem d_RR_fact_33 : decode b_RR_fact 33 = .ok (.aload_n 0, 1) := by decide +kernel
theorem d_RR_fact_34 : decode b_RR_fact 34 = .ok (.getfield 41, 3) := by decide +kernel
theorem d_RR_fact_37 : decode b_RR_fact 37 = .ok (.sipush 200, 3) := by decide +kernel
theorem d_RR_fact_40 : decode b_RR_fact 40 = .ok (.if_icmp .lt 13, 3) := by decide +kernel
theorem d_RR_fact_43 : decode b_RR_fact 43 = .ok (.new 59, 3) := by decide +kernel
theorem d_RR_fact_46 : decode b_RR_fact 46 = .ok (.dup, 1) := by decide +kernel
theorem d_RR_fact_47 : decode b_RR_fact 47 = .ok (.ldc 83, 2) := by decide +kernel
theorem d_RR_fact_49 : decode b_RR_fact 49 = .ok (.invokespecial 63, 3) := by decide +kernel
theorem d_RR_fact_52 : decode b_RR_fact 52 = .ok (.athrow, 1) := by decide +kernel
theorem d_RR_fact_53 : decode b_RR_fact 53 = .ok (.aload_n 0, 1) := by decide +kernel
theorem d_RR_fact_54 : decode b_RR_fact 54 = .ok (.getfield 37, 3) := by decide +kernel
theorem d_RR_fact_57 : decode b_RR_fact 57 = .ok (.invokevirtual 68, 3) := by decide +kernel
theorem d_RR_fact_60 : decode b_RR_fact 60 = .ok (.aload_n 0, 1) := by decide +kernel
theorem d_RR_fact_61 : decode b_RR_fact 61 = .ok (.getfield 19, 3) := by decide +kernel
theorem d_RR_fact_64 : decode b_RR_fact 64 = .ok (.iload 5, 2) := by decide +kernel
theorem d_RR_fact_66 : decode b_RR_fact 66 = .ok (.iconst 0, 1) := by decide +kernel
theorem d_RR_fact_67 : decode b_RR_fact 67 = .ok (.iconst (-1), 1) := by decide +kernel
theorem d_RR_fact_68 : decode b_RR_fact 68 = .ok (.invokevirtual 85, 3) := by decide +kernel
theorem d_RR_fact_71 : decode b_RR_fact 71 = .ok (.aload_n 0, 1) := by decide +kernel
theorem d_RR_fact_72 : decode b_RR_fact 72 = .ok (.dup, 1) := by decide +kernel
theorem d_RR_fact_73 : decode b_RR_fact 73 = .ok (.getfield 41, 3) := by decide +kernel
theorem d_RR_fact_76 : decode b_RR_fact 76 = .ok (.iconst 1, 1) := by decide +kernel
theorem d_RR_fact_77 : decode b_RR_fact 77 = .ok (.iadd, 1) := by decide +kernel
theorem d_RR_fact_78 : decode b_RR_fact 78 = .ok (.putfield 41, 3) := by decide +kernel
theorem d_RR_fact_81 : decode b_RR_fact 81 = .ok (.iconst 1, 1) := by decide +kernel
theorem d_RR_fact_82 : decode b_RR_fact 82 = .ok (.ireturn, 1) := by decide +kernel
theorem d_RR_drop_0 : decode b_RR_drop 0 = .ok (.aload_n 0, 1) := by decide +kernel
theorem d_RR_drop_1 : decode b_RR_drop 1 = .ok (.iload_n 1, 1) := by decide +kernel
theorem d_RR_drop_2 : decode b_RR_drop 2 = .ok (.iload_n 2, 1) := by decide +kernel
theorem d_RR_drop_3 : decode b_RR_drop 3 = .ok (.iload_n 3, 1) := by decide +kernel
theorem d_RR_drop_4 : decode b_RR_drop 4 = .ok (.iload 4, 2) := by decide +kernel
theorem d_RR_drop_6 : decode b_RR_drop 6 = .ok (.invokevirtual 71, 3) := by decide +kernel
theorem d_RR_drop_9 : decode b_RR_drop 9 = .ok (.iload_n 1, 1) := by decide +kernel
theorem d_RR_drop_10 : decode b_RR_drop 10 = .ok (.iload_n 2, 1) := by decide +kernel
theorem d_RR_drop_11 : decode b_RR_drop 11 = .ok (.iload_n 3, 1) := by decide +kernel
theorem d_RR_drop_12 : decode b_RR_drop 12 = .ok (.iload 4, 2) := by decide +kernel
theorem d_RR_drop_14 : decode b_RR_drop 14 = .ok (.invokestatic 75, 3) := by decide +kernel
theorem d_RR_drop_17 : decode b_RR_drop 17 = .ok (.istore 5, 2) := by decide +kernel
theorem d_RR_drop_19 : decode b_RR_drop 19 = .ok (.aload_n 0, 1) := by decide +kernel
theorem d_RR_drop_20 : decode b_RR_drop 20 = .ok (.getfield 19, 3) := by decide +kernel
theorem d_RR_drop_23 : decode b_RR_drop 23 = .ok (.iload 5, 2) := by decide +kernel
theorem d_RR_drop_25 : decode b_RR_drop 25 = .ok (.invokevirtual 79, 3) := by decide +kernel
theorem d_RR_drop_28 : decode b_RR_drop 28 = .ok (.ifCond .ne 5, 3) := by decide +kernel
theorem d_RR_drop_31 : decode b_RR_drop 31 = .ok (.iconst 0, 1) := by decide +kernel
theorem d_RR_drop_32 : decode b_RR_drop 32 = .ok (.ireturn, 1) := by decide +kernel
theorem d_RR_drop_33 : decode b_RR_drop 33 = .ok (.aload_n 0, 1) := by decide +kernel
theorem d_RR_drop_34 : decode b_RR_drop 34 = .ok (.getfield 19, 3) := by decide +kernel
theorem d_RR_drop_37 : decode b_RR_drop 37 = .ok (.iload 5, 2) := by decide +kernel
theorem d_RR_drop_39 : decode b_RR_drop 39 = .ok (.invokevirtual 89, 3) := by decide +kernel
theorem d_RR_drop_42 : decode b_RR_drop 42 = .ok (.aload_n 0, 1) := by decide +kernel
theorem d_RR_drop_43 : decode b_RR_drop 43 = .ok (.dup, 1) := by decide +kernel
theorem d_RR_drop_44 : decode b_RR_drop 44 = .ok (.getfield 41, 3) := by decide +kernel
theorem d_RR_drop_47 : decode b_RR_drop 47 = .ok (.iconst 1, 1) := by decide +kernel
theorem d_RR_drop_48 : decode b_RR_drop 48 = .ok (.isub, 1) := by decide +kernel
theorem d_RR_drop_49 : decode b_RR_drop 49 = .ok (.putfield 41, 3) := by decide +kernel
theorem d_RR_drop_52 : decode b_RR_drop 52 = .ok (.aload_n 0, 1) := by decide +kernel
theorem d_RR_drop_53 : decode b_RR_drop 53 = .ok (.getfield 37, 3) := by decide +kernel
theorem d_RR_drop_56 : decode b_RR_drop 56 = .ok (.invokevirtual 68, 3) := by decide +kernel
theorem d_RR_drop_59 : decode b_RR_drop 59 = .ok (.iconst 1, 1) := by decide +kernel
theorem d_RR_drop_60 : decode b_RR_drop 60 = .ok (.ireturn, 1) := by decide +kernel
theorem d_RR_head_0 : decode b_RR_head 0 = .ok (.aload_n 0, 1) := by decide +kernel
theorem d_RR_head_1 : decode b_RR_head 1 = .ok (.iload_n 1, 1) := by decide +kernel
theorem d_RR_head_2 : decode b_RR_head 2 = .ok (.iload_n 2, 1) := by decide +kernel
theorem d_RR_head_3 : decode b_RR_head 3 = .ok (.iload_n 3, 1) := by decide +kernel
theorem d_RR_head_4 : decode b_RR_head 4 = .ok (.iload 4, 2) := by decide +kernel
theorem d_RR_head_6 : decode b_RR_head 6 = .ok (.invokevirtual 92, 3) := by decide +kernel
theorem d_RR_head_9 : decode b_RR_head 9 = .ok (.aload_n 0, 1) := by decide +kernel
theorem d_RR_head_10 : decode b_RR_head 10 = .ok (.new 95, 3) := by decide +kernel
theorem d_RR_head_13 : decode b_RR_head 13 = .ok (.dup, 1) := by decide +kernel
theorem d_RR_head_14 : decode b_RR_head 14 = .ok (.new 97, 3) := by decide +kernel
theorem d_RR_head_17 : decode b_RR_head 17 = .ok (.dup, 1) := by decide +kernel
theorem d_RR_head_18 : decode b_RR_head 18 = .ok (.iconst 0, 1) := by decide +kernel
theorem d_RR_head_19 : decode b_RR_head 19 = .ok (.iload_n 1, 1) := by decide +kernel
theorem d_RR_head_20 : decode b_RR_head 20 = .ok (.aload_n 0, 1) := by decide +kernel
theorem d_RR_head_21 : decode b_RR_head 21 = .ok (.getfield 10, 3) := by decide +kernel
theorem d_RR_head_24 : decode b_RR_head 24 = .ok (.getfield 99, 3) := by decide +kernel
theorem d_RR_head_27 : decode b_RR_head 27 = .ok (.iload_n 1, 1) := by decide +kernel
theorem d_RR_head_28 : decode b_RR_head 28 = .ok (.iaload, 1) := by decide +kernel
theorem d_RR_head_29 : decode b_RR_head 29 = .ok (.iload_n 2, 1) := by decide +kernel
theorem d_RR_head_30 : decode b_RR_head 30 = .ok (.iload_n 3, 1) := by decide +kernel
theorem d_RR_head_31 : decode b_RR_head 31 = .ok (.iload 4, 2) := by decide +kernel
theorem d_RR_head_33 : decode b_RR_head 33 = .ok (.invokespecial 103, 3) := by decide +kernel
theorem d_RR_head_36 : decode b_RR_head 36 = .ok (.invokespecial 106, 3) := by decide +kernel
theorem d_RR_head_39 : decode b_RR_head 39 = .ok (.putfield 45, 3) := by decide +kernel
theorem d_RR_head_42 : decode b_RR_head 42 = .ok (.return_, 1) := by decide +kernel
theorem d_RR_item_0 : decode b_RR_item 0 = .ok (.iload_n 1, 1) := by decide +kernel
theorem d_RR_item_1 : decode b_RR_item 1 = .ok (.ifCond .lt 8, 3) := by decide +kernel
theorem d_RR_item_4 : decode b_RR_item 4 = .ok (.iload_n 1, 1) := by decide +kernel
theorem d_RR_item_5 : decode b_RR_item 5 = .ok (.iconst 3, 1) := by decide +kernel
theorem d_RR_item_6 : decode b_RR_item 6 = .ok (.if_icmp .le 13, 3) := by decide +kernel
theorem d_RR_item_9 : decode b_RR_item 9 = .ok (.new 49, 3) := by decide +kernel
theorem d_RR_item_12 : decode b_RR_item 12 = .ok (.dup, 1) := by decide +kernel
theorem d_RR_item_13 : decode b_RR_item 13 = .ok (.ldc 109, 2) := by decide +kernel
theorem d_RR_item_15 : decode b_RR_item 15 = .ok (.invokespecial 53, 3) := by decide +kernel
theorem d_RR_item_18 : decode b_RR_item 18 = .ok (.athrow, 1) := by decide +kernel
theorem d_RR_item_19 : decode b_RR_item 19 = .ok (.iload_n 1, 1) := by decide +kernel
theorem d_RR_item_20 : decode b_RR_item 20 = .ok (.iconst 2, 1) := by decide +kernel
theorem d_RR_item_21 : decode b_RR_item 21 = .ok (.if_icmp .eq 8, 3) := by decide +kernel
theorem d_RR_item_24 : decode b_RR_item 24 = .ok (.iload_n 1, 1) := by decide +kernel
theorem d_RR_item_25 : decode b_RR_item 25 = .ok (.iconst 3, 1) := by decide +kernel
theorem d_RR_item_26 : decode b_RR_item 26 = .ok (.if_icmp .ne 7, 3) := by decide +kernel
theorem d_RR_item_29 : decode b_RR_item 29 = .ok (.iconst 1, 1) := by decide +kernel
theorem d_RR_item_30 : decode b_RR_item 30 = .ok (.goto 4, 3) := by decide +kernel
theorem d_RR_item_33 : decode b_RR_item 33 = .ok (.iconst 0, 1) := by decide +kernel
theorem d_RR_item_34 : decode b_RR_item 34 = .ok (.istore 6, 2) := by decide +kernel
theorem d_RR_item_36 : decode b_RR_item 36 = .ok (.iload 6, 2) := by decide +kernel
theorem d_RR_item_38 : decode b_RR_item 38 = .ok (.ifCond .eq 15, 3) := by decide +kernel
theorem d_RR_item_41 : decode b_RR_item 41 = .ok (.iload_n 2, 1) := by decide +kernel
theorem d_RR_item_42 : decode b_RR_item 42 = .ok (.iload_n 3, 1) := by decide +kernel
theorem d_RR_item_43 : decode b_RR_item 43 = .ok (.iload 4, 2) := by decide +kernel
theorem d_RR_item_45 : decode b_RR_item 45 = .ok (.iload 5, 2) := by decide +kernel
theorem d_RR_item_47 : decode b_RR_item 47 = .ok (.invokestatic 111, 3) := by decide +kernel
theorem d_RR_item_50 : decode b_RR_item 50 = .ok (.goto 13, 3) := by decide +kernel
theorem d_RR_item_53 : decode b_RR_item 53 = .ok (.aload_n 0, 1) := by decide +kernel
theorem d_RR_item_54 : decode b_RR_item 54 = .ok (.iload_n 2, 1) := by decide +kernel
theorem d_RR_item_55 : decode b_RR_item 55 = .ok (.iload_n 3, 1) := by decide +kernel
theorem d_RR_item_56 : decode b_RR_item 56 = .ok (.iload 4, 2) := by decide +kernel
theorem d_RR_item_58 : decode b_RR_item 58 = .ok (.iload 5, 2) := by decide +kernel
theorem d_RR_item_60 : decode b_RR_item 60 = .ok (.invokevirtual 92, 3) := by decide +kernel
theorem d_RR_item_63 : decode b_RR_item 63 = .ok (.aload_n 0, 1) := by decide +kernel
theorem d_RR_item_64 : decode b_RR_item 64 = .ok (.getfield 45, 3) := by decide +kernel
theorem d_RR_item_67 : decode b_RR_item 67 = .ok (.ifnonnull 13, 3) := by decide +kernel
theorem d_RR_item_70 : decode b_RR_item 70 = .ok (.new 59, 3) := by decide +kernel
theorem d_RR_item_73 : decode b_RR_item 73 = .ok (.dup, 1) := by decide +kernel
theorem d_RR_item_74 : decode b_RR_item 74 = .ok (.ldc 114, 2) := by decide +kernel
theorem d_RR_item_76 : decode b_RR_item 76 = .ok (.invokespecial 63, 3) := by decide +kernel
theorem d_RR_item_79 : decode b_RR_item 79 = .ok (.athrow, 1) := by decide +kernel
theorem d_RR_item_80 : decode b_RR_item 80 = .ok (.aload_n 0, 1) := by decide +kernel
theorem d_RR_item_81 : decode b_RR_item 81 = .ok (.getfield 45, 3) := by decide +kernel
theorem d_RR_item_84 : decode b_RR_item 84 = .ok (.iload_n 1, 1) := by decide +kernel
theorem d_RR_item_85 : decode b_RR_item 85 = .ok (.invokevirtual 116, 3) := by decide +kernel
theorem d_RR_item_88 : decode b_RR_item 88 = .ok (.ifCond .ne 13, 3) := by decide +kernel
theorem d_RR_item_91 : decode b_RR_item 91 = .ok (.new 59, 3) := by decide +kernel
theorem d_RR_item_94 : decode b_RR_item 94 = .ok (.dup, 1) := by decide +kernel
theorem d_RR_item_95 : decode b_RR_item 95 = .ok (.ldc 119, 2) := by decide +kernel
theorem d_RR_item_97 : decode b_RR_item 97 = .ok (.invokespecial 63, 3) := by decide +kernel
theorem d_RR_item_100 : decode b_RR_item 100 = .ok (.athrow, 1) := by decide +kernel
theorem d_RR_item_101 : decode b_RR_item 101 = .ok (.aload_n 0, 1) := by decide +kernel
theorem d_RR_item_102 : decode b_RR_item 102 = .ok (.getfield 45, 3) := by decide +kernel
theorem d_RR_item_105 : decode b_RR_item 105 = .ok (.new 97, 3) := by decide +kernel
theorem d_RR_item_108 : decode b_RR_item 108 = .ok (.dup, 1) := by decide +kernel
theorem d_RR_item_109 : decode b_RR_item 109 = .ok (.iload_n 1, 1) := by decide +kernel
theorem d_RR_item_110 : decode b_RR_item 110 = .ok (.iload_n 2, 1) := by decide +kernel
theorem d_RR_item_111 : decode b_RR_item 111 = .ok (.iload 6, 2) := by decide +kernel
theorem d_RR_item_113 : decode b_RR_item 113 = .ok (.ifCond .eq 7, 3) := by decide +kernel
theorem d_RR_item_116 : decode b_RR_item 116 = .ok (.iconst 2, 1) := by decide +kernel
theorem d_RR_item_117 : decode b_RR_item 117 = .ok (.goto 12, 3) := by decide +kernel
theorem d_RR_item_120 : decode b_RR_item 120 = .ok (.aload_n 0, 1) := by decide +kernel
theorem d_RR_item_121 : decode b_RR_item 121 = .ok (.getfield 10, 3) := by decide +kernel
theorem d_RR_item_124 : decode b_RR_item 124 = .ok (.getfield 99, 3) := by decide +kernel
theorem d_RR_item_127 : decode b_RR_item 127 = .ok (.iload_n 2, 1) := by decide +kernel
theorem d_RR_item_128 : decode b_RR_item 128 = .ok (.iaload, 1) := by decide +kernel
theorem d_RR_item_129 : decode b_RR_item 129 = .ok (.iload_n 3, 1) := by decide +kernel
theorem d_RR_item_130 : decode b_RR_item 130 = .ok (.iload 4, 2) := by decide +kernel
theorem d_RR_item_132 : decode b_RR_item 132 = .ok (.iload 5, 2) := by decide +kernel
theorem d_RR_item_134 : decode b_RR_item 134 = .ok (.invokespecial 103, 3) := by decide +kernel
theorem d_RR_item_137 : decode b_RR_item 137 = .ok (.invokevirtual 121, 3) := by decide +kernel
theorem d_RR_item_140 : decode b_RR_item 140 = .ok (.aload_n 0, 1) := by decide +kernel
theorem d_RR_item_141 : decode b_RR_item 141 = .ok (.getfield 45, 3) := by decide +kernel
theorem d_RR_item_144 : decode b_RR_item 144 = .ok (.invokevirtual 124, 3) := by decide +kernel
theorem d_RR_item_147 : decode b_RR_item 147 = .ok (.ireturn, 1) := by decide +kernel
theorem d_RR_rule_0 : decode b_RR_rule 0 = .ok (.aload_n 0, 1) := by decide +kernel
theorem d_RR_rule_1 : decode b_RR_rule 1 = .ok (.getfield 45, 3) := by decide +kernel
theorem d_RR_rule_4 : decode b_RR_rule 4 = .ok (.ifnonnull 13, 3) := by decide +kernel
theorem d_RR_rule_7 : decode b_RR_rule 7 = .ok (.new 59, 3) := by decide +kernel
theorem d_RR_rule_10 : decode b_RR_rule 10 = .ok (.dup, 1) := by decide +kernel
theorem d_RR_rule_11 : decode b_RR_rule 11 = .ok (.ldc 114, 2) := by decide +kernel
theorem d_RR_rule_13 : decode b_RR_rule 13 = .ok (.invokespecial 63, 3) := by decide +kernel
theorem d_RR_rule_16 : decode b_RR_rule 16 = .ok (.athrow, 1) := by decide +kernel
theorem d_RR_rule_17 : decode b_RR_rule 17 = .ok (.aload_n 0, 1) := by decide +kernel
theorem d_RR_rule_18 : decode b_RR_rule 18 = .ok (.getfield 10, 3) := by decide +kernel
theorem d_RR_rule_21 : decode b_RR_rule 21 = .ok (.getfield 128, 3) := by decide +kernel
theorem d_RR_rule_24 : decode b_RR_rule 24 = .ok (.bipush 24, 2) := by decide +kernel
theorem d_RR_rule_26 : decode b_RR_rule 26 = .ok (.if_icmp .lt 13, 3) := by decide +kernel
theorem d_RR_rule_29 : decode b_RR_rule 29 = .ok (.new 59, 3) := by decide +kernel
theorem d_RR_rule_32 : decode b_RR_rule 32 = .ok (.dup, 1) := by decide +kernel
theorem d_RR_rule_33 : decode b_RR_rule 33 = .ok (.ldc 131, 2) := by decide +kernel
theorem d_RR_rule_35 : decode b_RR_rule 35 = .ok (.invokespecial 63, 3) := by decide +kernel
theorem d_RR_rule_38 : decode b_RR_rule 38 = .ok (.athrow, 1) := by decide +kernel
theorem d_RR_rule_39 : decode b_RR_rule 39 = .ok (.aload_n 0, 1) := by decide +kernel
theorem d_RR_rule_40 : decode b_RR_rule 40 = .ok (.getfield 45, 3) := by decide +kernel
theorem d_RR_rule_43 : decode b_RR_rule 43 = .ok (.invokevirtual 133, 3) := by decide +kernel
theorem d_RR_rule_46 : decode b_RR_rule 46 = .ok (.ifCond .ne 6, 3) := by decide +kernel
theorem d_RR_rule_49 : decode b_RR_rule 49 = .ok (.bipush (-2), 2) := by decide +kernel
theorem d_RR_rule_51 : decode b_RR_rule 51 = .ok (.ireturn, 1) := by decide +kernel
theorem d_RR_rule_52 : decode b_RR_rule 52 = .ok (.aload_n 0, 1) := by decide +kernel
theorem d_RR_rule_53 : decode b_RR_rule 53 = .ok (.getfield 10, 3) := by decide +kernel
theorem d_RR_rule_56 : decode b_RR_rule 56 = .ok (.aload_n 0, 1) := by decide +kernel
theorem d_RR_rule_57 : decode b_RR_rule 57 = .ok (.getfield 45, 3) := by decide +kernel
theorem d_RR_rule_60 : decode b_RR_rule 60 = .ok (.invokevirtual 137, 3) := by decide +kernel
theorem d_RR_rule_63 : decode b_RR_rule 63 = .ok (.aload_n 0, 1) := by decide +kernel
theorem d_RR_rule_64 : decode b_RR_rule 64 = .ok (.aconst_null, 1) := by decide +kernel
theorem d_RR_rule_65 : decode b_RR_rule 65 = .ok (.putfield 45, 3) := by decide +kernel
theorem d_RR_rule_68 : decode b_RR_rule 68 = .ok (.aload_n 0, 1) := by decide +kernel
theorem d_RR_rule_69 : decode b_RR_rule 69 = .ok (.getfield 37, 3) := by decide +kernel
theorem d_RR_rule_72 : decode b_RR_rule 72 = .ok (.invokevirtual 68, 3) := by decide +kernel
theorem d_RR_rule_75 : decode b_RR_rule 75 = .ok (.aload_n 0, 1) := by decide +kernel
theorem d_RR_rule_76 : decode b_RR_rule 76 = .ok (.getfield 10, 3) := by decide +kernel
theorem d_RR_rule_79 : decode b_RR_rule 79 = .ok (.getfield 128, 3) := by decide +kernel
theorem d_RR_rule_82 : decode b_RR_rule 82 = .ok (.iconst 1, 1) := by decide +kernel
theorem d_RR_rule_83 : decode b_RR_rule 83 = .ok (.isub, 1) := by decide +kernel
theorem d_RR_rule_84 : decode b_RR_rule 84 = .ok (.ireturn, 1) := by decide +kernel
theorem d_RR_strata_0 : decode b_RR_strata 0 = .ok (.aload_n 0, 1) := by decide +kernel
theorem d_RR_strata_1 : decode b_RR_strata 1 = .ok (.getfield 10, 3) := by decide +kernel
theorem d_RR_strata_4 : decode b_RR_strata 4 = .ok (.getfield 141, 3) := by decide +kernel
theorem d_RR_strata_7 : decode b_RR_strata 7 = .ok (.ireturn, 1) := by decide +kernel
theorem d_RR_stratum_0 : decode b_RR_stratum 0 = .ok (.aload_n 0, 1) := by decide +kernel
theorem d_RR_stratum_1 : decode b_RR_stratum 1 = .ok (.iload_n 1, 1) := by decide +kernel
theorem d_RR_stratum_2 : decode b_RR_stratum 2 = .ok (.invokevirtual 144, 3) := by decide +kernel
theorem d_RR_stratum_5 : decode b_RR_stratum 5 = .ok (.aload_n 0, 1) := by decide +kernel
theorem d_RR_stratum_6 : decode b_RR_stratum 6 = .ok (.getfield 10, 3) := by decide +kernel
theorem d_RR_stratum_9 : decode b_RR_stratum 9 = .ok (.getfield 141, 3) := by decide +kernel
theorem d_RR_stratum_12 : decode b_RR_stratum 12 = .ok (.bipush (-3), 2) := by decide +kernel
theorem d_RR_stratum_14 : decode b_RR_stratum 14 = .ok (.if_icmp .ne 13, 3) := by decide +kernel
theorem d_RR_stratum_17 : decode b_RR_stratum 17 = .ok (.new 59, 3) := by decide +kernel
theorem d_RR_stratum_20 : decode b_RR_stratum 20 = .ok (.dup, 1) := by decide +kernel
theorem d_RR_stratum_21 : decode b_RR_stratum 21 = .ok (.ldc 147, 2) := by decide +kernel
theorem d_RR_stratum_23 : decode b_RR_stratum 23 = .ok (.invokespecial 63, 3) := by decide +kernel
theorem d_RR_stratum_26 : decode b_RR_stratum 26 = .ok (.athrow, 1) := by decide +kernel
theorem d_RR_stratum_27 : decode b_RR_stratum 27 = .ok (.aload_n 0, 1) := by decide +kernel
theorem d_RR_stratum_28 : decode b_RR_stratum 28 = .ok (.getfield 10, 3) := by decide +kernel
theorem d_RR_stratum_31 : decode b_RR_stratum 31 = .ok (.getfield 149, 3) := by decide +kernel
theorem d_RR_stratum_34 : decode b_RR_stratum 34 = .ok (.iload_n 1, 1) := by decide +kernel
theorem d_RR_stratum_35 : decode b_RR_stratum 35 = .ok (.iaload, 1) := by decide +kernel
theorem d_RR_stratum_36 : decode b_RR_stratum 36 = .ok (.ireturn, 1) := by decide +kernel
theorem d_RR_step_0 : decode b_RR_step 0 = .ok (.aload_n 0, 1) := by decide +kernel
theorem d_RR_step_1 : decode b_RR_step 1 = .ok (.getfield 37, 3) := by decide +kernel
theorem d_RR_step_4 : decode b_RR_step 4 = .ok (.invokevirtual 152, 3) := by decide +kernel
theorem d_RR_step_7 : decode b_RR_step 7 = .ok (.ireturn, 1) := by decide +kernel
theorem d_RR_run_0 : decode b_RR_run 0 = .ok (.iconst 0, 1) := by decide +kernel
theorem d_RR_run_1 : decode b_RR_run 1 = .ok (.istore_n 1, 1) := by decide +kernel
theorem d_RR_run_2 : decode b_RR_run 2 = .ok (.iconst 0, 1) := by decide +kernel
theorem d_RR_run_3 : decode b_RR_run 3 = .ok (.istore_n 2, 1) := by decide +kernel
theorem d_RR_run_4 : decode b_RR_run 4 = .ok (.iload_n 2, 1) := by decide +kernel
theorem d_RR_run_5 : decode b_RR_run 5 = .ok (.sipush 1000, 3) := by decide +kernel
theorem d_RR_run_8 : decode b_RR_run 8 = .ok (.if_icmp .ge 21, 3) := by decide +kernel
theorem d_RR_run_11 : decode b_RR_run 11 = .ok (.iload_n 1, 1) := by decide +kernel
theorem d_RR_run_12 : decode b_RR_run 12 = .ok (.ifCond .lt 17, 3) := by decide +kernel
theorem d_RR_run_15 : decode b_RR_run 15 = .ok (.aload_n 0, 1) := by decide +kernel
theorem d_RR_run_16 : decode b_RR_run 16 = .ok (.getfield 37, 3) := by decide +kernel
theorem d_RR_run_19 : decode b_RR_run 19 = .ok (.invokevirtual 152, 3) := by decide +kernel
theorem d_RR_run_22 : decode b_RR_run 22 = .ok (.istore_n 1, 1) := by decide +kernel
theorem d_RR_run_23 : decode b_RR_run 23 = .ok (.iinc 2 1, 3) := by decide +kernel
theorem d_RR_run_26 : decode b_RR_run 26 = .ok (.goto (-22), 3) := by decide +kernel
theorem d_RR_run_29 : decode b_RR_run 29 = .ok (.iload_n 1, 1) := by decide +kernel
theorem d_RR_run_30 : decode b_RR_run 30 = .ok (.bipush (-4), 2) := by decide +kernel
theorem d_RR_run_32 : decode b_RR_run 32 = .ok (.if_icmp .ne 18, 3) := by decide +kernel
theorem d_RR_run_35 : decode b_RR_run 35 = .ok (.aload_n 0, 1) := by decide +kernel
theorem d_RR_run_36 : decode b_RR_run 36 = .ok (.getfield 19, 3) := by decide +kernel
theorem d_RR_run_39 : decode b_RR_run 39 = .ok (.getfield 155, 3) := by decide +kernel
theorem d_RR_run_42 : decode b_RR_run 42 = .ok (.aload_n 0, 1) := by decide +kernel
theorem d_RR_run_43 : decode b_RR_run 43 = .ok (.getfield 41, 3) := by decide +kernel
theorem d_RR_run_46 : decode b_RR_run 46 = .ok (.isub, 1) := by decide +kernel
theorem d_RR_run_47 : decode b_RR_run 47 = .ok (.goto 4, 3) := by decide +kernel
theorem d_RR_run_50 : decode b_RR_run 50 = .ok (.iload_n 1, 1) := by decide +kernel
theorem d_RR_run_51 : decode b_RR_run 51 = .ok (.ireturn, 1) := by decide +kernel
theorem d_RR_rounds_0 : decode b_RR_rounds 0 = .ok (.aload_n 0, 1) := by decide +kernel
theorem d_RR_rounds_1 : decode b_RR_rounds 1 = .ok (.getfield 37, 3) := by decide +kernel
theorem d_RR_rounds_4 : decode b_RR_rounds 4 = .ok (.getfield 158, 3) := by decide +kernel
theorem d_RR_rounds_7 : decode b_RR_rounds 7 = .ok (.ireturn, 1) := by decide +kernel
theorem d_RR_count_0 : decode b_RR_count 0 = .ok (.aload_n 0, 1) := by decide +kernel
theorem d_RR_count_1 : decode b_RR_count 1 = .ok (.iload_n 1, 1) := by decide +kernel
theorem d_RR_count_2 : decode b_RR_count 2 = .ok (.invokevirtual 144, 3) := by decide +kernel
theorem d_RR_count_5 : decode b_RR_count 5 = .ok (.aload_n 0, 1) := by decide +kernel
theorem d_RR_count_6 : decode b_RR_count 6 = .ok (.iload_n 1, 1) := by decide +kernel
theorem d_RR_count_7 : decode b_RR_count 7 = .ok (.invokevirtual 161, 3) := by decide +kernel
theorem d_RR_count_10 : decode b_RR_count 10 = .ok (.ireturn, 1) := by decide +kernel
theorem d_RR_has_0 : decode b_RR_has 0 = .ok (.aload_n 0, 1) := by decide +kernel
theorem d_RR_has_1 : decode b_RR_has 1 = .ok (.iload_n 1, 1) := by decide +kernel
theorem d_RR_has_2 : decode b_RR_has 2 = .ok (.iload_n 2, 1) := by decide +kernel
theorem d_RR_has_3 : decode b_RR_has 3 = .ok (.iload_n 3, 1) := by decide +kernel
theorem d_RR_has_4 : decode b_RR_has 4 = .ok (.iload 4, 2) := by decide +kernel
theorem d_RR_has_6 : decode b_RR_has 6 = .ok (.invokevirtual 71, 3) := by decide +kernel
theorem d_RR_has_9 : decode b_RR_has 9 = .ok (.aload_n 0, 1) := by decide +kernel
theorem d_RR_has_10 : decode b_RR_has 10 = .ok (.getfield 19, 3) := by decide +kernel
theorem d_RR_has_13 : decode b_RR_has 13 = .ok (.iload_n 1, 1) := by decide +kernel
theorem d_RR_has_14 : decode b_RR_has 14 = .ok (.iload_n 2, 1) := by decide +kernel
theorem d_RR_has_15 : decode b_RR_has 15 = .ok (.iload_n 3, 1) := by decide +kernel
theorem d_RR_has_16 : decode b_RR_has 16 = .ok (.iload 4, 2) := by decide +kernel
theorem d_RR_has_18 : decode b_RR_has 18 = .ok (.invokestatic 75, 3) := by decide +kernel
theorem d_RR_has_21 : decode b_RR_has 21 = .ok (.invokevirtual 165, 3) := by decide +kernel
theorem d_RR_has_24 : decode b_RR_has 24 = .ok (.ireturn, 1) := by decide +kernel
theorem d_RR_tuple_0 : decode b_RR_tuple 0 = .ok (.aload_n 0, 1) := by decide +kernel
theorem d_RR_tuple_1 : decode b_RR_tuple 1 = .ok (.iload_n 1, 1) := by decide +kernel
theorem d_RR_tuple_2 : decode b_RR_tuple 2 = .ok (.invokevirtual 144, 3) := by decide +kernel
theorem d_RR_tuple_5 : decode b_RR_tuple 5 = .ok (.iload_n 2, 1) := by decide +kernel
theorem d_RR_tuple_6 : decode b_RR_tuple 6 = .ok (.ifCond .lt 12, 3) := by decide +kernel
theorem d_RR_tuple_9 : decode b_RR_tuple 9 = .ok (.iload_n 2, 1) := by decide +kernel
theorem d_RR_tuple_10 : decode b_RR_tuple 10 = .ok (.aload_n 0, 1) := by decide +kernel
theorem d_RR_tuple_11 : decode b_RR_tuple 11 = .ok (.iload_n 1, 1) := by decide +kernel
theorem d_RR_tuple_12 : decode b_RR_tuple 12 = .ok (.invokevirtual 161, 3) := by decide +kernel
theorem d_RR_tuple_15 : decode b_RR_tuple 15 = .ok (.if_icmp .lt 13, 3) := by decide +kernel
theorem d_RR_tuple_18 : decode b_RR_tuple 18 = .ok (.new 49, 3) := by decide +kernel
theorem d_RR_tuple_21 : decode b_RR_tuple 21 = .ok (.dup, 1) := by decide +kernel
theorem d_RR_tuple_22 : decode b_RR_tuple 22 = .ok (.ldc 168, 2) := by decide +kernel
theorem d_RR_tuple_24 : decode b_RR_tuple 24 = .ok (.invokespecial 53, 3) := by decide +kernel
theorem d_RR_tuple_27 : decode b_RR_tuple 27 = .ok (.athrow, 1) := by decide +kernel
theorem d_RR_tuple_28 : decode b_RR_tuple 28 = .ok (.aload_n 0, 1) := by decide +kernel
theorem d_RR_tuple_29 : decode b_RR_tuple 29 = .ok (.getfield 19, 3) := by decide +kernel
theorem d_RR_tuple_32 : decode b_RR_tuple 32 = .ok (.iload_n 1, 1) := by decide +kernel
theorem d_RR_tuple_33 : decode b_RR_tuple 33 = .ok (.iconst 0, 1) := by decide +kernel
theorem d_RR_tuple_34 : decode b_RR_tuple 34 = .ok (.iconst 0, 1) := by decide +kernel
theorem d_RR_tuple_35 : decode b_RR_tuple 35 = .ok (.iconst 0, 1) := by decide +kernel
theorem d_RR_tuple_36 : decode b_RR_tuple 36 = .ok (.invokestatic 75, 3) := by decide +kernel
theorem d_RR_tuple_39 : decode b_RR_tuple 39 = .ok (.invokevirtual 170, 3) := by decide +kernel
theorem d_RR_tuple_42 : decode b_RR_tuple 42 = .ok (.iload_n 2, 1) := by decide +kernel
theorem d_RR_tuple_43 : decode b_RR_tuple 43 = .ok (.iadd, 1) := by decide +kernel
theorem d_RR_tuple_44 : decode b_RR_tuple 44 = .ok (.istore 4, 2) := by decide +kernel
theorem d_RR_tuple_46 : decode b_RR_tuple 46 = .ok (.iload_n 3, 1) := by decide +kernel
theorem d_RR_tuple_47 : decode b_RR_tuple 47 = .ok (.tableswitch 70 0 4 #[33, 33, 33, 48, 59], 33) := by decide +kernel
theorem d_RR_tuple_80 : decode b_RR_tuple 80 = .ok (.aload_n 0, 1) := by decide +kernel
theorem d_RR_tuple_81 : decode b_RR_tuple 81 = .ok (.getfield 19, 3) := by decide +kernel
theorem d_RR_tuple_84 : decode b_RR_tuple 84 = .ok (.getfield 173, 3) := by decide +kernel
theorem d_RR_tuple_87 : decode b_RR_tuple 87 = .ok (.iload 4, 2) := by decide +kernel
theorem d_RR_tuple_89 : decode b_RR_tuple 89 = .ok (.iaload, 1) := by decide +kernel
theorem d_RR_tuple_90 : decode b_RR_tuple 90 = .ok (.iload_n 3, 1) := by decide +kernel
theorem d_RR_tuple_91 : decode b_RR_tuple 91 = .ok (.invokestatic 176, 3) := by decide +kernel
theorem d_RR_tuple_94 : decode b_RR_tuple 94 = .ok (.ireturn, 1) := by decide +kernel
theorem d_RR_tuple_95 : decode b_RR_tuple 95 = .ok (.aload_n 0, 1) := by decide +kernel
theorem d_RR_tuple_96 : decode b_RR_tuple 96 = .ok (.getfield 19, 3) := by decide +kernel
theorem d_RR_tuple_99 : decode b_RR_tuple 99 = .ok (.getfield 180, 3) := by decide +kernel
theorem d_RR_tuple_102 : decode b_RR_tuple 102 = .ok (.iload 4, 2) := by decide +kernel
theorem d_RR_tuple_104 : decode b_RR_tuple 104 = .ok (.iaload, 1) := by decide +kernel
theorem d_RR_tuple_105 : decode b_RR_tuple 105 = .ok (.ireturn, 1) := by decide +kernel
theorem d_RR_tuple_106 : decode b_RR_tuple 106 = .ok (.aload_n 0, 1) := by decide +kernel
theorem d_RR_tuple_107 : decode b_RR_tuple 107 = .ok (.getfield 19, 3) := by decide +kernel
theorem d_RR_tuple_110 : decode b_RR_tuple 110 = .ok (.getfield 183, 3) := by decide +kernel
theorem d_RR_tuple_113 : decode b_RR_tuple 113 = .ok (.iload 4, 2) := by decide +kernel
theorem d_RR_tuple_115 : decode b_RR_tuple 115 = .ok (.iaload, 1) := by decide +kernel
theorem d_RR_tuple_116 : decode b_RR_tuple 116 = .ok (.ireturn, 1) := by decide +kernel
theorem d_RR_tuple_117 : decode b_RR_tuple 117 = .ok (.new 49, 3) := by decide +kernel
theorem d_RR_tuple_120 : decode b_RR_tuple 120 = .ok (.dup, 1) := by decide +kernel
theorem d_RR_tuple_121 : decode b_RR_tuple 121 = .ok (.ldc 186, 2) := by decide +kernel
theorem d_RR_tuple_123 : decode b_RR_tuple 123 = .ok (.invokespecial 53, 3) := by decide +kernel
theorem d_RR_tuple_126 : decode b_RR_tuple 126 = .ok (.athrow, 1) := by decide +kernel
theorem d_RR_like_0 : decode b_RR_like 0 = .ok (.aload_n 0, 1) := by decide +kernel
theorem d_RR_like_1 : decode b_RR_like 1 = .ok (.iload_n 1, 1) := by decide +kernel
theorem d_RR_like_2 : decode b_RR_like 2 = .ok (.iload_n 2, 1) := by decide +kernel
theorem d_RR_like_3 : decode b_RR_like 3 = .ok (.iload_n 3, 1) := by decide +kernel
theorem d_RR_like_4 : decode b_RR_like 4 = .ok (.iload 4, 2) := by decide +kernel
theorem d_RR_like_6 : decode b_RR_like 6 = .ok (.invokevirtual 92, 3) := by decide +kernel
theorem d_RR_like_9 : decode b_RR_like 9 = .ok (.new 97, 3) := by decide +kernel
theorem d_RR_like_12 : decode b_RR_like 12 = .ok (.dup, 1) := by decide +kernel
theorem d_RR_like_13 : decode b_RR_like 13 = .ok (.iconst 0, 1) := by decide +kernel
theorem d_RR_like_14 : decode b_RR_like 14 = .ok (.iload_n 1, 1) := by decide +kernel
theorem d_RR_like_15 : decode b_RR_like 15 = .ok (.aload_n 0, 1) := by decide +kernel
theorem d_RR_like_16 : decode b_RR_like 16 = .ok (.getfield 10, 3) := by decide +kernel
theorem d_RR_like_19 : decode b_RR_like 19 = .ok (.getfield 99, 3) := by decide +kernel
theorem d_RR_like_22 : decode b_RR_like 22 = .ok (.iload_n 1, 1) := by decide +kernel
theorem d_RR_like_23 : decode b_RR_like 23 = .ok (.iaload, 1) := by decide +kernel
theorem d_RR_like_24 : decode b_RR_like 24 = .ok (.iload_n 2, 1) := by decide +kernel
theorem d_RR_like_25 : decode b_RR_like 25 = .ok (.iload_n 3, 1) := by decide +kernel
theorem d_RR_like_26 : decode b_RR_like 26 = .ok (.iload 4, 2) := by decide +kernel
theorem d_RR_like_28 : decode b_RR_like 28 = .ok (.invokespecial 103, 3) := by decide +kernel
theorem d_RR_like_31 : decode b_RR_like 31 = .ok (.astore 5, 2) := by decide +kernel
theorem d_RR_like_33 : decode b_RR_like 33 = .ok (.new 95, 3) := by decide +kernel
theorem d_RR_like_36 : decode b_RR_like 36 = .ok (.dup, 1) := by decide +kernel
theorem d_RR_like_37 : decode b_RR_like 37 = .ok (.aload 5, 2) := by decide +kernel
theorem d_RR_like_39 : decode b_RR_like 39 = .ok (.invokespecial 106, 3) := by decide +kernel
theorem d_RR_like_42 : decode b_RR_like 42 = .ok (.astore 6, 2) := by decide +kernel
theorem d_RR_like_44 : decode b_RR_like 44 = .ok (.aload 6, 2) := by decide +kernel
theorem d_RR_like_46 : decode b_RR_like 46 = .ok (.aload 5, 2) := by decide +kernel
theorem d_RR_like_48 : decode b_RR_like 48 = .ok (.invokevirtual 121, 3) := by decide +kernel
theorem d_RR_like_51 : decode b_RR_like 51 = .ok (.aload 6, 2) := by decide +kernel
theorem d_RR_like_53 : decode b_RR_like 53 = .ok (.invokevirtual 133, 3) := by decide +kernel
theorem d_RR_like_56 : decode b_RR_like 56 = .ok (.ifCond .eq 15, 3) := by decide +kernel
theorem d_RR_like_59 : decode b_RR_like 59 = .ok (.aload_n 0, 1) := by decide +kernel
theorem d_RR_like_60 : decode b_RR_like 60 = .ok (.getfield 28, 3) := by decide +kernel
theorem d_RR_like_63 : decode b_RR_like 63 = .ok (.aload 6, 2) := by decide +kernel
theorem d_RR_like_65 : decode b_RR_like 65 = .ok (.invokevirtual 188, 3) := by decide +kernel
theorem d_RR_like_68 : decode b_RR_like 68 = .ok (.goto 4, 3) := by decide +kernel
theorem d_RR_like_71 : decode b_RR_like 71 = .ok (.iconst 0, 1) := by decide +kernel
theorem d_RR_like_72 : decode b_RR_like 72 = .ok (.ireturn, 1) := by decide +kernel
theorem d_RR_matches_0 : decode b_RR_matches 0 = .ok (.iload_n 1, 1) := by decide +kernel
theorem d_RR_matches_1 : decode b_RR_matches 1 = .ok (.ifCond .lt 14, 3) := by decide +kernel
theorem d_RR_matches_4 : decode b_RR_matches 4 = .ok (.iload_n 1, 1) := by decide +kernel
theorem d_RR_matches_5 : decode b_RR_matches 5 = .ok (.aload_n 0, 1) := by decide +kernel
theorem d_RR_matches_6 : decode b_RR_matches 6 = .ok (.getfield 10, 3) := by decide +kernel
theorem d_RR_matches_9 : decode b_RR_matches 9 = .ok (.getfield 128, 3) := by decide +kernel
theorem d_RR_matches_12 : decode b_RR_matches 12 = .ok (.if_icmp .lt 13, 3) := by decide +kernel
theorem d_RR_matches_15 : decode b_RR_matches 15 = .ok (.new 49, 3) := by decide +kernel
theorem d_RR_matches_18 : decode b_RR_matches 18 = .ok (.dup, 1) := by decide +kernel
theorem d_RR_matches_19 : decode b_RR_matches 19 = .ok (.ldc 192, 2) := by decide +kernel
theorem d_RR_matches_21 : decode b_RR_matches 21 = .ok (.invokespecial 53, 3) := by decide +kernel
theorem d_RR_matches_24 : decode b_RR_matches 24 = .ok (.athrow, 1) := by decide +kernel
theorem d_RR_matches_25 : decode b_RR_matches 25 = .ok (.aload_n 0, 1) := by decide +kernel
theorem d_RR_matches_26 : decode b_RR_matches 26 = .ok (.getfield 28, 3) := by decide +kernel
theorem d_RR_matches_29 : decode b_RR_matches 29 = .ok (.aload_n 0, 1) := by decide +kernel
theorem d_RR_matches_30 : decode b_RR_matches 30 = .ok (.getfield 10, 3) := by decide +kernel
theorem d_RR_matches_33 : decode b_RR_matches 33 = .ok (.getfield 194, 3) := by decide +kernel
theorem d_RR_matches_36 : decode b_RR_matches 36 = .ok (.iload_n 1, 1) := by decide +kernel
theorem d_RR_matches_37 : decode b_RR_matches 37 = .ok (.aaload, 1) := by decide +kernel
theorem d_RR_matches_38 : decode b_RR_matches 38 = .ok (.invokevirtual 188, 3) := by decide +kernel
theorem d_RR_matches_41 : decode b_RR_matches 41 = .ok (.ireturn, 1) := by decide +kernel
theorem d_RR_sizeOf_0 : decode b_RR_sizeOf 0 = .ok (.aload_n 0, 1) := by decide +kernel
theorem d_RR_sizeOf_1 : decode b_RR_sizeOf 1 = .ok (.getfield 19, 3) := by decide +kernel
theorem d_RR_sizeOf_4 : decode b_RR_sizeOf 4 = .ok (.iload_n 1, 1) := by decide +kernel
theorem d_RR_sizeOf_5 : decode b_RR_sizeOf 5 = .ok (.iconst 1, 1) := by decide +kernel
theorem d_RR_sizeOf_6 : decode b_RR_sizeOf 6 = .ok (.iadd, 1) := by decide +kernel
theorem d_RR_sizeOf_7 : decode b_RR_sizeOf 7 = .ok (.iconst 0, 1) := by decide +kernel
theorem d_RR_sizeOf_8 : decode b_RR_sizeOf 8 = .ok (.iconst 0, 1) := by decide +kernel
theorem d_RR_sizeOf_9 : decode b_RR_sizeOf 9 = .ok (.iconst 0, 1) := by decide +kernel
theorem d_RR_sizeOf_10 : decode b_RR_sizeOf 10 = .ok (.invokestatic 75, 3) := by decide +kernel
theorem d_RR_sizeOf_13 : decode b_RR_sizeOf 13 = .ok (.invokevirtual 170, 3) := by decide +kernel
theorem d_RR_sizeOf_16 : decode b_RR_sizeOf 16 = .ok (.aload_n 0, 1) := by decide +kernel
theorem d_RR_sizeOf_17 : decode b_RR_sizeOf 17 = .ok (.getfield 19, 3) := by decide +kernel
theorem d_RR_sizeOf_20 : decode b_RR_sizeOf 20 = .ok (.iload_n 1, 1) := by decide +kernel
theorem d_RR_sizeOf_21 : decode b_RR_sizeOf 21 = .ok (.iconst 0, 1) := by decide +kernel
theorem d_RR_sizeOf_22 : decode b_RR_sizeOf 22 = .ok (.iconst 0, 1) := by decide +kernel
theorem d_RR_sizeOf_23 : decode b_RR_sizeOf 23 = .ok (.iconst 0, 1) := by decide +kernel
theorem d_RR_sizeOf_24 : decode b_RR_sizeOf 24 = .ok (.invokestatic 75, 3) := by decide +kernel
theorem d_RR_sizeOf_27 : decode b_RR_sizeOf 27 = .ok (.invokevirtual 170, 3) := by decide +kernel
theorem d_RR_sizeOf_30 : decode b_RR_sizeOf 30 = .ok (.isub, 1) := by decide +kernel
theorem d_RR_sizeOf_31 : decode b_RR_sizeOf 31 = .ok (.ireturn, 1) := by decide +kernel
theorem d_RR_requireRelation_0 : decode b_RR_requireRelation 0 = .ok (.iload_n 1, 1) := by decide +kernel
theorem d_RR_requireRelation_1 : decode b_RR_requireRelation 1 = .ok (.ifCond .lt 14, 3) := by decide +kernel
theorem d_RR_requireRelation_4 : decode b_RR_requireRelation 4 = .ok (.iload_n 1, 1) := by decide +kernel
theorem d_RR_requireRelation_5 : decode b_RR_requireRelation 5 = .ok (.aload_n 0, 1) := by decide +kernel
theorem d_RR_requireRelation_6 : decode b_RR_requireRelation 6 = .ok (.getfield 10, 3) := by decide +kernel
theorem d_RR_requireRelation_9 : decode b_RR_requireRelation 9 = .ok (.getfield 56, 3) := by decide +kernel
theorem d_RR_requireRelation_12 : decode b_RR_requireRelation 12 = .ok (.if_icmp .lt 13, 3) := by decide +kernel
theorem d_RR_requireRelation_15 : decode b_RR_requireRelation 15 = .ok (.new 49, 3) := by decide +kernel
theorem d_RR_requireRelation_18 : decode b_RR_requireRelation 18 = .ok (.dup, 1) := by decide +kernel
theorem d_RR_requireRelation_19 : decode b_RR_requireRelation 19 = .ok (.ldc 198, 2) := by decide +kernel
theorem d_RR_requireRelation_21 : decode b_RR_requireRelation 21 = .ok (.invokespecial 53, 3) := by decide +kernel
theorem d_RR_requireRelation_24 : decode b_RR_requireRelation 24 = .ok (.athrow, 1) := by decide +kernel
theorem d_RR_requireRelation_25 : decode b_RR_requireRelation 25 = .ok (.return_, 1) := by decide +kernel
theorem d_RR_requireTuple_0 : decode b_RR_requireTuple 0 = .ok (.aload_n 0, 1) := by decide +kernel
theorem d_RR_requireTuple_1 : decode b_RR_requireTuple 1 = .ok (.iload_n 1, 1) := by decide +kernel
theorem d_RR_requireTuple_2 : decode b_RR_requireTuple 2 = .ok (.invokevirtual 144, 3) := by decide +kernel
theorem d_RR_requireTuple_5 : decode b_RR_requireTuple 5 = .ok (.bipush 64, 2) := by decide +kernel
theorem d_RR_requireTuple_7 : decode b_RR_requireTuple 7 = .ok (.aload_n 0, 1) := by decide +kernel
theorem d_RR_requireTuple_8 : decode b_RR_requireTuple 8 = .ok (.getfield 10, 3) := by decide +kernel
theorem d_RR_requireTuple_11 : decode b_RR_requireTuple 11 = .ok (.getfield 99, 3) := by decide +kernel
theorem d_RR_requireTuple_14 : decode b_RR_requireTuple 14 = .ok (.iload_n 1, 1) := by decide +kernel
theorem d_RR_requireTuple_15 : decode b_RR_requireTuple 15 = .ok (.iaload, 1) := by decide +kernel
theorem d_RR_requireTuple_16 : decode b_RR_requireTuple 16 = .ok (.iload_n 2, 1) := by decide +kernel
theorem d_RR_requireTuple_17 : decode b_RR_requireTuple 17 = .ok (.iload_n 3, 1) := by decide +kernel
theorem d_RR_requireTuple_18 : decode b_RR_requireTuple 18 = .ok (.iload 4, 2) := by decide +kernel
theorem d_RR_requireTuple_20 : decode b_RR_requireTuple 20 = .ok (.invokestatic 200, 3) := by decide +kernel
theorem d_RR_requireTuple_23 : decode b_RR_requireTuple 23 = .ok (.ifCond .ne 13, 3) := by decide +kernel
theorem d_RR_requireTuple_26 : decode b_RR_requireTuple 26 = .ok (.new 49, 3) := by decide +kernel
theorem d_RR_requireTuple_29 : decode b_RR_requireTuple 29 = .ok (.dup, 1) := by decide +kernel
theorem d_RR_requireTuple_30 : decode b_RR_requireTuple 30 = .ok (.ldc 204, 2) := by decide +kernel
theorem d_RR_requireTuple_32 : decode b_RR_requireTuple 32 = .ok (.invokespecial 53, 3) := by decide +kernel
theorem d_RR_requireTuple_35 : decode b_RR_requireTuple 35 = .ok (.athrow, 1) := by decide +kernel
theorem d_RR_requireTuple_36 : decode b_RR_requireTuple 36 = .ok (.return_, 1) := by decide +kernel
theorem d_RR_requireTerms_0 : decode b_RR_requireTerms 0 = .ok (.aload_n 0, 1) := by decide +kernel
theorem d_RR_requireTerms_1 : decode b_RR_requireTerms 1 = .ok (.iload_n 1, 1) := by decide +kernel
theorem d_RR_requireTerms_2 : decode b_RR_requireTerms 2 = .ok (.invokevirtual 144, 3) := by decide +kernel
theorem d_RR_requireTerms_5 : decode b_RR_requireTerms 5 = .ok (.bipush 72, 2) := by decide +kernel
theorem d_RR_requireTerms_7 : decode b_RR_requireTerms 7 = .ok (.aload_n 0, 1) := by decide +kernel
theorem d_RR_requireTerms_8 : decode b_RR_requireTerms 8 = .ok (.getfield 10, 3) := by decide +kernel
theorem d_RR_requireTerms_11 : decode b_RR_requireTerms 11 = .ok (.getfield 99, 3) := by decide +kernel
theorem d_RR_requireTerms_14 : decode b_RR_requireTerms 14 = .ok (.iload_n 1, 1) := by decide +kernel
theorem d_RR_requireTerms_15 : decode b_RR_requireTerms 15 = .ok (.iaload, 1) := by decide +kernel
theorem d_RR_requireTerms_16 : decode b_RR_requireTerms 16 = .ok (.iload_n 2, 1) := by decide +kernel
theorem d_RR_requireTerms_17 : decode b_RR_requireTerms 17 = .ok (.iload_n 3, 1) := by decide +kernel
theorem d_RR_requireTerms_18 : decode b_RR_requireTerms 18 = .ok (.iload 4, 2) := by decide +kernel
theorem d_RR_requireTerms_20 : decode b_RR_requireTerms 20 = .ok (.invokestatic 200, 3) := by decide +kernel
theorem d_RR_requireTerms_23 : decode b_RR_requireTerms 23 = .ok (.ifCond .ne 13, 3) := by decide +kernel
theorem d_RR_requireTerms_26 : decode b_RR_requireTerms 26 = .ok (.new 49, 3) := by decide +kernel
theorem d_RR_requireTerms_29 : decode b_RR_requireTerms 29 = .ok (.dup, 1) := by decide +kernel
theorem d_RR_requireTerms_30 : decode b_RR_requireTerms 30 = .ok (.ldc 206, 2) := by decide +kernel
theorem d_RR_requireTerms_32 : decode b_RR_requireTerms 32 = .ok (.invokespecial 53, 3) := by decide +kernel
theorem d_RR_requireTerms_35 : decode b_RR_requireTerms 35 = .ok (.athrow, 1) := by decide +kernel
theorem d_RR_requireTerms_36 : decode b_RR_requireTerms 36 = .ok (.return_, 1) := by decide +kernel
theorem d_RR_requireComparison_0 : decode b_RR_requireComparison 0 = .ok (.iload_n 0, 1) := by decide +kernel
theorem d_RR_requireComparison_1 : decode b_RR_requireComparison 1 = .ok (.ifCond .ne 15, 3) := by decide +kernel
theorem d_RR_requireComparison_4 : decode b_RR_requireComparison 4 = .ok (.bipush 72, 2) := by decide +kernel
theorem d_RR_requireComparison_6 : decode b_RR_requireComparison 6 = .ok (.iconst 2, 1) := by decide +kernel
theorem d_RR_requireComparison_7 : decode b_RR_requireComparison 7 = .ok (.iload_n 1, 1) := by decide +kernel
theorem d_RR_requireComparison_8 : decode b_RR_requireComparison 8 = .ok (.iload_n 2, 1) := by decide +kernel
theorem d_RR_requireComparison_9 : decode b_RR_requireComparison 9 = .ok (.iload_n 3, 1) := by decide +kernel
theorem d_RR_requireComparison_10 : decode b_RR_requireComparison 10 = .ok (.invokestatic 200, 3) := by decide +kernel
theorem d_RR_requireComparison_13 : decode b_RR_requireComparison 13 = .ok (.ifCond .ne 13, 3) := by decide +kernel
theorem d_RR_requireComparison_16 : decode b_RR_requireComparison 16 = .ok (.new 49, 3) := by decide +kernel
theorem d_RR_requireComparison_19 : decode b_RR_requireComparison 19 = .ok (.dup, 1) := by decide +kernel
theorem d_RR_requireComparison_20 : decode b_RR_requireComparison 20 = .ok (.ldc 208, 2) := by decide +kernel
theorem d_RR_requireComparison_22 : decode b_RR_requireComparison 22 = .ok (.invokespecial 53, 3) := by decide +kernel
theorem d_RR_requireComparison_25 : decode b_RR_requireComparison 25 = .ok (.athrow, 1) := by decide +kernel
theorem d_RR_requireComparison_26 : decode b_RR_requireComparison 26 = .ok (.return_, 1) := by decide +kernel
theorem d_RR_areWithin_0 : decode b_RR_areWithin 0 = .ok (.iload_n 0, 1) := by decide +kernel
theorem d_RR_areWithin_1 : decode b_RR_areWithin 1 = .ok (.iload_n 2, 1) := by decide +kernel
theorem d_RR_areWithin_2 : decode b_RR_areWithin 2 = .ok (.invokestatic 210, 3) := by decide +kernel
theorem d_RR_areWithin_5 : decode b_RR_areWithin 5 = .ok (.ifCond .eq 42, 3) := by decide +kernel
theorem d_RR_areWithin_8 : decode b_RR_areWithin 8 = .ok (.iload_n 1, 1) := by decide +kernel
theorem d_RR_areWithin_9 : decode b_RR_areWithin 9 = .ok (.iconst 1, 1) := by decide +kernel
theorem d_RR_areWithin_10 : decode b_RR_areWithin 10 = .ok (.if_icmp .le 7, 3) := by decide +kernel
theorem d_RR_areWithin_13 : decode b_RR_areWithin 13 = .ok (.iload_n 0, 1) := by decide +kernel
theorem d_RR_areWithin_14 : decode b_RR_areWithin 14 = .ok (.goto 4, 3) := by decide +kernel
theorem d_RR_areWithin_17 : decode b_RR_areWithin 17 = .ok (.iconst 1, 1) := by decide +kernel
theorem d_RR_areWithin_18 : decode b_RR_areWithin 18 = .ok (.iload_n 3, 1) := by decide +kernel
theorem d_RR_areWithin_19 : decode b_RR_areWithin 19 = .ok (.invokestatic 210, 3) := by decide +kernel
theorem d_RR_areWithin_22 : decode b_RR_areWithin 22 = .ok (.ifCond .eq 25, 3) := by decide +kernel
theorem d_RR_areWithin_25 : decode b_RR_areWithin 25 = .ok (.iload_n 1, 1) := by decide +kernel
theorem d_RR_areWithin_26 : decode b_RR_areWithin 26 = .ok (.iconst 2, 1) := by decide +kernel
theorem d_RR_areWithin_27 : decode b_RR_areWithin 27 = .ok (.if_icmp .le 7, 3) := by decide +kernel
theorem d_RR_areWithin_30 : decode b_RR_areWithin 30 = .ok (.iload_n 0, 1) := by decide +kernel
theorem d_RR_areWithin_31 : decode b_RR_areWithin 31 = .ok (.goto 4, 3) := by decide +kernel
theorem d_RR_areWithin_34 : decode b_RR_areWithin 34 = .ok (.iconst 1, 1) := by decide +kernel
theorem d_RR_areWithin_35 : decode b_RR_areWithin 35 = .ok (.iload 4, 2) := by decide +kernel
theorem d_RR_areWithin_37 : decode b_RR_areWithin 37 = .ok (.invokestatic 210, 3) := by decide +kernel
theorem d_RR_areWithin_40 : decode b_RR_areWithin 40 = .ok (.ifCond .eq 7, 3) := by decide +kernel
theorem d_RR_areWithin_43 : decode b_RR_areWithin 43 = .ok (.iconst 1, 1) := by decide +kernel
theorem d_RR_areWithin_44 : decode b_RR_areWithin 44 = .ok (.goto 4, 3) := by decide +kernel
theorem d_RR_areWithin_47 : decode b_RR_areWithin 47 = .ok (.iconst 0, 1) := by decide +kernel
theorem d_RR_areWithin_48 : decode b_RR_areWithin 48 = .ok (.ireturn, 1) := by decide +kernel
theorem d_RR_isWithin_0 : decode b_RR_isWithin 0 = .ok (.iload_n 1, 1) := by decide +kernel
theorem d_RR_isWithin_1 : decode b_RR_isWithin 1 = .ok (.ifCond .lt 12, 3) := by decide +kernel
theorem d_RR_isWithin_4 : decode b_RR_isWithin 4 = .ok (.iload_n 1, 1) := by decide +kernel
theorem d_RR_isWithin_5 : decode b_RR_isWithin 5 = .ok (.iload_n 0, 1) := by decide +kernel
theorem d_RR_isWithin_6 : decode b_RR_isWithin 6 = .ok (.if_icmp .ge 7, 3) := by decide +kernel
theorem d_RR_isWithin_9 : decode b_RR_isWithin 9 = .ok (.iconst 1, 1) := by decide +kernel
theorem d_RR_isWithin_10 : decode b_RR_isWithin 10 = .ok (.goto 4, 3) := by decide +kernel
theorem d_RR_isWithin_13 : decode b_RR_isWithin 13 = .ok (.iconst 0, 1) := by decide +kernel
theorem d_RR_isWithin_14 : decode b_RR_isWithin 14 = .ok (.ireturn, 1) := by decide +kernel
theorem d_RR_codeOf_0 : decode b_RR_codeOf 0 = .ok (.iload_n 0, 1) := by decide +kernel
theorem d_RR_codeOf_1 : decode b_RR_codeOf 1 = .ok (.bipush 64, 2) := by decide +kernel
theorem d_RR_codeOf_3 : decode b_RR_codeOf 3 = .ok (.imul, 1) := by decide +kernel
theorem d_RR_codeOf_4 : decode b_RR_codeOf 4 = .ok (.iload_n 1, 1) := by decide +kernel
theorem d_RR_codeOf_5 : decode b_RR_codeOf 5 = .ok (.iadd, 1) := by decide +kernel
theorem d_RR_codeOf_6 : decode b_RR_codeOf 6 = .ok (.bipush 64, 2) := by decide +kernel
theorem d_RR_codeOf_8 : decode b_RR_codeOf 8 = .ok (.imul, 1) := by decide +kernel
theorem d_RR_codeOf_9 : decode b_RR_codeOf 9 = .ok (.iload_n 2, 1) := by decide +kernel
theorem d_RR_codeOf_10 : decode b_RR_codeOf 10 = .ok (.iadd, 1) := by decide +kernel
theorem d_RR_codeOf_11 : decode b_RR_codeOf 11 = .ok (.bipush 64, 2) := by decide +kernel
theorem d_RR_codeOf_13 : decode b_RR_codeOf 13 = .ok (.imul, 1) := by decide +kernel
theorem d_RR_codeOf_14 : decode b_RR_codeOf 14 = .ok (.iload_n 3, 1) := by decide +kernel
theorem d_RR_codeOf_15 : decode b_RR_codeOf 15 = .ok (.iadd, 1) := by decide +kernel
theorem d_RR_codeOf_16 : decode b_RR_codeOf 16 = .ok (.ireturn, 1) := by decide +kernel
theorem d_RR_valueAt_0 : decode b_RR_valueAt 0 = .ok (.iload_n 0, 1) := by decide +kernel
theorem d_RR_valueAt_1 : decode b_RR_valueAt 1 = .ok (.bipush 6, 2) := by decide +kernel
theorem d_RR_valueAt_3 : decode b_RR_valueAt 3 = .ok (.iconst 2, 1) := by decide +kernel
theorem d_RR_valueAt_4 : decode b_RR_valueAt 4 = .ok (.iload_n 1, 1) := by decide +kernel
theorem d_RR_valueAt_5 : decode b_RR_valueAt 5 = .ok (.isub, 1) := by decide +kernel
theorem d_RR_valueAt_6 : decode b_RR_valueAt 6 = .ok (.imul, 1) := by decide +kernel
theorem d_RR_valueAt_7 : decode b_RR_valueAt 7 = .ok (.ishr, 1) := by decide +kernel
theorem d_RR_valueAt_8 : decode b_RR_valueAt 8 = .ok (.bipush 63, 2) := by decide +kernel
theorem d_RR_valueAt_10 : decode b_RR_valueAt 10 = .ok (.iand, 1) := by decide +kernel
theorem d_RR_valueAt_11 : decode b_RR_valueAt 11 = .ok (.ireturn, 1) := by decide +kernel
theorem d_DE_init_0 : decode b_DE_init 0 = .ok (.aload_n 0, 1) := by decide +kernel
theorem d_DE_init_1 : decode b_DE_init 1 = .ok (.invokespecial 3, 3) := by decide +kernel
theorem d_DE_init_4 : decode b_DE_init 4 = .ok (.aload_n 0, 1) := by decide +kernel
theorem d_DE_init_5 : decode b_DE_init 5 = .ok (.aload_n 1, 1) := by decide +kernel
theorem d_DE_init_6 : decode b_DE_init 6 = .ok (.putfield 9, 3) := by decide +kernel
theorem d_DE_init_9 : decode b_DE_init 9 = .ok (.aload_n 0, 1) := by decide +kernel
theorem d_DE_init_10 : decode b_DE_init 10 = .ok (.aload_n 2, 1) := by decide +kernel
theorem d_DE_init_11 : decode b_DE_init 11 = .ok (.putfield 15, 3) := by decide +kernel
theorem d_DE_init_14 : decode b_DE_init 14 = .ok (.aload_n 0, 1) := by decide +kernel
theorem d_DE_init_15 : decode b_DE_init 15 = .ok (.aload_n 3, 1) := by decide +kernel
theorem d_DE_init_16 : decode b_DE_init 16 = .ok (.putfield 19, 3) := by decide +kernel
theorem d_DE_init_19 : decode b_DE_init 19 = .ok (.aload_n 0, 1) := by decide +kernel
theorem d_DE_init_20 : decode b_DE_init 20 = .ok (.new 23, 3) := by decide +kernel
theorem d_DE_init_23 : decode b_DE_init 23 = .ok (.dup, 1) := by decide +kernel
theorem d_DE_init_24 : decode b_DE_init 24 = .ok (.invokespecial 25, 3) := by decide +kernel
theorem d_DE_init_27 : decode b_DE_init 27 = .ok (.putfield 26, 3) := by decide +kernel
theorem d_DE_init_30 : decode b_DE_init 30 = .ok (.aload_n 0, 1) := by decide +kernel
theorem d_DE_init_31 : decode b_DE_init 31 = .ok (.new 23, 3) := by decide +kernel
theorem d_DE_init_34 : decode b_DE_init 34 = .ok (.dup, 1) := by decide +kernel
theorem d_DE_init_35 : decode b_DE_init 35 = .ok (.invokespecial 25, 3) := by decide +kernel
theorem d_DE_init_38 : decode b_DE_init 38 = .ok (.putfield 29, 3) := by decide +kernel
theorem d_DE_init_41 : decode b_DE_init 41 = .ok (.aload_n 0, 1) := by decide +kernel
theorem d_DE_init_42 : decode b_DE_init 42 = .ok (.iconst 0, 1) := by decide +kernel
theorem d_DE_init_43 : decode b_DE_init 43 = .ok (.putfield 32, 3) := by decide +kernel
theorem d_DE_init_46 : decode b_DE_init 46 = .ok (.aload_n 0, 1) := by decide +kernel
theorem d_DE_init_47 : decode b_DE_init 47 = .ok (.iconst 1, 1) := by decide +kernel
theorem d_DE_init_48 : decode b_DE_init 48 = .ok (.putfield 36, 3) := by decide +kernel
theorem d_DE_init_51 : decode b_DE_init 51 = .ok (.aload_n 0, 1) := by decide +kernel
theorem d_DE_init_52 : decode b_DE_init 52 = .ok (.iconst 0, 1) := by decide +kernel
theorem d_DE_init_53 : decode b_DE_init 53 = .ok (.putfield 40, 3) := by decide +kernel
theorem d_DE_init_56 : decode b_DE_init 56 = .ok (.return_, 1) := by decide +kernel
theorem d_DE_beginAnew_0 : decode b_DE_beginAnew 0 = .ok (.aload_n 0, 1) := by decide +kernel
theorem d_DE_beginAnew_1 : decode b_DE_beginAnew 1 = .ok (.getfield 15, 3) := by decide +kernel
theorem d_DE_beginAnew_4 : decode b_DE_beginAnew 4 = .ok (.invokevirtual 43, 3) := by decide +kernel
theorem d_DE_beginAnew_7 : decode b_DE_beginAnew 7 = .ok (.aload_n 0, 1) := by decide +kernel
theorem d_DE_beginAnew_8 : decode b_DE_beginAnew 8 = .ok (.iconst 0, 1) := by decide +kernel
theorem d_DE_beginAnew_9 : decode b_DE_beginAnew 9 = .ok (.putfield 32, 3) := by decide +kernel
theorem d_DE_beginAnew_12 : decode b_DE_beginAnew 12 = .ok (.aload_n 0, 1) := by decide +kernel
theorem d_DE_beginAnew_13 : decode b_DE_beginAnew 13 = .ok (.iconst 1, 1) := by decide +kernel
theorem d_DE_beginAnew_14 : decode b_DE_beginAnew 14 = .ok (.putfield 36, 3) := by decide +kernel
theorem d_DE_beginAnew_17 : decode b_DE_beginAnew 17 = .ok (.aload_n 0, 1) := by decide +kernel
theorem d_DE_beginAnew_18 : decode b_DE_beginAnew 18 = .ok (.iconst 0, 1) := by decide +kernel
theorem d_DE_beginAnew_19 : decode b_DE_beginAnew 19 = .ok (.putfield 40, 3) := by decide +kernel
theorem d_DE_beginAnew_22 : decode b_DE_beginAnew 22 = .ok (.return_, 1) := by decide +kernel
theorem d_DE_nextRound_0 : decode b_DE_nextRound 0 = .ok (.aload_n 0, 1) := by decide +kernel
theorem d_DE_nextRound_1 : decode b_DE_nextRound 1 = .ok (.getfield 9, 3) := by decide +kernel
theorem d_DE_nextRound_4 : decode b_DE_nextRound 4 = .ok (.getfield 46, 3) := by decide +kernel
theorem d_DE_nextRound_7 : decode b_DE_nextRound 7 = .ok (.bipush (-3), 2) := by decide +kernel
theorem d_DE_nextRound_9 : decode b_DE_nextRound 9 = .ok (.if_icmp .ne 6, 3) := by decide +kernel
theorem d_DE_nextRound_12 : decode b_DE_nextRound 12 = .ok (.bipush (-3), 2) := by decide +kernel
theorem d_DE_nextRound_14 : decode b_DE_nextRound 14 = .ok (.ireturn, 1) := by decide +kernel
theorem d_DE_nextRound_15 : decode b_DE_nextRound 15 = .ok (.aload_n 0, 1) := by decide +kernel
theorem d_DE_nextRound_16 : decode b_DE_nextRound 16 = .ok (.getfield 32, 3) := by decide +kernel
theorem d_DE_nextRound_19 : decode b_DE_nextRound 19 = .ok (.aload_n 0, 1) := by decide +kernel
theorem d_DE_nextRound_20 : decode b_DE_nextRound 20 = .ok (.getfield 9, 3) := by decide +kernel
theorem d_DE_nextRound_23 : decode b_DE_nextRound 23 = .ok (.getfield 46, 3) := by decide +kernel
theorem d_DE_nextRound_26 : decode b_DE_nextRound 26 = .ok (.if_icmp .lt 6, 3) := by decide +kernel
theorem d_DE_nextRound_29 : decode b_DE_nextRound 29 = .ok (.bipush (-4), 2) := by decide +kernel
theorem d_DE_nextRound_31 : decode b_DE_nextRound 31 = .ok (.ireturn, 1) := by decide +kernel
theorem d_DE_nextRound_32 : decode b_DE_nextRound 32 = .ok (.aload_n 0, 1) := by decide +kernel
theorem d_DE_nextRound_33 : decode b_DE_nextRound 33 = .ok (.getfield 29, 3) := by decide +kernel
theorem d_DE_nextRound_36 : decode b_DE_nextRound 36 = .ok (.iconst 0, 1) := by decide +kernel
theorem d_DE_nextRound_37 : decode b_DE_nextRound 37 = .ok (.putfield 51, 3) := by decide +kernel
theorem d_DE_nextRound_40 : decode b_DE_nextRound 40 = .ok (.iconst 0, 1) := by decide +kernel
theorem d_DE_nextRound_41 : decode b_DE_nextRound 41 = .ok (.istore_n 1, 1) := by decide +kernel
theorem d_DE_nextRound_42 : decode b_DE_nextRound 42 = .ok (.iload_n 1, 1) := by decide +kernel
theorem d_DE_nextRound_43 : decode b_DE_nextRound 43 = .ok (.aload_n 0, 1) := by decide +kernel
theorem d_DE_nextRound_44 : decode b_DE_nextRound 44 = .ok (.getfield 9, 3) := by decide +kernel
theorem d_DE_nextRound_47 : decode b_DE_nextRound 47 = .ok (.getfield 54, 3) := by decide +kernel
