theorem d_LA_relation_0 : decode b_LA_relation 0 = .ok (.aload_n 2, 1) := by decide +kernel
theorem d_LA_relation_1 : decode b_LA_relation 1 = .ok (.iconst 0, 1) := by decide +kernel
theorem d_LA_relation_2 : decode b_LA_relation 2 = .ok (.aload_n 0, 1) := by decide +kernel
theorem d_LA_relation_3 : decode b_LA_relation 3 = .ok (.iload_n 1, 1) := by decide +kernel
theorem d_LA_relation_4 : decode b_LA_relation 4 = .ok (.invokevirtual 7, 3) := by decide +kernel
theorem d_LA_relation_7 : decode b_LA_relation 7 = .ok (.i2l, 1) := by decide +kernel
theorem d_LA_relation_8 : decode b_LA_relation 8 = .ok (.lastore, 1) := by decide +kernel
theorem d_LA_relation_9 : decode b_LA_relation 9 = .ok (.goto 9, 3) := by decide +kernel
theorem d_LA_relation_12 : decode b_LA_relation 12 = .ok (.astore_n 3, 1) := by decide +kernel
theorem d_LA_relation_13 : decode b_LA_relation 13 = .ok (.iconst 1, 1) := by decide +kernel
theorem d_LA_relation_14 : decode b_LA_relation 14 = .ok (.ireturn, 1) := by decide +kernel
theorem d_LA_relation_15 : decode b_LA_relation 15 = .ok (.astore_n 3, 1) := by decide +kernel
theorem d_LA_relation_16 : decode b_LA_relation 16 = .ok (.iconst 2, 1) := by decide +kernel
theorem d_LA_relation_17 : decode b_LA_relation 17 = .ok (.ireturn, 1) := by decide +kernel
theorem d_LA_relation_18 : decode b_LA_relation 18 = .ok (.iconst 0, 1) := by decide +kernel
theorem d_LA_relation_19 : decode b_LA_relation 19 = .ok (.ireturn, 1) := by decide +kernel
theorem d_LA_fact_0 : decode b_LA_fact 0 = .ok (.aload 5, 2) := by decide +kernel
theorem d_LA_fact_2 : decode b_LA_fact 2 = .ok (.iconst 0, 1) := by decide +kernel
theorem d_LA_fact_3 : decode b_LA_fact 3 = .ok (.aload_n 0, 1) := by decide +kernel
theorem d_LA_fact_4 : decode b_LA_fact 4 = .ok (.iload_n 1, 1) := by decide +kernel
theorem d_LA_fact_5 : decode b_LA_fact 5 = .ok (.iload_n 2, 1) := by decide +kernel
theorem d_LA_fact_6 : decode b_LA_fact 6 = .ok (.iload_n 3, 1) := by decide +kernel
theorem d_LA_fact_7 : decode b_LA_fact 7 = .ok (.iload 4, 2) := by decide +kernel
theorem d_LA_fact_9 : decode b_LA_fact 9 = .ok (.invokevirtual 17, 3) := by decide +kernel
theorem d_LA_fact_12 : decode b_LA_fact 12 = .ok (.ifCond .eq 7, 3) := by decide +kernel
theorem d_LA_fact_15 : decode b_LA_fact 15 = .ok (.lconst 1, 1) := by decide +kernel
theorem d_LA_fact_16 : decode b_LA_fact 16 = .ok (.goto 4, 3) := by decide +kernel
theorem d_LA_fact_19 : decode b_LA_fact 19 = .ok (.lconst 0, 1) := by decide +kernel
theorem d_LA_fact_20 : decode b_LA_fact 20 = .ok (.lastore, 1) := by decide +kernel
theorem d_LA_fact_21 : decode b_LA_fact 21 = .ok (.goto 11, 3) := by decide +kernel
theorem d_LA_fact_24 : decode b_LA_fact 24 = .ok (.astore 6, 2) := by decide +kernel
theorem d_LA_fact_26 : decode b_LA_fact 26 = .ok (.iconst 1, 1) := by decide +kernel
theorem d_LA_fact_27 : decode b_LA_fact 27 = .ok (.ireturn, 1) := by decide +kernel
theorem d_LA_fact_28 : decode b_LA_fact 28 = .ok (.astore 6, 2) := by decide +kernel
theorem d_LA_fact_30 : decode b_LA_fact 30 = .ok (.iconst 2, 1) := by decide +kernel
theorem d_LA_fact_31 : decode b_LA_fact 31 = .ok (.ireturn, 1) := by decide +kernel
theorem d_LA_fact_32 : decode b_LA_fact 32 = .ok (.iconst 0, 1) := by decide +kernel
theorem d_LA_fact_33 : decode b_LA_fact 33 = .ok (.ireturn, 1) := by decide +kernel
theorem d_LA_drop_0 : decode b_LA_drop 0 = .ok (.aload 5, 2) := by decide +kernel
theorem d_LA_drop_2 : decode b_LA_drop 2 = .ok (.iconst 0, 1) := by decide +kernel
theorem d_LA_drop_3 : decode b_LA_drop 3 = .ok (.aload_n 0, 1) := by decide +kernel
theorem d_LA_drop_4 : decode b_LA_drop 4 = .ok (.iload_n 1, 1) := by decide +kernel
theorem d_LA_drop_5 : decode b_LA_drop 5 = .ok (.iload_n 2, 1) := by decide +kernel
theorem d_LA_drop_6 : decode b_LA_drop 6 = .ok (.iload_n 3, 1) := by decide +kernel
theorem d_LA_drop_7 : decode b_LA_drop 7 = .ok (.iload 4, 2) := by decide +kernel
theorem d_LA_drop_9 : decode b_LA_drop 9 = .ok (.invokevirtual 21, 3) := by decide +kernel
theorem d_LA_drop_12 : decode b_LA_drop 12 = .ok (.ifCond .eq 7, 3) := by decide +kernel
theorem d_LA_drop_15 : decode b_LA_drop 15 = .ok (.lconst 1, 1) := by decide +kernel
theorem d_LA_drop_16 : decode b_LA_drop 16 = .ok (.goto 4, 3) := by decide +kernel
theorem d_LA_drop_19 : decode b_LA_drop 19 = .ok (.lconst 0, 1) := by decide +kernel
theorem d_LA_drop_20 : decode b_LA_drop 20 = .ok (.lastore, 1) := by decide +kernel
theorem d_LA_drop_21 : decode b_LA_drop 21 = .ok (.goto 7, 3) := by decide +kernel
theorem d_LA_drop_24 : decode b_LA_drop 24 = .ok (.astore 6, 2) := by decide +kernel
theorem d_LA_drop_26 : decode b_LA_drop 26 = .ok (.iconst 1, 1) := by decide +kernel
theorem d_LA_drop_27 : decode b_LA_drop 27 = .ok (.ireturn, 1) := by decide +kernel
theorem d_LA_drop_28 : decode b_LA_drop 28 = .ok (.iconst 0, 1) := by decide +kernel
theorem d_LA_drop_29 : decode b_LA_drop 29 = .ok (.ireturn, 1) := by decide +kernel
theorem d_LA_head_0 : decode b_LA_head 0 = .ok (.aload_n 0, 1) := by decide +kernel
theorem d_LA_head_1 : decode b_LA_head 1 = .ok (.iload_n 1, 1) := by decide +kernel
theorem d_LA_head_2 : decode b_LA_head 2 = .ok (.iload_n 2, 1) := by decide +kernel
theorem d_LA_head_3 : decode b_LA_head 3 = .ok (.iload_n 3, 1) := by decide +kernel
theorem d_LA_head_4 : decode b_LA_head 4 = .ok (.iload 4, 2) := by decide +kernel
theorem d_LA_head_6 : decode b_LA_head 6 = .ok (.invokevirtual 24, 3) := by decide +kernel
theorem d_LA_head_9 : decode b_LA_head 9 = .ok (.goto 7, 3) := by decide +kernel
theorem d_LA_head_12 : decode b_LA_head 12 = .ok (.astore 5, 2) := by decide +kernel
theorem d_LA_head_14 : decode b_LA_head 14 = .ok (.iconst 1, 1) := by decide +kernel
theorem d_LA_head_15 : decode b_LA_head 15 = .ok (.ireturn, 1) := by decide +kernel
theorem d_LA_head_16 : decode b_LA_head 16 = .ok (.iconst 0, 1) := by decide +kernel
theorem d_LA_head_17 : decode b_LA_head 17 = .ok (.ireturn, 1) := by decide +kernel
theorem d_LA_item_0 : decode b_LA_item 0 = .ok (.aload 6, 2) := by decide +kernel
theorem d_LA_item_2 : decode b_LA_item 2 = .ok (.iconst 0, 1) := by decide +kernel
theorem d_LA_item_3 : decode b_LA_item 3 = .ok (.aload_n 0, 1) := by decide +kernel
theorem d_LA_item_4 : decode b_LA_item 4 = .ok (.iload_n 1, 1) := by decide +kernel
theorem d_LA_item_5 : decode b_LA_item 5 = .ok (.iload_n 2, 1) := by decide +kernel
theorem d_LA_item_6 : decode b_LA_item 6 = .ok (.iload_n 3, 1) := by decide +kernel
theorem d_LA_item_7 : decode b_LA_item 7 = .ok (.iload 4, 2) := by decide +kernel
theorem d_LA_item_9 : decode b_LA_item 9 = .ok (.iload 5, 2) := by decide +kernel
theorem d_LA_item_11 : decode b_LA_item 11 = .ok (.invokevirtual 28, 3) := by decide +kernel
theorem d_LA_item_14 : decode b_LA_item 14 = .ok (.i2l, 1) := by decide +kernel
theorem d_LA_item_15 : decode b_LA_item 15 = .ok (.lastore, 1) := by decide +kernel
theorem d_LA_item_16 : decode b_LA_item 16 = .ok (.goto 11, 3) := by decide +kernel
theorem d_LA_item_19 : decode b_LA_item 19 = .ok (.astore 7, 2) := by decide +kernel
theorem d_LA_item_21 : decode b_LA_item 21 = .ok (.iconst 1, 1) := by decide +kernel
theorem d_LA_item_22 : decode b_LA_item 22 = .ok (.ireturn, 1) := by decide +kernel
theorem d_LA_item_23 : decode b_LA_item 23 = .ok (.astore 7, 2) := by decide +kernel
theorem d_LA_item_25 : decode b_LA_item 25 = .ok (.iconst 2, 1) := by decide +kernel
theorem d_LA_item_26 : decode b_LA_item 26 = .ok (.ireturn, 1) := by decide +kernel
theorem d_LA_item_27 : decode b_LA_item 27 = .ok (.iconst 0, 1) := by decide +kernel
theorem d_LA_item_28 : decode b_LA_item 28 = .ok (.ireturn, 1) := by decide +kernel
theorem d_LA_rule_0 : decode b_LA_rule 0 = .ok (.aload_n 1, 1) := by decide +kernel
theorem d_LA_rule_1 : decode b_LA_rule 1 = .ok (.iconst 0, 1) := by decide +kernel
theorem d_LA_rule_2 : decode b_LA_rule 2 = .ok (.aload_n 0, 1) := by decide +kernel
theorem d_LA_rule_3 : decode b_LA_rule 3 = .ok (.invokevirtual 32, 3) := by decide +kernel
theorem d_LA_rule_6 : decode b_LA_rule 6 = .ok (.i2l, 1) := by decide +kernel
theorem d_LA_rule_7 : decode b_LA_rule 7 = .ok (.lastore, 1) := by decide +kernel
theorem d_LA_rule_8 : decode b_LA_rule 8 = .ok (.goto 6, 3) := by decide +kernel
theorem d_LA_rule_11 : decode b_LA_rule 11 = .ok (.astore_n 2, 1) := by decide +kernel
theorem d_LA_rule_12 : decode b_LA_rule 12 = .ok (.iconst 1, 1) := by decide +kernel
theorem d_LA_rule_13 : decode b_LA_rule 13 = .ok (.ireturn, 1) := by decide +kernel
theorem d_LA_rule_14 : decode b_LA_rule 14 = .ok (.iconst 0, 1) := by decide +kernel
theorem d_LA_rule_15 : decode b_LA_rule 15 = .ok (.ireturn, 1) := by decide +kernel
theorem d_LA_stratum_0 : decode b_LA_stratum 0 = .ok (.aload_n 2, 1) := by decide +kernel
theorem d_LA_stratum_1 : decode b_LA_stratum 1 = .ok (.iconst 0, 1) := by decide +kernel
theorem d_LA_stratum_2 : decode b_LA_stratum 2 = .ok (.aload_n 0, 1) := by decide +kernel
theorem d_LA_stratum_3 : decode b_LA_stratum 3 = .ok (.iload_n 1, 1) := by decide +kernel
theorem d_LA_stratum_4 : decode b_LA_stratum 4 = .ok (.invokevirtual 36, 3) := by decide +kernel
theorem d_LA_stratum_7 : decode b_LA_stratum 7 = .ok (.i2l, 1) := by decide +kernel
theorem d_LA_stratum_8 : decode b_LA_stratum 8 = .ok (.lastore, 1) := by decide +kernel
theorem d_LA_stratum_9 : decode b_LA_stratum 9 = .ok (.goto 9, 3) := by decide +kernel
theorem d_LA_stratum_12 : decode b_LA_stratum 12 = .ok (.astore_n 3, 1) := by decide +kernel
theorem d_LA_stratum_13 : decode b_LA_stratum 13 = .ok (.iconst 1, 1) := by decide +kernel
theorem d_LA_stratum_14 : decode b_LA_stratum 14 = .ok (.ireturn, 1) := by decide +kernel
theorem d_LA_stratum_15 : decode b_LA_stratum 15 = .ok (.astore_n 3, 1) := by decide +kernel
theorem d_LA_stratum_16 : decode b_LA_stratum 16 = .ok (.iconst 2, 1) := by decide +kernel
theorem d_LA_stratum_17 : decode b_LA_stratum 17 = .ok (.ireturn, 1) := by decide +kernel
theorem d_LA_stratum_18 : decode b_LA_stratum 18 = .ok (.iconst 0, 1) := by decide +kernel
theorem d_LA_stratum_19 : decode b_LA_stratum 19 = .ok (.ireturn, 1) := by decide +kernel
theorem d_LA_count_0 : decode b_LA_count 0 = .ok (.aload_n 2, 1) := by decide +kernel
theorem d_LA_count_1 : decode b_LA_count 1 = .ok (.iconst 0, 1) := by decide +kernel
theorem d_LA_count_2 : decode b_LA_count 2 = .ok (.aload_n 0, 1) := by decide +kernel
theorem d_LA_count_3 : decode b_LA_count 3 = .ok (.iload_n 1, 1) := by decide +kernel
theorem d_LA_count_4 : decode b_LA_count 4 = .ok (.invokevirtual 39, 3) := by decide +kernel
theorem d_LA_count_7 : decode b_LA_count 7 = .ok (.i2l, 1) := by decide +kernel
theorem d_LA_count_8 : decode b_LA_count 8 = .ok (.lastore, 1) := by decide +kernel
theorem d_LA_count_9 : decode b_LA_count 9 = .ok (.goto 6, 3) := by decide +kernel
theorem d_LA_count_12 : decode b_LA_count 12 = .ok (.astore_n 3, 1) := by decide +kernel
theorem d_LA_count_13 : decode b_LA_count 13 = .ok (.iconst 1, 1) := by decide +kernel
theorem d_LA_count_14 : decode b_LA_count 14 = .ok (.ireturn, 1) := by decide +kernel
theorem d_LA_count_15 : decode b_LA_count 15 = .ok (.iconst 0, 1) := by decide +kernel
theorem d_LA_count_16 : decode b_LA_count 16 = .ok (.ireturn, 1) := by decide +kernel
theorem d_LA_has_0 : decode b_LA_has 0 = .ok (.aload 5, 2) := by decide +kernel
theorem d_LA_has_2 : decode b_LA_has 2 = .ok (.iconst 0, 1) := by decide +kernel
theorem d_LA_has_3 : decode b_LA_has 3 = .ok (.aload_n 0, 1) := by decide +kernel
theorem d_LA_has_4 : decode b_LA_has 4 = .ok (.iload_n 1, 1) := by decide +kernel
theorem d_LA_has_5 : decode b_LA_has 5 = .ok (.iload_n 2, 1) := by decide +kernel
theorem d_LA_has_6 : decode b_LA_has 6 = .ok (.iload_n 3, 1) := by decide +kernel
theorem d_LA_has_7 : decode b_LA_has 7 = .ok (.iload 4, 2) := by decide +kernel
theorem d_LA_has_9 : decode b_LA_has 9 = .ok (.invokevirtual 42, 3) := by decide +kernel
theorem d_LA_has_12 : decode b_LA_has 12 = .ok (.ifCond .eq 7, 3) := by decide +kernel
theorem d_LA_has_15 : decode b_LA_has 15 = .ok (.lconst 1, 1) := by decide +kernel
theorem d_LA_has_16 : decode b_LA_has 16 = .ok (.goto 4, 3) := by decide +kernel
theorem d_LA_has_19 : decode b_LA_has 19 = .ok (.lconst 0, 1) := by decide +kernel
theorem d_LA_has_20 : decode b_LA_has 20 = .ok (.lastore, 1) := by decide +kernel
theorem d_LA_has_21 : decode b_LA_has 21 = .ok (.goto 7, 3) := by decide +kernel
theorem d_LA_has_24 : decode b_LA_has 24 = .ok (.astore 6, 2) := by decide +kernel
theorem d_LA_has_26 : decode b_LA_has 26 = .ok (.iconst 1, 1) := by decide +kernel
theorem d_LA_has_27 : decode b_LA_has 27 = .ok (.ireturn, 1) := by decide +kernel
theorem d_LA_has_28 : decode b_LA_has 28 = .ok (.iconst 0, 1) := by decide +kernel
theorem d_LA_has_29 : decode b_LA_has 29 = .ok (.ireturn, 1) := by decide +kernel
theorem d_LA_tuple_0 : decode b_LA_tuple 0 = .ok (.aload 4, 2) := by decide +kernel
theorem d_LA_tuple_2 : decode b_LA_tuple 2 = .ok (.iconst 0, 1) := by decide +kernel
theorem d_LA_tuple_3 : decode b_LA_tuple 3 = .ok (.aload_n 0, 1) := by decide +kernel
theorem d_LA_tuple_4 : decode b_LA_tuple 4 = .ok (.iload_n 1, 1) := by decide +kernel
theorem d_LA_tuple_5 : decode b_LA_tuple 5 = .ok (.iload_n 2, 1) := by decide +kernel
theorem d_LA_tuple_6 : decode b_LA_tuple 6 = .ok (.iload_n 3, 1) := by decide +kernel
theorem d_LA_tuple_7 : decode b_LA_tuple 7 = .ok (.invokevirtual 45, 3) := by decide +kernel
theorem d_LA_tuple_10 : decode b_LA_tuple 10 = .ok (.i2l, 1) := by decide +kernel
theorem d_LA_tuple_11 : decode b_LA_tuple 11 = .ok (.lastore, 1) := by decide +kernel
theorem d_LA_tuple_12 : decode b_LA_tuple 12 = .ok (.goto 7, 3) := by decide +kernel
theorem d_LA_tuple_15 : decode b_LA_tuple 15 = .ok (.astore 5, 2) := by decide +kernel
theorem d_LA_tuple_17 : decode b_LA_tuple 17 = .ok (.iconst 1, 1) := by decide +kernel
theorem d_LA_tuple_18 : decode b_LA_tuple 18 = .ok (.ireturn, 1) := by decide +kernel
theorem d_LA_tuple_19 : decode b_LA_tuple 19 = .ok (.iconst 0, 1) := by decide +kernel
theorem d_LA_tuple_20 : decode b_LA_tuple 20 = .ok (.ireturn, 1) := by decide +kernel
theorem d_LA_like_0 : decode b_LA_like 0 = .ok (.aload 5, 2) := by decide +kernel
theorem d_LA_like_2 : decode b_LA_like 2 = .ok (.iconst 0, 1) := by decide +kernel
theorem d_LA_like_3 : decode b_LA_like 3 = .ok (.aload_n 0, 1) := by decide +kernel
theorem d_LA_like_4 : decode b_LA_like 4 = .ok (.iload_n 1, 1) := by decide +kernel
theorem d_LA_like_5 : decode b_LA_like 5 = .ok (.iload_n 2, 1) := by decide +kernel
theorem d_LA_like_6 : decode b_LA_like 6 = .ok (.iload_n 3, 1) := by decide +kernel
theorem d_LA_like_7 : decode b_LA_like 7 = .ok (.iload 4, 2) := by decide +kernel
theorem d_LA_like_9 : decode b_LA_like 9 = .ok (.invokevirtual 49, 3) := by decide +kernel
theorem d_LA_like_12 : decode b_LA_like 12 = .ok (.i2l, 1) := by decide +kernel
theorem d_LA_like_13 : decode b_LA_like 13 = .ok (.lastore, 1) := by decide +kernel
theorem d_LA_like_14 : decode b_LA_like 14 = .ok (.goto 7, 3) := by decide +kernel
theorem d_LA_like_17 : decode b_LA_like 17 = .ok (.astore 6, 2) := by decide +kernel
theorem d_LA_like_19 : decode b_LA_like 19 = .ok (.iconst 1, 1) := by decide +kernel
theorem d_LA_like_20 : decode b_LA_like 20 = .ok (.ireturn, 1) := by decide +kernel
theorem d_LA_like_21 : decode b_LA_like 21 = .ok (.iconst 0, 1) := by decide +kernel
theorem d_LA_like_22 : decode b_LA_like 22 = .ok (.ireturn, 1) := by decide +kernel
theorem d_LA_matches_0 : decode b_LA_matches 0 = .ok (.aload_n 2, 1) := by decide +kernel
theorem d_LA_matches_1 : decode b_LA_matches 1 = .ok (.iconst 0, 1) := by decide +kernel
theorem d_LA_matches_2 : decode b_LA_matches 2 = .ok (.aload_n 0, 1) := by decide +kernel
theorem d_LA_matches_3 : decode b_LA_matches 3 = .ok (.iload_n 1, 1) := by decide +kernel
theorem d_LA_matches_4 : decode b_LA_matches 4 = .ok (.invokevirtual 53, 3) := by decide +kernel
theorem d_LA_matches_7 : decode b_LA_matches 7 = .ok (.i2l, 1) := by decide +kernel
theorem d_LA_matches_8 : decode b_LA_matches 8 = .ok (.lastore, 1) := by decide +kernel
theorem d_LA_matches_9 : decode b_LA_matches 9 = .ok (.goto 6, 3) := by decide +kernel
theorem d_LA_matches_12 : decode b_LA_matches 12 = .ok (.astore_n 3, 1) := by decide +kernel
theorem d_LA_matches_13 : decode b_LA_matches 13 = .ok (.iconst 1, 1) := by decide +kernel
theorem d_LA_matches_14 : decode b_LA_matches 14 = .ok (.ireturn, 1) := by decide +kernel
theorem d_LA_matches_15 : decode b_LA_matches 15 = .ok (.iconst 0, 1) := by decide +kernel
theorem d_LA_matches_16 : decode b_LA_matches 16 = .ok (.ireturn, 1) := by decide +kernel
theorem d_LA_law_0 : decode code 0 = .ok (.new 8, 3) := by decide +kernel
theorem d_LA_law_3 : decode code 3 = .ok (.dup, 1) := by decide +kernel
theorem d_LA_law_4 : decode code 4 = .ok (.invokespecial 56, 3) := by decide +kernel
theorem d_LA_law_7 : decode code 7 = .ok (.astore_n 1, 1) := by decide +kernel
theorem d_LA_law_8 : decode code 8 = .ok (.new 57, 3) := by decide +kernel
theorem d_LA_law_11 : decode code 11 = .ok (.dup, 1) := by decide +kernel
theorem d_LA_law_12 : decode code 12 = .ok (.invokespecial 59, 3) := by decide +kernel
theorem d_LA_law_15 : decode code 15 = .ok (.astore_n 2, 1) := by decide +kernel
theorem d_LA_law_16 : decode code 16 = .ok (.iconst 1, 1) := by decide +kernel
theorem d_LA_law_17 : decode code 17 = .ok (.newarray .long, 2) := by decide +kernel
theorem d_LA_law_19 : decode code 19 = .ok (.astore_n 3, 1) := by decide +kernel
theorem d_LA_law_20 : decode code 20 = .ok (.iconst 0, 1) := by decide +kernel
theorem d_LA_law_21 : decode code 21 = .ok (.istore 4, 2) := by decide +kernel
theorem d_LA_law_23 : decode code 23 = .ok (.iload 4, 2) := by decide +kernel
theorem d_LA_law_25 : decode code 25 = .ok (.aload_n 0, 1) := by decide +kernel
theorem d_LA_law_26 : decode code 26 = .ok (.arraylength, 1) := by decide +kernel
theorem d_LA_law_27 : decode code 27 = .ok (.bipush 6, 2) := by decide +kernel
theorem d_LA_law_29 : decode code 29 = .ok (.isub, 1) := by decide +kernel
theorem d_LA_law_30 : decode code 30 = .ok (.if_icmp .gt 1061, 3) := by decide +kernel
theorem d_LA_law_33 : decode code 33 = .ok (.aload_n 0, 1) := by decide +kernel
theorem d_LA_law_34 : decode code 34 = .ok (.iload 4, 2) := by decide +kernel
theorem d_LA_law_36 : decode code 36 = .ok (.iaload, 1) := by decide +kernel
theorem d_LA_law_37 : decode code 37 = .ok (.bipush 15, 2) := by decide +kernel
theorem d_LA_law_39 : decode code 39 = .ok (.iand, 1) := by decide +kernel
theorem d_LA_law_40 : decode code 40 = .ok (.tableswitch 1045 0 15 #[80, 136, 235, 334, 406, 510, 554, 567, 623, 636, 649, 662, 718, 817, 897, 989], 80) := by decide +kernel
theorem d_LA_law_120 : decode code 120 = .ok (.aload_n 1, 1) := by decide +kernel
theorem d_LA_law_121 : decode code 121 = .ok (.aload_n 0, 1) := by decide +kernel
theorem d_LA_law_122 : decode code 122 = .ok (.iload 4, 2) := by decide +kernel
theorem d_LA_law_124 : decode code 124 = .ok (.iconst 1, 1) := by decide +kernel
theorem d_LA_law_125 : decode code 125 = .ok (.iadd, 1) := by decide +kernel
theorem d_LA_law_126 : decode code 126 = .ok (.iaload, 1) := by decide +kernel
theorem d_LA_law_127 : decode code 127 = .ok (.aload_n 3, 1) := by decide +kernel
theorem d_LA_law_128 : decode code 128 = .ok (.invokestatic 60, 3) := by decide +kernel
theorem d_LA_law_131 : decode code 131 = .ok (.istore 5, 2) := by decide +kernel
theorem d_LA_law_133 : decode code 133 = .ok (.aload_n 2, 1) := by decide +kernel
theorem d_LA_law_134 : decode code 134 = .ok (.aload_n 0, 1) := by decide +kernel
theorem d_LA_law_135 : decode code 135 = .ok (.iload 4, 2) := by decide +kernel
theorem d_LA_law_137 : decode code 137 = .ok (.iconst 1, 1) := by decide +kernel
theorem d_LA_law_138 : decode code 138 = .ok (.iadd, 1) := by decide +kernel
theorem d_LA_law_139 : decode code 139 = .ok (.iaload, 1) := by decide +kernel
theorem d_LA_law_140 : decode code 140 = .ok (.invokevirtual 65, 3) := by decide +kernel
theorem d_LA_law_143 : decode code 143 = .ok (.istore 6, 2) := by decide +kernel
theorem d_LA_law_145 : decode code 145 = .ok (.aload_n 2, 1) := by decide +kernel
theorem d_LA_law_146 : decode code 146 = .ok (.invokevirtual 66, 3) := by decide +kernel
theorem d_LA_law_149 : decode code 149 = .ok (.iload 5, 2) := by decide +kernel
theorem d_LA_law_151 : decode code 151 = .ok (.if_icmp .eq 5, 3) := by decide +kernel
theorem d_LA_law_154 : decode code 154 = .ok (.iconst 0, 1) := by decide +kernel
theorem d_LA_law_155 : decode code 155 = .ok (.ireturn, 1) := by decide +kernel
theorem d_LA_law_156 : decode code 156 = .ok (.iload 5, 2) := by decide +kernel
theorem d_LA_law_158 : decode code 158 = .ok (.ifCond .ne 15, 3) := by decide +kernel
theorem d_LA_law_161 : decode code 161 = .ok (.aload_n 3, 1) := by decide +kernel
theorem d_LA_law_162 : decode code 162 = .ok (.iconst 0, 1) := by decide +kernel
theorem d_LA_law_163 : decode code 163 = .ok (.laload, 1) := by decide +kernel
theorem d_LA_law_164 : decode code 164 = .ok (.iload 6, 2) := by decide +kernel
theorem d_LA_law_166 : decode code 166 = .ok (.i2l, 1) := by decide +kernel
theorem d_LA_law_167 : decode code 167 = .ok (.lcmp, 1) := by decide +kernel
theorem d_LA_law_168 : decode code 168 = .ok (.ifCond .eq 5, 3) := by decide +kernel
theorem d_LA_law_171 : decode code 171 = .ok (.iconst 0, 1) := by decide +kernel
theorem d_LA_law_172 : decode code 172 = .ok (.ireturn, 1) := by decide +kernel
theorem d_LA_law_173 : decode code 173 = .ok (.goto 912, 3) := by decide +kernel
theorem d_LA_law_176 : decode code 176 = .ok (.aload_n 1, 1) := by decide +kernel
theorem d_LA_law_177 : decode code 177 = .ok (.aload_n 0, 1) := by decide +kernel
theorem d_LA_law_178 : decode code 178 = .ok (.iload 4, 2) := by decide +kernel
theorem d_LA_law_180 : decode code 180 = .ok (.iconst 1, 1) := by decide +kernel
theorem d_LA_law_181 : decode code 181 = .ok (.iadd, 1) := by decide +kernel
theorem d_LA_law_182 : decode code 182 = .ok (.iaload, 1) := by decide +kernel
theorem d_LA_law_183 : decode code 183 = .ok (.aload_n 0, 1) := by decide +kernel
theorem d_LA_law_184 : decode code 184 = .ok (.iload 4, 2) := by decide +kernel
theorem d_LA_law_186 : decode code 186 = .ok (.iconst 2, 1) := by decide +kernel
theorem d_LA_law_187 : decode code 187 = .ok (.iadd, 1) := by decide +kernel
theorem d_LA_law_188 : decode code 188 = .ok (.iaload, 1) := by decide +kernel
theorem d_LA_law_189 : decode code 189 = .ok (.aload_n 0, 1) := by decide +kernel
theorem d_LA_law_190 : decode code 190 = .ok (.iload 4, 2) := by decide +kernel
theorem d_LA_law_192 : decode code 192 = .ok (.iconst 3, 1) := by decide +kernel
theorem d_LA_law_193 : decode code 193 = .ok (.iadd, 1) := by decide +kernel
theorem d_LA_law_194 : decode code 194 = .ok (.iaload, 1) := by decide +kernel
theorem d_LA_law_195 : decode code 195 = .ok (.aload_n 0, 1) := by decide +kernel
theorem d_LA_law_196 : decode code 196 = .ok (.iload 4, 2) := by decide +kernel
theorem d_LA_law_198 : decode code 198 = .ok (.iconst 4, 1) := by decide +kernel
theorem d_LA_law_199 : decode code 199 = .ok (.iadd, 1) := by decide +kernel
theorem d_LA_law_200 : decode code 200 = .ok (.iaload, 1) := by decide +kernel
theorem d_LA_law_201 : decode code 201 = .ok (.aload_n 3, 1) := by decide +kernel
theorem d_LA_law_202 : decode code 202 = .ok (.invokestatic 69, 3) := by decide +kernel
theorem d_LA_law_205 : decode code 205 = .ok (.istore 5, 2) := by decide +kernel
theorem d_LA_law_207 : decode code 207 = .ok (.aload_n 2, 1) := by decide +kernel
theorem d_LA_law_208 : decode code 208 = .ok (.aload_n 0, 1) := by decide +kernel
theorem d_LA_law_209 : decode code 209 = .ok (.iload 4, 2) := by decide +kernel
theorem d_LA_law_211 : decode code 211 = .ok (.iconst 1, 1) := by decide +kernel
theorem d_LA_law_212 : decode code 212 = .ok (.iadd, 1) := by decide +kernel
theorem d_LA_law_213 : decode code 213 = .ok (.iaload, 1) := by decide +kernel
theorem d_LA_law_214 : decode code 214 = .ok (.aload_n 0, 1) := by decide +kernel
theorem d_LA_law_215 : decode code 215 = .ok (.iload 4, 2) := by decide +kernel
theorem d_LA_law_217 : decode code 217 = .ok (.iconst 2, 1) := by decide +kernel
theorem d_LA_law_218 : decode code 218 = .ok (.iadd, 1) := by decide +kernel
theorem d_LA_law_219 : decode code 219 = .ok (.iaload, 1) := by decide +kernel
theorem d_LA_law_220 : decode code 220 = .ok (.aload_n 0, 1) := by decide +kernel
theorem d_LA_law_221 : decode code 221 = .ok (.iload 4, 2) := by decide +kernel
theorem d_LA_law_223 : decode code 223 = .ok (.iconst 3, 1) := by decide +kernel
theorem d_LA_law_224 : decode code 224 = .ok (.iadd, 1) := by decide +kernel
theorem d_LA_law_225 : decode code 225 = .ok (.iaload, 1) := by decide +kernel
theorem d_LA_law_226 : decode code 226 = .ok (.aload_n 0, 1) := by decide +kernel
theorem d_LA_law_227 : decode code 227 = .ok (.iload 4, 2) := by decide +kernel
theorem d_LA_law_229 : decode code 229 = .ok (.iconst 4, 1) := by decide +kernel
theorem d_LA_law_230 : decode code 230 = .ok (.iadd, 1) := by decide +kernel
theorem d_LA_law_231 : decode code 231 = .ok (.iaload, 1) := by decide +kernel
theorem d_LA_law_232 : decode code 232 = .ok (.invokevirtual 72, 3) := by decide +kernel
theorem d_LA_law_235 : decode code 235 = .ok (.istore 6, 2) := by decide +kernel
theorem d_LA_law_237 : decode code 237 = .ok (.aload_n 2, 1) := by decide +kernel
theorem d_LA_law_238 : decode code 238 = .ok (.invokevirtual 66, 3) := by decide +kernel
theorem d_LA_law_241 : decode code 241 = .ok (.iload 5, 2) := by decide +kernel
theorem d_LA_law_243 : decode code 243 = .ok (.if_icmp .eq 5, 3) := by decide +kernel
theorem d_LA_law_246 : decode code 246 = .ok (.iconst 0, 1) := by decide +kernel
theorem d_LA_law_247 : decode code 247 = .ok (.ireturn, 1) := by decide +kernel
theorem d_LA_law_248 : decode code 248 = .ok (.iload 5, 2) := by decide +kernel
theorem d_LA_law_250 : decode code 250 = .ok (.ifCond .ne 22, 3) := by decide +kernel
theorem d_LA_law_253 : decode code 253 = .ok (.aload_n 3, 1) := by decide +kernel
theorem d_LA_law_254 : decode code 254 = .ok (.iconst 0, 1) := by decide +kernel
theorem d_LA_law_255 : decode code 255 = .ok (.laload, 1) := by decide +kernel
theorem d_LA_law_256 : decode code 256 = .ok (.iload 6, 2) := by decide +kernel
theorem d_LA_law_258 : decode code 258 = .ok (.ifCond .eq 7, 3) := by decide +kernel
theorem d_LA_law_261 : decode code 261 = .ok (.lconst 1, 1) := by decide +kernel
theorem d_LA_law_262 : decode code 262 = .ok (.goto 4, 3) := by decide +kernel
theorem d_LA_law_265 : decode code 265 = .ok (.lconst 0, 1) := by decide +kernel
theorem d_LA_law_266 : decode code 266 = .ok (.lcmp, 1) := by decide +kernel
theorem d_LA_law_267 : decode code 267 = .ok (.ifCond .eq 5, 3) := by decide +kernel
theorem d_LA_law_270 : decode code 270 = .ok (.iconst 0, 1) := by decide +kernel
theorem d_LA_law_271 : decode code 271 = .ok (.ireturn, 1) := by decide +kernel
theorem d_LA_law_272 : decode code 272 = .ok (.goto 813, 3) := by decide +kernel
theorem d_LA_law_275 : decode code 275 = .ok (.aload_n 1, 1) := by decide +kernel
theorem d_LA_law_276 : decode code 276 = .ok (.aload_n 0, 1) := by decide +kernel
theorem d_LA_law_277 : decode code 277 = .ok (.iload 4, 2) := by decide +kernel
theorem d_LA_law_279 : decode code 279 = .ok (.iconst 1, 1) := by decide +kernel
theorem d_LA_law_280 : decode code 280 = .ok (.iadd, 1) := by decide +kernel
theorem d_LA_law_281 : decode code 281 = .ok (.iaload, 1) := by decide +kernel
theorem d_LA_law_282 : decode code 282 = .ok (.aload_n 0, 1) := by decide +kernel
theorem d_LA_law_283 : decode code 283 = .ok (.iload 4, 2) := by decide +kernel
theorem d_LA_law_285 : decode code 285 = .ok (.iconst 2, 1) := by decide +kernel
theorem d_LA_law_286 : decode code 286 = .ok (.iadd, 1) := by decide +kernel
theorem d_LA_law_287 : decode code 287 = .ok (.iaload, 1) := by decide +kernel
theorem d_LA_law_288 : decode code 288 = .ok (.aload_n 0, 1) := by decide +kernel
theorem d_LA_law_289 : decode code 289 = .ok (.iload 4, 2) := by decide +kernel
theorem d_LA_law_291 : decode code 291 = .ok (.iconst 3, 1) := by decide +kernel
theorem d_LA_law_292 : decode code 292 = .ok (.iadd, 1) := by decide +kernel
theorem d_LA_law_293 : decode code 293 = .ok (.iaload, 1) := by decide +kernel
theorem d_LA_law_294 : decode code 294 = .ok (.aload_n 0, 1) := by decide +kernel
theorem d_LA_law_295 : decode code 295 = .ok (.iload 4, 2) := by decide +kernel
theorem d_LA_law_297 : decode code 297 = .ok (.iconst 4, 1) := by decide +kernel
theorem d_LA_law_298 : decode code 298 = .ok (.iadd, 1) := by decide +kernel
theorem d_LA_law_299 : decode code 299 = .ok (.iaload, 1) := by decide +kernel
theorem d_LA_law_300 : decode code 300 = .ok (.aload_n 3, 1) := by decide +kernel
theorem d_LA_law_301 : decode code 301 = .ok (.invokestatic 73, 3) := by decide +kernel
theorem d_LA_law_304 : decode code 304 = .ok (.istore 5, 2) := by decide +kernel
theorem d_LA_law_306 : decode code 306 = .ok (.aload_n 2, 1) := by decide +kernel
theorem d_LA_law_307 : decode code 307 = .ok (.aload_n 0, 1) := by decide +kernel
theorem d_LA_law_308 : decode code 308 = .ok (.iload 4, 2) := by decide +kernel
theorem d_LA_law_310 : decode code 310 = .ok (.iconst 1, 1) := by decide +kernel
theorem d_LA_law_311 : decode code 311 = .ok (.iadd, 1) := by decide +kernel
theorem d_LA_law_312 : decode code 312 = .ok (.iaload, 1) := by decide +kernel
theorem d_LA_law_313 : decode code 313 = .ok (.aload_n 0, 1) := by decide +kernel
theorem d_LA_law_314 : decode code 314 = .ok (.iload 4, 2) := by decide +kernel
theorem d_LA_law_316 : decode code 316 = .ok (.iconst 2, 1) := by decide +kernel
theorem d_LA_law_317 : decode code 317 = .ok (.iadd, 1) := by decide +kernel
theorem d_LA_law_318 : decode code 318 = .ok (.iaload, 1) := by decide +kernel
theorem d_LA_law_319 : decode code 319 = .ok (.aload_n 0, 1) := by decide +kernel
theorem d_LA_law_320 : decode code 320 = .ok (.iload 4, 2) := by decide +kernel
theorem d_LA_law_322 : decode code 322 = .ok (.iconst 3, 1) := by decide +kernel
theorem d_LA_law_323 : decode code 323 = .ok (.iadd, 1) := by decide +kernel
theorem d_LA_law_324 : decode code 324 = .ok (.iaload, 1) := by decide +kernel
theorem d_LA_law_325 : decode code 325 = .ok (.aload_n 0, 1) := by decide +kernel
theorem d_LA_law_326 : decode code 326 = .ok (.iload 4, 2) := by decide +kernel
theorem d_LA_law_328 : decode code 328 = .ok (.iconst 4, 1) := by decide +kernel
theorem d_LA_law_329 : decode code 329 = .ok (.iadd, 1) := by decide +kernel
theorem d_LA_law_330 : decode code 330 = .ok (.iaload, 1) := by decide +kernel
theorem d_LA_law_331 : decode code 331 = .ok (.invokevirtual 75, 3) := by decide +kernel
theorem d_LA_law_334 : decode code 334 = .ok (.istore 6, 2) := by decide +kernel
theorem d_LA_law_336 : decode code 336 = .ok (.aload_n 2, 1) := by decide +kernel
theorem d_LA_law_337 : decode code 337 = .ok (.invokevirtual 66, 3) := by decide +kernel
theorem d_LA_law_340 : decode code 340 = .ok (.iload 5, 2) := by decide +kernel
theorem d_LA_law_342 : decode code 342 = .ok (.if_icmp .eq 5, 3) := by decide +kernel
theorem d_LA_law_345 : decode code 345 = .ok (.iconst 0, 1) := by decide +kernel
theorem d_LA_law_346 : decode code 346 = .ok (.ireturn, 1) := by decide +kernel
theorem d_LA_law_347 : decode code 347 = .ok (.iload 5, 2) := by decide +kernel
theorem d_LA_law_349 : decode code 349 = .ok (.ifCond .ne 22, 3) := by decide +kernel
theorem d_LA_law_352 : decode code 352 = .ok (.aload_n 3, 1) := by decide +kernel
theorem d_LA_law_353 : decode code 353 = .ok (.iconst 0, 1) := by decide +kernel
theorem d_LA_law_354 : decode code 354 = .ok (.laload, 1) := by decide +kernel
theorem d_LA_law_355 : decode code 355 = .ok (.iload 6, 2) := by decide +kernel
theorem d_LA_law_357 : decode code 357 = .ok (.ifCond .eq 7, 3) := by decide +kernel
theorem d_LA_law_360 : decode code 360 = .ok (.lconst 1, 1) := by decide +kernel
theorem d_LA_law_361 : decode code 361 = .ok (.goto 4, 3) := by decide +kernel
theorem d_LA_law_364 : decode code 364 = .ok (.lconst 0, 1) := by decide +kernel
theorem d_LA_law_365 : decode code 365 = .ok (.lcmp, 1) := by decide +kernel
theorem d_LA_law_366 : decode code 366 = .ok (.ifCond .eq 5, 3) := by decide +kernel
theorem d_LA_law_369 : decode code 369 = .ok (.iconst 0, 1) := by decide +kernel
theorem d_LA_law_370 : decode code 370 = .ok (.ireturn, 1) := by decide +kernel
theorem d_LA_law_371 : decode code 371 = .ok (.goto 714, 3) := by decide +kernel
theorem d_LA_law_374 : decode code 374 = .ok (.aload_n 1, 1) := by decide +kernel
theorem d_LA_law_375 : decode code 375 = .ok (.aload_n 0, 1) := by decide +kernel
theorem d_LA_law_376 : decode code 376 = .ok (.iload 4, 2) := by decide +kernel
theorem d_LA_law_378 : decode code 378 = .ok (.iconst 1, 1) := by decide +kernel
theorem d_LA_law_379 : decode code 379 = .ok (.iadd, 1) := by decide +kernel
theorem d_LA_law_380 : decode code 380 = .ok (.iaload, 1) := by decide +kernel
theorem d_LA_law_381 : decode code 381 = .ok (.aload_n 0, 1) := by decide +kernel
theorem d_LA_law_382 : decode code 382 = .ok (.iload 4, 2) := by decide +kernel
theorem d_LA_law_384 : decode code 384 = .ok (.iconst 2, 1) := by decide +kernel
theorem d_LA_law_385 : decode code 385 = .ok (.iadd, 1) := by decide +kernel
theorem d_LA_law_386 : decode code 386 = .ok (.iaload, 1) := by decide +kernel
theorem d_LA_law_387 : decode code 387 = .ok (.aload_n 0, 1) := by decide +kernel
theorem d_LA_law_388 : decode code 388 = .ok (.iload 4, 2) := by decide +kernel
theorem d_LA_law_390 : decode code 390 = .ok (.iconst 3, 1) := by decide +kernel
theorem d_LA_law_391 : decode code 391 = .ok (.iadd, 1) := by decide +kernel
theorem d_LA_law_392 : decode code 392 = .ok (.iaload, 1) := by decide +kernel
theorem d_LA_law_393 : decode code 393 = .ok (.aload_n 0, 1) := by decide +kernel
theorem d_LA_law_394 : decode code 394 = .ok (.iload 4, 2) := by decide +kernel
theorem d_LA_law_396 : decode code 396 = .ok (.iconst 4, 1) := by decide +kernel
theorem d_LA_law_397 : decode code 397 = .ok (.iadd, 1) := by decide +kernel
theorem d_LA_law_398 : decode code 398 = .ok (.iaload, 1) := by decide +kernel
theorem d_LA_law_399 : decode code 399 = .ok (.invokestatic 76, 3) := by decide +kernel
theorem d_LA_law_402 : decode code 402 = .ok (.istore 5, 2) := by decide +kernel
theorem d_LA_law_404 : decode code 404 = .ok (.aload_n 2, 1) := by decide +kernel
theorem d_LA_law_405 : decode code 405 = .ok (.aload_n 0, 1) := by decide +kernel
theorem d_LA_law_406 : decode code 406 = .ok (.iload 4, 2) := by decide +kernel
theorem d_LA_law_408 : decode code 408 = .ok (.iconst 1, 1) := by decide +kernel
theorem d_LA_law_409 : decode code 409 = .ok (.iadd, 1) := by decide +kernel
theorem d_LA_law_410 : decode code 410 = .ok (.iaload, 1) := by decide +kernel
theorem d_LA_law_411 : decode code 411 = .ok (.aload_n 0, 1) := by decide +kernel
theorem d_LA_law_412 : decode code 412 = .ok (.iload 4, 2) := by decide +kernel
theorem d_LA_law_414 : decode code 414 = .ok (.iconst 2, 1) := by decide +kernel
theorem d_LA_law_415 : decode code 415 = .ok (.iadd, 1) := by decide +kernel
theorem d_LA_law_416 : decode code 416 = .ok (.iaload, 1) := by decide +kernel
theorem d_LA_law_417 : decode code 417 = .ok (.aload_n 0, 1) := by decide +kernel
theorem d_LA_law_418 : decode code 418 = .ok (.iload 4, 2) := by decide +kernel
theorem d_LA_law_420 : decode code 420 = .ok (.iconst 3, 1) := by decide +kernel
theorem d_LA_law_421 : decode code 421 = .ok (.iadd, 1) := by decide +kernel
theorem d_LA_law_422 : decode code 422 = .ok (.iaload, 1) := by decide +kernel
theorem d_LA_law_423 : decode code 423 = .ok (.aload_n 0, 1) := by decide +kernel
theorem d_LA_law_424 : decode code 424 = .ok (.iload 4, 2) := by decide +kernel
theorem d_LA_law_426 : decode code 426 = .ok (.iconst 4, 1) := by decide +kernel
theorem d_LA_law_427 : decode code 427 = .ok (.iadd, 1) := by decide +kernel
theorem d_LA_law_428 : decode code 428 = .ok (.iaload, 1) := by decide +kernel
theorem d_LA_law_429 : decode code 429 = .ok (.invokevirtual 79, 3) := by decide +kernel
theorem d_LA_law_432 : decode code 432 = .ok (.aload_n 2, 1) := by decide +kernel
theorem d_LA_law_433 : decode code 433 = .ok (.invokevirtual 66, 3) := by decide +kernel
theorem d_LA_law_436 : decode code 436 = .ok (.iload 5, 2) := by decide +kernel
theorem d_LA_law_438 : decode code 438 = .ok (.if_icmp .eq 5, 3) := by decide +kernel
theorem d_LA_law_441 : decode code 441 = .ok (.iconst 0, 1) := by decide +kernel
theorem d_LA_law_442 : decode code 442 = .ok (.ireturn, 1) := by decide +kernel
theorem d_LA_law_443 : decode code 443 = .ok (.goto 642, 3) := by decide +kernel
theorem d_LA_law_446 : decode code 446 = .ok (.aload_n 1, 1) := by decide +kernel
theorem d_LA_law_447 : decode code 447 = .ok (.aload_n 0, 1) := by decide +kernel
theorem d_LA_law_448 : decode code 448 = .ok (.iload 4, 2) := by decide +kernel
theorem d_LA_law_450 : decode code 450 = .ok (.iconst 1, 1) := by decide +kernel
theorem d_LA_law_451 : decode code 451 = .ok (.iadd, 1) := by decide +kernel
theorem d_LA_law_452 : decode code 452 = .ok (.iaload, 1) := by decide +kernel
theorem d_LA_law_453 : decode code 453 = .ok (.aload_n 0, 1) := by decide +kernel
theorem d_LA_law_454 : decode code 454 = .ok (.iload 4, 2) := by decide +kernel
theorem d_LA_law_456 : decode code 456 = .ok (.iconst 2, 1) := by decide +kernel
theorem d_LA_law_457 : decode code 457 = .ok (.iadd, 1) := by decide +kernel
theorem d_LA_law_458 : decode code 458 = .ok (.iaload, 1) := by decide +kernel
theorem d_LA_law_459 : decode code 459 = .ok (.aload_n 0, 1) := by decide +kernel
theorem d_LA_law_460 : decode code 460 = .ok (.iload 4, 2) := by decide +kernel
theorem d_LA_law_462 : decode code 462 = .ok (.iconst 3, 1) := by decide +kernel
theorem d_LA_law_463 : decode code 463 = .ok (.iadd, 1) := by decide +kernel
theorem d_LA_law_464 : decode code 464 = .ok (.iaload, 1) := by decide +kernel
theorem d_LA_law_465 : decode code 465 = .ok (.aload_n 0, 1) := by decide +kernel
theorem d_LA_law_466 : decode code 466 = .ok (.iload 4, 2) := by decide +kernel
theorem d_LA_law_468 : decode code 468 = .ok (.iconst 4, 1) := by decide +kernel
theorem d_LA_law_469 : decode code 469 = .ok (.iadd, 1) := by decide +kernel
theorem d_LA_law_470 : decode code 470 = .ok (.iaload, 1) := by decide +kernel
theorem d_LA_law_471 : decode code 471 = .ok (.aload_n 0, 1) := by decide +kernel
theorem d_LA_law_472 : decode code 472 = .ok (.iload 4, 2) := by decide +kernel
theorem d_LA_law_474 : decode code 474 = .ok (.iconst 5, 1) := by decide +kernel
theorem d_LA_law_475 : decode code 475 = .ok (.iadd, 1) := by decide +kernel
theorem d_LA_law_476 : decode code 476 = .ok (.iaload, 1) := by decide +kernel
theorem d_LA_law_477 : decode code 477 = .ok (.aload_n 3, 1) := by decide +kernel
theorem d_LA_law_478 : decode code 478 = .ok (.invokestatic 80, 3) := by decide +kernel
theorem d_LA_law_481 : decode code 481 = .ok (.istore 5, 2) := by decide +kernel
theorem d_LA_law_483 : decode code 483 = .ok (.aload_n 2, 1) := by decide +kernel
theorem d_LA_law_484 : decode code 484 = .ok (.aload_n 0, 1) := by decide +kernel
theorem d_LA_law_485 : decode code 485 = .ok (.iload 4, 2) := by decide +kernel
theorem d_LA_law_487 : decode code 487 = .ok (.iconst 1, 1) := by decide +kernel
theorem d_LA_law_488 : decode code 488 = .ok (.iadd, 1) := by decide +kernel
theorem d_LA_law_489 : decode code 489 = .ok (.iaload, 1) := by decide +kernel
theorem d_LA_law_490 : decode code 490 = .ok (.aload_n 0, 1) := by decide +kernel
theorem d_LA_law_491 : decode code 491 = .ok (.iload 4, 2) := by decide +kernel
theorem d_LA_law_493 : decode code 493 = .ok (.iconst 2, 1) := by decide +kernel
theorem d_LA_law_494 : decode code 494 = .ok (.iadd, 1) := by decide +kernel
theorem d_LA_law_495 : decode code 495 = .ok (.iaload, 1) := by decide +kernel
theorem d_LA_law_496 : decode code 496 = .ok (.aload_n 0, 1) := by decide +kernel
theorem d_LA_law_497 : decode code 497 = .ok (.iload 4, 2) := by decide +kernel
theorem d_LA_law_499 : decode code 499 = .ok (.iconst 3, 1) := by decide +kernel
theorem d_LA_law_500 : decode code 500 = .ok (.iadd, 1) := by decide +kernel
theorem d_LA_law_501 : decode code 501 = .ok (.iaload, 1) := by decide +kernel
theorem d_LA_law_502 : decode code 502 = .ok (.aload_n 0, 1) := by decide +kernel
theorem d_LA_law_503 : decode code 503 = .ok (.iload 4, 2) := by decide +kernel
theorem d_LA_law_505 : decode code 505 = .ok (.iconst 4, 1) := by decide +kernel
theorem d_LA_law_506 : decode code 506 = .ok (.iadd, 1) := by decide +kernel
theorem d_LA_law_507 : decode code 507 = .ok (.iaload, 1) := by decide +kernel
theorem d_LA_law_508 : decode code 508 = .ok (.aload_n 0, 1) := by decide +kernel
theorem d_LA_law_509 : decode code 509 = .ok (.iload 4, 2) := by decide +kernel
theorem d_LA_law_511 : decode code 511 = .ok (.iconst 5, 1) := by decide +kernel
theorem d_LA_law_512 : decode code 512 = .ok (.iadd, 1) := by decide +kernel
theorem d_LA_law_513 : decode code 513 = .ok (.iaload, 1) := by decide +kernel
theorem d_LA_law_514 : decode code 514 = .ok (.invokevirtual 83, 3) := by decide +kernel
theorem d_LA_law_517 : decode code 517 = .ok (.istore 6, 2) := by decide +kernel
theorem d_LA_law_519 : decode code 519 = .ok (.aload_n 2, 1) := by decide +kernel
theorem d_LA_law_520 : decode code 520 = .ok (.invokevirtual 66, 3) := by decide +kernel
theorem d_LA_law_523 : decode code 523 = .ok (.iload 5, 2) := by decide +kernel
theorem d_LA_law_525 : decode code 525 = .ok (.if_icmp .eq 5, 3) := by decide +kernel
theorem d_LA_law_528 : decode code 528 = .ok (.iconst 0, 1) := by decide +kernel
theorem d_LA_law_529 : decode code 529 = .ok (.ireturn, 1) := by decide +kernel
theorem d_LA_law_530 : decode code 530 = .ok (.iload 5, 2) := by decide +kernel
theorem d_LA_law_532 : decode code 532 = .ok (.ifCond .ne 15, 3) := by decide +kernel
theorem d_LA_law_535 : decode code 535 = .ok (.aload_n 3, 1) := by decide +kernel
theorem d_LA_law_536 : decode code 536 = .ok (.iconst 0, 1) := by decide +kernel
theorem d_LA_law_537 : decode code 537 = .ok (.laload, 1) := by decide +kernel
theorem d_LA_law_538 : decode code 538 = .ok (.iload 6, 2) := by decide +kernel
theorem d_LA_law_540 : decode code 540 = .ok (.i2l, 1) := by decide +kernel
theorem d_LA_law_541 : decode code 541 = .ok (.lcmp, 1) := by decide +kernel
theorem d_LA_law_542 : decode code 542 = .ok (.ifCond .eq 5, 3) := by decide +kernel
theorem d_LA_law_545 : decode code 545 = .ok (.iconst 0, 1) := by decide +kernel
theorem d_LA_law_546 : decode code 546 = .ok (.ireturn, 1) := by decide +kernel
theorem d_LA_law_547 : decode code 547 = .ok (.goto 538, 3) := by decide +kernel
theorem d_LA_law_550 : decode code 550 = .ok (.aload_n 1, 1) := by decide +kernel
theorem d_LA_law_551 : decode code 551 = .ok (.aload_n 3, 1) := by decide +kernel
theorem d_LA_law_552 : decode code 552 = .ok (.invokestatic 84, 3) := by decide +kernel
theorem d_LA_law_555 : decode code 555 = .ok (.istore 5, 2) := by decide +kernel
theorem d_LA_law_557 : decode code 557 = .ok (.aload_n 2, 1) := by decide +kernel
theorem d_LA_law_558 : decode code 558 = .ok (.invokevirtual 87, 3) := by decide +kernel
theorem d_LA_law_561 : decode code 561 = .ok (.istore 6, 2) := by decide +kernel
theorem d_LA_law_563 : decode code 563 = .ok (.aload_n 2, 1) := by decide +kernel
theorem d_LA_law_564 : decode code 564 = .ok (.invokevirtual 66, 3) := by decide +kernel
theorem d_LA_law_567 : decode code 567 = .ok (.iload 5, 2) := by decide +kernel
theorem d_LA_law_569 : decode code 569 = .ok (.if_icmp .eq 5, 3) := by decide +kernel
theorem d_LA_law_572 : decode code 572 = .ok (.iconst 0, 1) := by decide +kernel
theorem d_LA_law_573 : decode code 573 = .ok (.ireturn, 1) := by decide +kernel
theorem d_LA_law_574 : decode code 574 = .ok (.iload 5, 2) := by decide +kernel
theorem d_LA_law_576 : decode code 576 = .ok (.ifCond .ne 15, 3) := by decide +kernel
theorem d_LA_law_579 : decode code 579 = .ok (.aload_n 3, 1) := by decide +kernel
theorem d_LA_law_580 : decode code 580 = .ok (.iconst 0, 1) := by decide +kernel
theorem d_LA_law_581 : decode code 581 = .ok (.laload, 1) := by decide +kernel
theorem d_LA_law_582 : decode code 582 = .ok (.iload 6, 2) := by decide +kernel
theorem d_LA_law_584 : decode code 584 = .ok (.i2l, 1) := by decide +kernel
theorem d_LA_law_585 : decode code 585 = .ok (.lcmp, 1) := by decide +kernel
theorem d_LA_law_586 : decode code 586 = .ok (.ifCond .eq 5, 3) := by decide +kernel
theorem d_LA_law_589 : decode code 589 = .ok (.iconst 0, 1) := by decide +kernel
theorem d_LA_law_590 : decode code 590 = .ok (.ireturn, 1) := by decide +kernel
theorem d_LA_law_591 : decode code 591 = .ok (.goto 494, 3) := by decide +kernel
theorem d_LA_law_594 : decode code 594 = .ok (.aload_n 1, 1) := by decide +kernel
theorem d_LA_law_595 : decode code 595 = .ok (.invokevirtual 88, 3) := by decide +kernel
theorem d_LA_law_598 : decode code 598 = .ok (.aload_n 2, 1) := by decide +kernel
theorem d_LA_law_599 : decode code 599 = .ok (.invokevirtual 91, 3) := by decide +kernel
theorem d_LA_law_602 : decode code 602 = .ok (.if_icmp .eq 483, 3) := by decide +kernel
theorem d_LA_law_605 : decode code 605 = .ok (.iconst 0, 1) := by decide +kernel
theorem d_LA_law_606 : decode code 606 = .ok (.ireturn, 1) := by decide +kernel
theorem d_LA_law_607 : decode code 607 = .ok (.aload_n 1, 1) := by decide +kernel
theorem d_LA_law_608 : decode code 608 = .ok (.aload_n 0, 1) := by decide +kernel
theorem d_LA_law_609 : decode code 609 = .ok (.iload 4, 2) := by decide +kernel
theorem d_LA_law_611 : decode code 611 = .ok (.iconst 1, 1) := by decide +kernel
theorem d_LA_law_612 : decode code 612 = .ok (.iadd, 1) := by decide +kernel
theorem d_LA_law_613 : decode code 613 = .ok (.iaload, 1) := by decide +kernel
theorem d_LA_law_614 : decode code 614 = .ok (.aload_n 3, 1) := by decide +kernel
theorem d_LA_law_615 : decode code 615 = .ok (.invokestatic 92, 3) := by decide +kernel
theorem d_LA_law_618 : decode code 618 = .ok (.istore 5, 2) := by decide +kernel
theorem d_LA_law_620 : decode code 620 = .ok (.aload_n 2, 1) := by decide +kernel
theorem d_LA_law_621 : decode code 621 = .ok (.aload_n 0, 1) := by decide +kernel
theorem d_LA_law_622 : decode code 622 = .ok (.iload 4, 2) := by decide +kernel
theorem d_LA_law_624 : decode code 624 = .ok (.iconst 1, 1) := by decide +kernel
theorem d_LA_law_625 : decode code 625 = .ok (.iadd, 1) := by decide +kernel
theorem d_LA_law_626 : decode code 626 = .ok (.iaload, 1) := by decide +kernel
theorem d_LA_law_627 : decode code 627 = .ok (.invokevirtual 94, 3) := by decide +kernel
theorem d_LA_law_630 : decode code 630 = .ok (.istore 6, 2) := by decide +kernel
theorem d_LA_law_632 : decode code 632 = .ok (.aload_n 2, 1) := by decide +kernel
theorem d_LA_law_633 : decode code 633 = .ok (.invokevirtual 66, 3) := by decide +kernel
theorem d_LA_law_636 : decode code 636 = .ok (.iload 5, 2) := by decide +kernel
theorem d_LA_law_638 : decode code 638 = .ok (.if_icmp .eq 5, 3) := by decide +kernel
theorem d_LA_law_641 : decode code 641 = .ok (.iconst 0, 1) := by decide +kernel
theorem d_LA_law_642 : decode code 642 = .ok (.ireturn, 1) := by decide +kernel
theorem d_LA_law_643 : decode code 643 = .ok (.iload 5, 2) := by decide +kernel
theorem d_LA_law_645 : decode code 645 = .ok (.ifCond .ne 15, 3) := by decide +kernel
theorem d_LA_law_648 : decode code 648 = .ok (.aload_n 3, 1) := by decide +kernel
theorem d_LA_law_649 : decode code 649 = .ok (.iconst 0, 1) := by decide +kernel
theorem d_LA_law_650 : decode code 650 = .ok (.laload, 1) := by decide +kernel
theorem d_LA_law_651 : decode code 651 = .ok (.iload 6, 2) := by decide +kernel
theorem d_LA_law_653 : decode code 653 = .ok (.i2l, 1) := by decide +kernel
theorem d_LA_law_654 : decode code 654 = .ok (.lcmp, 1) := by decide +kernel
theorem d_LA_law_655 : decode code 655 = .ok (.ifCond .eq 5, 3) := by decide +kernel
theorem d_LA_law_658 : decode code 658 = .ok (.iconst 0, 1) := by decide +kernel
theorem d_LA_law_659 : decode code 659 = .ok (.ireturn, 1) := by decide +kernel
theorem d_LA_law_660 : decode code 660 = .ok (.goto 425, 3) := by decide +kernel
theorem d_LA_law_663 : decode code 663 = .ok (.aload_n 1, 1) := by decide +kernel
theorem d_LA_law_664 : decode code 664 = .ok (.invokevirtual 95, 3) := by decide +kernel
theorem d_LA_law_667 : decode code 667 = .ok (.aload_n 2, 1) := by decide +kernel
theorem d_LA_law_668 : decode code 668 = .ok (.invokevirtual 98, 3) := by decide +kernel
theorem d_LA_law_671 : decode code 671 = .ok (.if_icmp .eq 414, 3) := by decide +kernel
theorem d_LA_law_674 : decode code 674 = .ok (.iconst 0, 1) := by decide +kernel
theorem d_LA_law_675 : decode code 675 = .ok (.ireturn, 1) := by decide +kernel
theorem d_LA_law_676 : decode code 676 = .ok (.aload_n 1, 1) := by decide +kernel
theorem d_LA_law_677 : decode code 677 = .ok (.invokevirtual 99, 3) := by decide +kernel
theorem d_LA_law_680 : decode code 680 = .ok (.aload_n 2, 1) := by decide +kernel
theorem d_LA_law_681 : decode code 681 = .ok (.invokevirtual 102, 3) := by decide +kernel
theorem d_LA_law_684 : decode code 684 = .ok (.if_icmp .eq 401, 3) := by decide +kernel
theorem d_LA_law_687 : decode code 687 = .ok (.iconst 0, 1) := by decide +kernel
theorem d_LA_law_688 : decode code 688 = .ok (.ireturn, 1) := by decide +kernel
theorem d_LA_law_689 : decode code 689 = .ok (.aload_n 1, 1) := by decide +kernel
theorem d_LA_law_690 : decode code 690 = .ok (.invokevirtual 103, 3) := by decide +kernel
theorem d_LA_law_693 : decode code 693 = .ok (.aload_n 2, 1) := by decide +kernel
theorem d_LA_law_694 : decode code 694 = .ok (.invokevirtual 106, 3) := by decide +kernel
theorem d_LA_law_697 : decode code 697 = .ok (.if_icmp .eq 388, 3) := by decide +kernel
theorem d_LA_law_700 : decode code 700 = .ok (.iconst 0, 1) := by decide +kernel
theorem d_LA_law_701 : decode code 701 = .ok (.ireturn, 1) := by decide +kernel
theorem d_LA_law_702 : decode code 702 = .ok (.aload_n 1, 1) := by decide +kernel
theorem d_LA_law_703 : decode code 703 = .ok (.aload_n 0, 1) := by decide +kernel
theorem d_LA_law_704 : decode code 704 = .ok (.iload 4, 2) := by decide +kernel
theorem d_LA_law_706 : decode code 706 = .ok (.iconst 1, 1) := by decide +kernel
theorem d_LA_law_707 : decode code 707 = .ok (.iadd, 1) := by decide +kernel
theorem d_LA_law_708 : decode code 708 = .ok (.iaload, 1) := by decide +kernel
theorem d_LA_law_709 : decode code 709 = .ok (.aload_n 3, 1) := by decide +kernel
theorem d_LA_law_710 : decode code 710 = .ok (.invokestatic 107, 3) := by decide +kernel
theorem d_LA_law_713 : decode code 713 = .ok (.istore 5, 2) := by decide +kernel
theorem d_LA_law_715 : decode code 715 = .ok (.aload_n 2, 1) := by decide +kernel
theorem d_LA_law_716 : decode code 716 = .ok (.aload_n 0, 1) := by decide +kernel
theorem d_LA_law_717 : decode code 717 = .ok (.iload 4, 2) := by decide +kernel
theorem d_LA_law_719 : decode code 719 = .ok (.iconst 1, 1) := by decide +kernel
theorem d_LA_law_720 : decode code 720 = .ok (.iadd, 1) := by decide +kernel
theorem d_LA_law_721 : decode code 721 = .ok (.iaload, 1) := by decide +kernel
theorem d_LA_law_722 : decode code 722 = .ok (.invokevirtual 109, 3) := by decide +kernel
theorem d_LA_law_725 : decode code 725 = .ok (.istore 6, 2) := by decide +kernel
theorem d_LA_law_727 : decode code 727 = .ok (.aload_n 2, 1) := by decide +kernel
theorem d_LA_law_728 : decode code 728 = .ok (.invokevirtual 66, 3) := by decide +kernel
theorem d_LA_law_731 : decode code 731 = .ok (.iload 5, 2) := by decide +kernel
theorem d_LA_law_733 : decode code 733 = .ok (.if_icmp .eq 5, 3) := by decide +kernel
theorem d_LA_law_736 : decode code 736 = .ok (.iconst 0, 1) := by decide +kernel
theorem d_LA_law_737 : decode code 737 = .ok (.ireturn, 1) := by decide +kernel
theorem d_LA_law_738 : decode code 738 = .ok (.iload 5, 2) := by decide +kernel
theorem d_LA_law_740 : decode code 740 = .ok (.ifCond .ne 15, 3) := by decide +kernel
theorem d_LA_law_743 : decode code 743 = .ok (.aload_n 3, 1) := by decide +kernel
theorem d_LA_law_744 : decode code 744 = .ok (.iconst 0, 1) := by decide +kernel
theorem d_LA_law_745 : decode code 745 = .ok (.laload, 1) := by decide +kernel
theorem d_LA_law_746 : decode code 746 = .ok (.iload 6, 2) := by decide +kernel
theorem d_LA_law_748 : decode code 748 = .ok (.i2l, 1) := by decide +kernel
theorem d_LA_law_749 : decode code 749 = .ok (.lcmp, 1) := by decide +kernel
theorem d_LA_law_750 : decode code 750 = .ok (.ifCond .eq 5, 3) := by decide +kernel
theorem d_LA_law_753 : decode code 753 = .ok (.iconst 0, 1) := by decide +kernel
theorem d_LA_law_754 : decode code 754 = .ok (.ireturn, 1) := by decide +kernel
theorem d_LA_law_755 : decode code 755 = .ok (.goto 330, 3) := by decide +kernel
theorem d_LA_law_758 : decode code 758 = .ok (.aload_n 1, 1) := by decide +kernel
theorem d_LA_law_759 : decode code 759 = .ok (.aload_n 0, 1) := by decide +kernel
theorem d_LA_law_760 : decode code 760 = .ok (.iload 4, 2) := by decide +kernel
theorem d_LA_law_762 : decode code 762 = .ok (.iconst 1, 1) := by decide +kernel
theorem d_LA_law_763 : decode code 763 = .ok (.iadd, 1) := by decide +kernel
theorem d_LA_law_764 : decode code 764 = .ok (.iaload, 1) := by decide +kernel
theorem d_LA_law_765 : decode code 765 = .ok (.aload_n 0, 1) := by decide +kernel
theorem d_LA_law_766 : decode code 766 = .ok (.iload 4, 2) := by decide +kernel
theorem d_LA_law_768 : decode code 768 = .ok (.iconst 2, 1) := by decide +kernel
theorem d_LA_law_769 : decode code 769 = .ok (.iadd, 1) := by decide +kernel
theorem d_LA_law_770 : decode code 770 = .ok (.iaload, 1) := by decide +kernel
theorem d_LA_law_771 : decode code 771 = .ok (.aload_n 0, 1) := by decide +kernel
theorem d_LA_law_772 : decode code 772 = .ok (.iload 4, 2) := by decide +kernel
theorem d_LA_law_774 : decode code 774 = .ok (.iconst 3, 1) := by decide +kernel
theorem d_LA_law_775 : decode code 775 = .ok (.iadd, 1) := by decide +kernel
theorem d_LA_law_776 : decode code 776 = .ok (.iaload, 1) := by decide +kernel
theorem d_LA_law_777 : decode code 777 = .ok (.aload_n 0, 1) := by decide +kernel
theorem d_LA_law_778 : decode code 778 = .ok (.iload 4, 2) := by decide +kernel
theorem d_LA_law_780 : decode code 780 = .ok (.iconst 4, 1) := by decide +kernel
theorem d_LA_law_781 : decode code 781 = .ok (.iadd, 1) := by decide +kernel
theorem d_LA_law_782 : decode code 782 = .ok (.iaload, 1) := by decide +kernel
theorem d_LA_law_783 : decode code 783 = .ok (.aload_n 3, 1) := by decide +kernel
theorem d_LA_law_784 : decode code 784 = .ok (.invokestatic 110, 3) := by decide +kernel
theorem d_LA_law_787 : decode code 787 = .ok (.istore 5, 2) := by decide +kernel
theorem d_LA_law_789 : decode code 789 = .ok (.aload_n 2, 1) := by decide +kernel
theorem d_LA_law_790 : decode code 790 = .ok (.aload_n 0, 1) := by decide +kernel
theorem d_LA_law_791 : decode code 791 = .ok (.iload 4, 2) := by decide +kernel
theorem d_LA_law_793 : decode code 793 = .ok (.iconst 1, 1) := by decide +kernel
theorem d_LA_law_794 : decode code 794 = .ok (.iadd, 1) := by decide +kernel
theorem d_LA_law_795 : decode code 795 = .ok (.iaload, 1) := by decide +kernel
theorem d_LA_law_796 : decode code 796 = .ok (.aload_n 0, 1) := by decide +kernel
theorem d_LA_law_797 : decode code 797 = .ok (.iload 4, 2) := by decide +kernel
theorem d_LA_law_799 : decode code 799 = .ok (.iconst 2, 1) := by decide +kernel
theorem d_LA_law_800 : decode code 800 = .ok (.iadd, 1) := by decide +kernel
theorem d_LA_law_801 : decode code 801 = .ok (.iaload, 1) := by decide +kernel
theorem d_LA_law_802 : decode code 802 = .ok (.aload_n 0, 1) := by decide +kernel
theorem d_LA_law_803 : decode code 803 = .ok (.iload 4, 2) := by decide +kernel
theorem d_LA_law_805 : decode code 805 = .ok (.iconst 3, 1) := by decide +kernel
theorem d_LA_law_806 : decode code 806 = .ok (.iadd, 1) := by decide +kernel
theorem d_LA_law_807 : decode code 807 = .ok (.iaload, 1) := by decide +kernel
theorem d_LA_law_808 : decode code 808 = .ok (.aload_n 0, 1) := by decide +kernel
theorem d_LA_law_809 : decode code 809 = .ok (.iload 4, 2) := by decide +kernel
theorem d_LA_law_811 : decode code 811 = .ok (.iconst 4, 1) := by decide +kernel
theorem d_LA_law_812 : decode code 812 = .ok (.iadd, 1) := by decide +kernel
theorem d_LA_law_813 : decode code 813 = .ok (.iaload, 1) := by decide +kernel
theorem d_LA_law_814 : decode code 814 = .ok (.invokevirtual 112, 3) := by decide +kernel
theorem d_LA_law_817 : decode code 817 = .ok (.istore 6, 2) := by decide +kernel
theorem d_LA_law_819 : decode code 819 = .ok (.aload_n 2, 1) := by decide +kernel
theorem d_LA_law_820 : decode code 820 = .ok (.invokevirtual 66, 3) := by decide +kernel
theorem d_LA_law_823 : decode code 823 = .ok (.iload 5, 2) := by decide +kernel
theorem d_LA_law_825 : decode code 825 = .ok (.if_icmp .eq 5, 3) := by decide +kernel
theorem d_LA_law_828 : decode code 828 = .ok (.iconst 0, 1) := by decide +kernel
theorem d_LA_law_829 : decode code 829 = .ok (.ireturn, 1) := by decide +kernel
theorem d_LA_law_830 : decode code 830 = .ok (.iload 5, 2) := by decide +kernel
theorem d_LA_law_832 : decode code 832 = .ok (.ifCond .ne 22, 3) := by decide +kernel
theorem d_LA_law_835 : decode code 835 = .ok (.aload_n 3, 1) := by decide +kernel
theorem d_LA_law_836 : decode code 836 = .ok (.iconst 0, 1) := by decide +kernel
theorem d_LA_law_837 : decode code 837 = .ok (.laload, 1) := by decide +kernel
theorem d_LA_law_838 : decode code 838 = .ok (.iload 6, 2) := by decide +kernel
theorem d_LA_law_840 : decode code 840 = .ok (.ifCond .eq 7, 3) := by decide +kernel
theorem d_LA_law_843 : decode code 843 = .ok (.lconst 1, 1) := by decide +kernel
