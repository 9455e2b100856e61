theorem dLaw_pair_0 : decode bLaw_pair 0 = .ok (.aload_n 3, 1) := by decide +kernel
theorem dLaw_pair_1 : decode bLaw_pair 1 = .ok (.iconst 0, 1) := by decide +kernel
theorem dLaw_pair_2 : decode bLaw_pair 2 = .ok (.aload_n 0, 1) := by decide +kernel
theorem dLaw_pair_3 : decode bLaw_pair 3 = .ok (.iload_n 1, 1) := by decide +kernel
theorem dLaw_pair_4 : decode bLaw_pair 4 = .ok (.iload_n 2, 1) := by decide +kernel
theorem dLaw_pair_5 : decode bLaw_pair 5 = .ok (.invokevirtual 7, 3) := by decide +kernel
theorem dLaw_pair_8 : decode bLaw_pair 8 = .ok (.i2l, 1) := by decide +kernel
theorem dLaw_pair_9 : decode bLaw_pair 9 = .ok (.lastore, 1) := by decide +kernel
theorem dLaw_pair_10 : decode bLaw_pair 10 = .ok (.goto 11, 3) := by decide +kernel
theorem dLaw_pair_13 : decode bLaw_pair 13 = .ok (.astore 4, 2) := by decide +kernel
theorem dLaw_pair_15 : decode bLaw_pair 15 = .ok (.iconst 1, 1) := by decide +kernel
theorem dLaw_pair_16 : decode bLaw_pair 16 = .ok (.ireturn, 1) := by decide +kernel
theorem dLaw_pair_17 : decode bLaw_pair 17 = .ok (.astore 4, 2) := by decide +kernel
theorem dLaw_pair_19 : decode bLaw_pair 19 = .ok (.iconst 2, 1) := by decide +kernel
theorem dLaw_pair_20 : decode bLaw_pair 20 = .ok (.ireturn, 1) := by decide +kernel
theorem dLaw_pair_21 : decode bLaw_pair 21 = .ok (.iconst 0, 1) := by decide +kernel
theorem dLaw_pair_22 : decode bLaw_pair 22 = .ok (.ireturn, 1) := by decide +kernel
theorem dLaw_rule_0 : decode bLaw_rule 0 = .ok (.aload_n 3, 1) := by decide +kernel
theorem dLaw_rule_1 : decode bLaw_rule 1 = .ok (.iconst 0, 1) := by decide +kernel
theorem dLaw_rule_2 : decode bLaw_rule 2 = .ok (.aload_n 0, 1) := by decide +kernel
theorem dLaw_rule_3 : decode bLaw_rule 3 = .ok (.iload_n 1, 1) := by decide +kernel
theorem dLaw_rule_4 : decode bLaw_rule 4 = .ok (.iload_n 2, 1) := by decide +kernel
theorem dLaw_rule_5 : decode bLaw_rule 5 = .ok (.invokevirtual 17, 3) := by decide +kernel
theorem dLaw_rule_8 : decode bLaw_rule 8 = .ok (.i2l, 1) := by decide +kernel
theorem dLaw_rule_9 : decode bLaw_rule 9 = .ok (.lastore, 1) := by decide +kernel
theorem dLaw_rule_10 : decode bLaw_rule 10 = .ok (.goto 11, 3) := by decide +kernel
theorem dLaw_rule_13 : decode bLaw_rule 13 = .ok (.astore 4, 2) := by decide +kernel
theorem dLaw_rule_15 : decode bLaw_rule 15 = .ok (.iconst 1, 1) := by decide +kernel
theorem dLaw_rule_16 : decode bLaw_rule 16 = .ok (.ireturn, 1) := by decide +kernel
theorem dLaw_rule_17 : decode bLaw_rule 17 = .ok (.astore 4, 2) := by decide +kernel
theorem dLaw_rule_19 : decode bLaw_rule 19 = .ok (.iconst 2, 1) := by decide +kernel
theorem dLaw_rule_20 : decode bLaw_rule 20 = .ok (.ireturn, 1) := by decide +kernel
theorem dLaw_rule_21 : decode bLaw_rule 21 = .ok (.iconst 0, 1) := by decide +kernel
theorem dLaw_rule_22 : decode bLaw_rule 22 = .ok (.ireturn, 1) := by decide +kernel
theorem dLaw_context_0 : decode bLaw_context 0 = .ok (.aload 4, 2) := by decide +kernel
theorem dLaw_context_2 : decode bLaw_context 2 = .ok (.iconst 0, 1) := by decide +kernel
theorem dLaw_context_3 : decode bLaw_context 3 = .ok (.aload_n 0, 1) := by decide +kernel
theorem dLaw_context_4 : decode bLaw_context 4 = .ok (.iload_n 1, 1) := by decide +kernel
theorem dLaw_context_5 : decode bLaw_context 5 = .ok (.iload_n 2, 1) := by decide +kernel
theorem dLaw_context_6 : decode bLaw_context 6 = .ok (.iload_n 3, 1) := by decide +kernel
theorem dLaw_context_7 : decode bLaw_context 7 = .ok (.invokevirtual 20, 3) := by decide +kernel
theorem dLaw_context_10 : decode bLaw_context 10 = .ok (.i2l, 1) := by decide +kernel
theorem dLaw_context_11 : decode bLaw_context 11 = .ok (.lastore, 1) := by decide +kernel
theorem dLaw_context_12 : decode bLaw_context 12 = .ok (.goto 11, 3) := by decide +kernel
theorem dLaw_context_15 : decode bLaw_context 15 = .ok (.astore 5, 2) := by decide +kernel
theorem dLaw_context_17 : decode bLaw_context 17 = .ok (.iconst 1, 1) := by decide +kernel
theorem dLaw_context_18 : decode bLaw_context 18 = .ok (.ireturn, 1) := by decide +kernel
theorem dLaw_context_19 : decode bLaw_context 19 = .ok (.astore 5, 2) := by decide +kernel
theorem dLaw_context_21 : decode bLaw_context 21 = .ok (.iconst 2, 1) := by decide +kernel
theorem dLaw_context_22 : decode bLaw_context 22 = .ok (.ireturn, 1) := by decide +kernel
theorem dLaw_context_23 : decode bLaw_context 23 = .ok (.iconst 0, 1) := by decide +kernel
theorem dLaw_context_24 : decode bLaw_context 24 = .ok (.ireturn, 1) := by decide +kernel
theorem dLaw_element_0 : decode bLaw_element 0 = .ok (.aload 5, 2) := by decide +kernel
theorem dLaw_element_2 : decode bLaw_element 2 = .ok (.iconst 0, 1) := by decide +kernel
theorem dLaw_element_3 : decode bLaw_element 3 = .ok (.aload_n 0, 1) := by decide +kernel
theorem dLaw_element_4 : decode bLaw_element 4 = .ok (.iload_n 1, 1) := by decide +kernel
theorem dLaw_element_5 : decode bLaw_element 5 = .ok (.iload_n 2, 1) := by decide +kernel
theorem dLaw_element_6 : decode bLaw_element 6 = .ok (.iload_n 3, 1) := by decide +kernel
theorem dLaw_element_7 : decode bLaw_element 7 = .ok (.iload 4, 2) := by decide +kernel
theorem dLaw_element_9 : decode bLaw_element 9 = .ok (.invokevirtual 24, 3) := by decide +kernel
theorem dLaw_element_12 : decode bLaw_element 12 = .ok (.i2l, 1) := by decide +kernel
theorem dLaw_element_13 : decode bLaw_element 13 = .ok (.lastore, 1) := by decide +kernel
theorem dLaw_element_14 : decode bLaw_element 14 = .ok (.goto 11, 3) := by decide +kernel
theorem dLaw_element_17 : decode bLaw_element 17 = .ok (.astore 6, 2) := by decide +kernel
theorem dLaw_element_19 : decode bLaw_element 19 = .ok (.iconst 1, 1) := by decide +kernel
theorem dLaw_element_20 : decode bLaw_element 20 = .ok (.ireturn, 1) := by decide +kernel
theorem dLaw_element_21 : decode bLaw_element 21 = .ok (.astore 6, 2) := by decide +kernel
theorem dLaw_element_23 : decode bLaw_element 23 = .ok (.iconst 2, 1) := by decide +kernel
theorem dLaw_element_24 : decode bLaw_element 24 = .ok (.ireturn, 1) := by decide +kernel
theorem dLaw_element_25 : decode bLaw_element 25 = .ok (.iconst 0, 1) := by decide +kernel
theorem dLaw_element_26 : decode bLaw_element 26 = .ok (.ireturn, 1) := by decide +kernel
theorem dLaw_entry_0 : decode bLaw_entry 0 = .ok (.aload_n 3, 1) := by decide +kernel
theorem dLaw_entry_1 : decode bLaw_entry 1 = .ok (.iconst 0, 1) := by decide +kernel
theorem dLaw_entry_2 : decode bLaw_entry 2 = .ok (.aload_n 0, 1) := by decide +kernel
theorem dLaw_entry_3 : decode bLaw_entry 3 = .ok (.iload_n 1, 1) := by decide +kernel
theorem dLaw_entry_4 : decode bLaw_entry 4 = .ok (.iload_n 2, 1) := by decide +kernel
theorem dLaw_entry_5 : decode bLaw_entry 5 = .ok (.invokevirtual 28, 3) := by decide +kernel
theorem dLaw_entry_8 : decode bLaw_entry 8 = .ok (.i2l, 1) := by decide +kernel
theorem dLaw_entry_9 : decode bLaw_entry 9 = .ok (.lastore, 1) := by decide +kernel
theorem dLaw_entry_10 : decode bLaw_entry 10 = .ok (.goto 11, 3) := by decide +kernel
theorem dLaw_entry_13 : decode bLaw_entry 13 = .ok (.astore 4, 2) := by decide +kernel
theorem dLaw_entry_15 : decode bLaw_entry 15 = .ok (.iconst 1, 1) := by decide +kernel
theorem dLaw_entry_16 : decode bLaw_entry 16 = .ok (.ireturn, 1) := by decide +kernel
theorem dLaw_entry_17 : decode bLaw_entry 17 = .ok (.astore 4, 2) := by decide +kernel
theorem dLaw_entry_19 : decode bLaw_entry 19 = .ok (.iconst 2, 1) := by decide +kernel
theorem dLaw_entry_20 : decode bLaw_entry 20 = .ok (.ireturn, 1) := by decide +kernel
theorem dLaw_entry_21 : decode bLaw_entry 21 = .ok (.iconst 0, 1) := by decide +kernel
theorem dLaw_entry_22 : decode bLaw_entry 22 = .ok (.ireturn, 1) := by decide +kernel
theorem dLaw_spell_0 : decode bLaw_spell 0 = .ok (.aload_n 3, 1) := by decide +kernel
theorem dLaw_spell_1 : decode bLaw_spell 1 = .ok (.iconst 0, 1) := by decide +kernel
theorem dLaw_spell_2 : decode bLaw_spell 2 = .ok (.aload_n 0, 1) := by decide +kernel
theorem dLaw_spell_3 : decode bLaw_spell 3 = .ok (.iload_n 1, 1) := by decide +kernel
theorem dLaw_spell_4 : decode bLaw_spell 4 = .ok (.iload_n 2, 1) := by decide +kernel
theorem dLaw_spell_5 : decode bLaw_spell 5 = .ok (.invokevirtual 31, 3) := by decide +kernel
theorem dLaw_spell_8 : decode bLaw_spell 8 = .ok (.i2l, 1) := by decide +kernel
theorem dLaw_spell_9 : decode bLaw_spell 9 = .ok (.lastore, 1) := by decide +kernel
theorem dLaw_spell_10 : decode bLaw_spell 10 = .ok (.goto 11, 3) := by decide +kernel
theorem dLaw_spell_13 : decode bLaw_spell 13 = .ok (.astore 4, 2) := by decide +kernel
theorem dLaw_spell_15 : decode bLaw_spell 15 = .ok (.iconst 1, 1) := by decide +kernel
theorem dLaw_spell_16 : decode bLaw_spell 16 = .ok (.ireturn, 1) := by decide +kernel
theorem dLaw_spell_17 : decode bLaw_spell 17 = .ok (.astore 4, 2) := by decide +kernel
theorem dLaw_spell_19 : decode bLaw_spell 19 = .ok (.iconst 2, 1) := by decide +kernel
theorem dLaw_spell_20 : decode bLaw_spell 20 = .ok (.ireturn, 1) := by decide +kernel
theorem dLaw_spell_21 : decode bLaw_spell 21 = .ok (.iconst 0, 1) := by decide +kernel
theorem dLaw_spell_22 : decode bLaw_spell 22 = .ok (.ireturn, 1) := by decide +kernel
theorem dLaw_type_0 : decode bLaw_type 0 = .ok (.aload_n 3, 1) := by decide +kernel
theorem dLaw_type_1 : decode bLaw_type 1 = .ok (.iconst 0, 1) := by decide +kernel
theorem dLaw_type_2 : decode bLaw_type 2 = .ok (.aload_n 0, 1) := by decide +kernel
theorem dLaw_type_3 : decode bLaw_type 3 = .ok (.iload_n 1, 1) := by decide +kernel
theorem dLaw_type_4 : decode bLaw_type 4 = .ok (.iload_n 2, 1) := by decide +kernel
theorem dLaw_type_5 : decode bLaw_type 5 = .ok (.invokevirtual 34, 3) := by decide +kernel
theorem dLaw_type_8 : decode bLaw_type 8 = .ok (.i2l, 1) := by decide +kernel
theorem dLaw_type_9 : decode bLaw_type 9 = .ok (.lastore, 1) := by decide +kernel
theorem dLaw_type_10 : decode bLaw_type 10 = .ok (.goto 11, 3) := by decide +kernel
theorem dLaw_type_13 : decode bLaw_type 13 = .ok (.astore 4, 2) := by decide +kernel
theorem dLaw_type_15 : decode bLaw_type 15 = .ok (.iconst 1, 1) := by decide +kernel
theorem dLaw_type_16 : decode bLaw_type 16 = .ok (.ireturn, 1) := by decide +kernel
theorem dLaw_type_17 : decode bLaw_type 17 = .ok (.astore 4, 2) := by decide +kernel
theorem dLaw_type_19 : decode bLaw_type 19 = .ok (.iconst 2, 1) := by decide +kernel
theorem dLaw_type_20 : decode bLaw_type 20 = .ok (.ireturn, 1) := by decide +kernel
theorem dLaw_type_21 : decode bLaw_type 21 = .ok (.iconst 0, 1) := by decide +kernel
theorem dLaw_type_22 : decode bLaw_type 22 = .ok (.ireturn, 1) := by decide +kernel
theorem dLaw_write_0 : decode bLaw_write 0 = .ok (.aload_n 1, 1) := by decide +kernel
theorem dLaw_write_1 : decode bLaw_write 1 = .ok (.iconst 0, 1) := by decide +kernel
theorem dLaw_write_2 : decode bLaw_write 2 = .ok (.aload_n 0, 1) := by decide +kernel
theorem dLaw_write_3 : decode bLaw_write 3 = .ok (.invokevirtual 38, 3) := by decide +kernel
theorem dLaw_write_6 : decode bLaw_write 6 = .ok (.i2l, 1) := by decide +kernel
theorem dLaw_write_7 : decode bLaw_write 7 = .ok (.lastore, 1) := by decide +kernel
theorem dLaw_write_8 : decode bLaw_write 8 = .ok (.goto 6, 3) := by decide +kernel
theorem dLaw_write_11 : decode bLaw_write 11 = .ok (.astore_n 2, 1) := by decide +kernel
theorem dLaw_write_12 : decode bLaw_write 12 = .ok (.iconst 1, 1) := by decide +kernel
theorem dLaw_write_13 : decode bLaw_write 13 = .ok (.ireturn, 1) := by decide +kernel
theorem dLaw_write_14 : decode bLaw_write 14 = .ok (.iconst 0, 1) := by decide +kernel
theorem dLaw_write_15 : decode bLaw_write 15 = .ok (.ireturn, 1) := by decide +kernel
theorem dLaw_analyse_0 : decode bLaw_analyse 0 = .ok (.aload_n 1, 1) := by decide +kernel
theorem dLaw_analyse_1 : decode bLaw_analyse 1 = .ok (.iconst 0, 1) := by decide +kernel
theorem dLaw_analyse_2 : decode bLaw_analyse 2 = .ok (.aload_n 0, 1) := by decide +kernel
theorem dLaw_analyse_3 : decode bLaw_analyse 3 = .ok (.invokevirtual 42, 3) := by decide +kernel
theorem dLaw_analyse_6 : decode bLaw_analyse 6 = .ok (.i2l, 1) := by decide +kernel
theorem dLaw_analyse_7 : decode bLaw_analyse 7 = .ok (.lastore, 1) := by decide +kernel
theorem dLaw_analyse_8 : decode bLaw_analyse 8 = .ok (.goto 6, 3) := by decide +kernel
theorem dLaw_analyse_11 : decode bLaw_analyse 11 = .ok (.astore_n 2, 1) := by decide +kernel
theorem dLaw_analyse_12 : decode bLaw_analyse 12 = .ok (.iconst 1, 1) := by decide +kernel
theorem dLaw_analyse_13 : decode bLaw_analyse 13 = .ok (.ireturn, 1) := by decide +kernel
theorem dLaw_analyse_14 : decode bLaw_analyse 14 = .ok (.iconst 0, 1) := by decide +kernel
theorem dLaw_analyse_15 : decode bLaw_analyse 15 = .ok (.ireturn, 1) := by decide +kernel
theorem dLaw_length_0 : decode bLaw_length 0 = .ok (.aload_n 3, 1) := by decide +kernel
theorem dLaw_length_1 : decode bLaw_length 1 = .ok (.iconst 0, 1) := by decide +kernel
theorem dLaw_length_2 : decode bLaw_length 2 = .ok (.aload_n 0, 1) := by decide +kernel
theorem dLaw_length_3 : decode bLaw_length 3 = .ok (.iload_n 1, 1) := by decide +kernel
theorem dLaw_length_4 : decode bLaw_length 4 = .ok (.iload_n 2, 1) := by decide +kernel
theorem dLaw_length_5 : decode bLaw_length 5 = .ok (.invokevirtual 45, 3) := by decide +kernel
theorem dLaw_length_8 : decode bLaw_length 8 = .ok (.i2l, 1) := by decide +kernel
theorem dLaw_length_9 : decode bLaw_length 9 = .ok (.lastore, 1) := by decide +kernel
theorem dLaw_length_10 : decode bLaw_length 10 = .ok (.goto 7, 3) := by decide +kernel
theorem dLaw_length_13 : decode bLaw_length 13 = .ok (.astore 4, 2) := by decide +kernel
theorem dLaw_length_15 : decode bLaw_length 15 = .ok (.iconst 1, 1) := by decide +kernel
theorem dLaw_length_16 : decode bLaw_length 16 = .ok (.ireturn, 1) := by decide +kernel
theorem dLaw_length_17 : decode bLaw_length 17 = .ok (.iconst 0, 1) := by decide +kernel
theorem dLaw_length_18 : decode bLaw_length 18 = .ok (.ireturn, 1) := by decide +kernel
theorem dLaw_result_0 : decode bLaw_result 0 = .ok (.aload 4, 2) := by decide +kernel
theorem dLaw_result_2 : decode bLaw_result 2 = .ok (.iconst 0, 1) := by decide +kernel
theorem dLaw_result_3 : decode bLaw_result 3 = .ok (.aload_n 0, 1) := by decide +kernel
theorem dLaw_result_4 : decode bLaw_result 4 = .ok (.iload_n 1, 1) := by decide +kernel
theorem dLaw_result_5 : decode bLaw_result 5 = .ok (.iload_n 2, 1) := by decide +kernel
theorem dLaw_result_6 : decode bLaw_result 6 = .ok (.iload_n 3, 1) := by decide +kernel
theorem dLaw_result_7 : decode bLaw_result 7 = .ok (.invokevirtual 51, 3) := by decide +kernel
theorem dLaw_result_10 : decode bLaw_result 10 = .ok (.i2l, 1) := by decide +kernel
theorem dLaw_result_11 : decode bLaw_result 11 = .ok (.lastore, 1) := by decide +kernel
theorem dLaw_result_12 : decode bLaw_result 12 = .ok (.goto 7, 3) := by decide +kernel
theorem dLaw_result_15 : decode bLaw_result 15 = .ok (.astore 5, 2) := by decide +kernel
theorem dLaw_result_17 : decode bLaw_result 17 = .ok (.iconst 1, 1) := by decide +kernel
theorem dLaw_result_18 : decode bLaw_result 18 = .ok (.ireturn, 1) := by decide +kernel
theorem dLaw_result_19 : decode bLaw_result 19 = .ok (.iconst 0, 1) := by decide +kernel
theorem dLaw_result_20 : decode bLaw_result 20 = .ok (.ireturn, 1) := by decide +kernel
theorem dLaw_sample_0 : decode bLaw_sample 0 = .ok (.aload_n 1, 1) := by decide +kernel
theorem dLaw_sample_1 : decode bLaw_sample 1 = .ok (.iconst 0, 1) := by decide +kernel
theorem dLaw_sample_2 : decode bLaw_sample 2 = .ok (.aload_n 0, 1) := by decide +kernel
theorem dLaw_sample_3 : decode bLaw_sample 3 = .ok (.invokevirtual 55, 3) := by decide +kernel
theorem dLaw_sample_6 : decode bLaw_sample 6 = .ok (.i2l, 1) := by decide +kernel
theorem dLaw_sample_7 : decode bLaw_sample 7 = .ok (.lastore, 1) := by decide +kernel
theorem dLaw_sample_8 : decode bLaw_sample 8 = .ok (.goto 6, 3) := by decide +kernel
theorem dLaw_sample_11 : decode bLaw_sample 11 = .ok (.astore_n 2, 1) := by decide +kernel
theorem dLaw_sample_12 : decode bLaw_sample 12 = .ok (.iconst 1, 1) := by decide +kernel
theorem dLaw_sample_13 : decode bLaw_sample 13 = .ok (.ireturn, 1) := by decide +kernel
theorem dLaw_sample_14 : decode bLaw_sample 14 = .ok (.iconst 0, 1) := by decide +kernel
theorem dLaw_sample_15 : decode bLaw_sample 15 = .ok (.ireturn, 1) := by decide +kernel
theorem dLaw_law_0 : decode bLaw_law 0 = .ok (.new 8, 3) := by decide +kernel
theorem dLaw_law_3 : decode bLaw_law 3 = .ok (.dup, 1) := by decide +kernel
theorem dLaw_law_4 : decode bLaw_law 4 = .ok (.invokespecial 58, 3) := by decide +kernel
theorem dLaw_law_7 : decode bLaw_law 7 = .ok (.astore_n 1, 1) := by decide +kernel
theorem dLaw_law_8 : decode bLaw_law 8 = .ok (.new 59, 3) := by decide +kernel
theorem dLaw_law_11 : decode bLaw_law 11 = .ok (.dup, 1) := by decide +kernel
theorem dLaw_law_12 : decode bLaw_law 12 = .ok (.invokespecial 61, 3) := by decide +kernel
theorem dLaw_law_15 : decode bLaw_law 15 = .ok (.astore_n 2, 1) := by decide +kernel
theorem dLaw_law_16 : decode bLaw_law 16 = .ok (.iconst 1, 1) := by decide +kernel
theorem dLaw_law_17 : decode bLaw_law 17 = .ok (.newarray .long, 2) := by decide +kernel
theorem dLaw_law_19 : decode bLaw_law 19 = .ok (.astore_n 3, 1) := by decide +kernel
theorem dLaw_law_20 : decode bLaw_law 20 = .ok (.iconst 0, 1) := by decide +kernel
theorem dLaw_law_21 : decode bLaw_law 21 = .ok (.istore 4, 2) := by decide +kernel
theorem dLaw_law_23 : decode bLaw_law 23 = .ok (.iload 4, 2) := by decide +kernel
theorem dLaw_law_25 : decode bLaw_law 25 = .ok (.aload_n 0, 1) := by decide +kernel
theorem dLaw_law_26 : decode bLaw_law 26 = .ok (.arraylength, 1) := by decide +kernel
theorem dLaw_law_27 : decode bLaw_law 27 = .ok (.iconst 5, 1) := by decide +kernel
theorem dLaw_law_28 : decode bLaw_law 28 = .ok (.isub, 1) := by decide +kernel
theorem dLaw_law_29 : decode bLaw_law 29 = .ok (.if_icmp .gt 1077, 3) := by decide +kernel
theorem dLaw_law_32 : decode bLaw_law 32 = .ok (.aload_n 0, 1) := by decide +kernel
theorem dLaw_law_33 : decode bLaw_law 33 = .ok (.iload 4, 2) := by decide +kernel
theorem dLaw_law_35 : decode bLaw_law 35 = .ok (.iaload, 1) := by decide +kernel
theorem dLaw_law_36 : decode bLaw_law 36 = .ok (.bipush 15, 2) := by decide +kernel
theorem dLaw_law_38 : decode bLaw_law 38 = .ok (.iand, 1) := by decide +kernel
theorem dLaw_law_39 : decode bLaw_law 39 = .ok (.tableswitch 1061 0 15 #[77, 145, 213, 325, 449, 517, 585, 669, 710, 723, 736, 780, 824, 908, 1004, 1048], 77) := by decide +kernel
theorem dLaw_law_116 : decode bLaw_law 116 = .ok (.aload_n 1, 1) := by decide +kernel
theorem dLaw_law_117 : decode bLaw_law 117 = .ok (.aload_n 0, 1) := by decide +kernel
theorem dLaw_law_118 : decode bLaw_law 118 = .ok (.iload 4, 2) := by decide +kernel
theorem dLaw_law_120 : decode bLaw_law 120 = .ok (.iconst 1, 1) := by decide +kernel
theorem dLaw_law_121 : decode bLaw_law 121 = .ok (.iadd, 1) := by decide +kernel
theorem dLaw_law_122 : decode bLaw_law 122 = .ok (.iaload, 1) := by decide +kernel
theorem dLaw_law_123 : decode bLaw_law 123 = .ok (.aload_n 0, 1) := by decide +kernel
theorem dLaw_law_124 : decode bLaw_law 124 = .ok (.iload 4, 2) := by decide +kernel
theorem dLaw_law_126 : decode bLaw_law 126 = .ok (.iconst 2, 1) := by decide +kernel
theorem dLaw_law_127 : decode bLaw_law 127 = .ok (.iadd, 1) := by decide +kernel
theorem dLaw_law_128 : decode bLaw_law 128 = .ok (.iaload, 1) := by decide +kernel
theorem dLaw_law_129 : decode bLaw_law 129 = .ok (.aload_n 3, 1) := by decide +kernel
theorem dLaw_law_130 : decode bLaw_law 130 = .ok (.invokestatic 62, 3) := by decide +kernel
theorem dLaw_law_133 : decode bLaw_law 133 = .ok (.istore 5, 2) := by decide +kernel
theorem dLaw_law_135 : decode bLaw_law 135 = .ok (.aload_n 2, 1) := by decide +kernel
theorem dLaw_law_136 : decode bLaw_law 136 = .ok (.aload_n 0, 1) := by decide +kernel
theorem dLaw_law_137 : decode bLaw_law 137 = .ok (.iload 4, 2) := by decide +kernel
theorem dLaw_law_139 : decode bLaw_law 139 = .ok (.iconst 1, 1) := by decide +kernel
theorem dLaw_law_140 : decode bLaw_law 140 = .ok (.iadd, 1) := by decide +kernel
theorem dLaw_law_141 : decode bLaw_law 141 = .ok (.iaload, 1) := by decide +kernel
theorem dLaw_law_142 : decode bLaw_law 142 = .ok (.aload_n 0, 1) := by decide +kernel
theorem dLaw_law_143 : decode bLaw_law 143 = .ok (.iload 4, 2) := by decide +kernel
theorem dLaw_law_145 : decode bLaw_law 145 = .ok (.iconst 2, 1) := by decide +kernel
theorem dLaw_law_146 : decode bLaw_law 146 = .ok (.iadd, 1) := by decide +kernel
theorem dLaw_law_147 : decode bLaw_law 147 = .ok (.iaload, 1) := by decide +kernel
theorem dLaw_law_148 : decode bLaw_law 148 = .ok (.invokevirtual 67, 3) := by decide +kernel
theorem dLaw_law_151 : decode bLaw_law 151 = .ok (.istore 6, 2) := by decide +kernel
theorem dLaw_law_153 : decode bLaw_law 153 = .ok (.aload_n 2, 1) := by decide +kernel
theorem dLaw_law_154 : decode bLaw_law 154 = .ok (.invokevirtual 68, 3) := by decide +kernel
theorem dLaw_law_157 : decode bLaw_law 157 = .ok (.iload 5, 2) := by decide +kernel
theorem dLaw_law_159 : decode bLaw_law 159 = .ok (.if_icmp .eq 5, 3) := by decide +kernel
theorem dLaw_law_162 : decode bLaw_law 162 = .ok (.iconst 0, 1) := by decide +kernel
theorem dLaw_law_163 : decode bLaw_law 163 = .ok (.ireturn, 1) := by decide +kernel
theorem dLaw_law_164 : decode bLaw_law 164 = .ok (.iload 5, 2) := by decide +kernel
theorem dLaw_law_166 : decode bLaw_law 166 = .ok (.ifCond .ne 15, 3) := by decide +kernel
theorem dLaw_law_169 : decode bLaw_law 169 = .ok (.aload_n 3, 1) := by decide +kernel
theorem dLaw_law_170 : decode bLaw_law 170 = .ok (.iconst 0, 1) := by decide +kernel
theorem dLaw_law_171 : decode bLaw_law 171 = .ok (.laload, 1) := by decide +kernel
theorem dLaw_law_172 : decode bLaw_law 172 = .ok (.iload 6, 2) := by decide +kernel
theorem dLaw_law_174 : decode bLaw_law 174 = .ok (.i2l, 1) := by decide +kernel
theorem dLaw_law_175 : decode bLaw_law 175 = .ok (.lcmp, 1) := by decide +kernel
theorem dLaw_law_176 : decode bLaw_law 176 = .ok (.ifCond .eq 5, 3) := by decide +kernel
theorem dLaw_law_179 : decode bLaw_law 179 = .ok (.iconst 0, 1) := by decide +kernel
theorem dLaw_law_180 : decode bLaw_law 180 = .ok (.ireturn, 1) := by decide +kernel
theorem dLaw_law_181 : decode bLaw_law 181 = .ok (.goto 919, 3) := by decide +kernel
theorem dLaw_law_184 : decode bLaw_law 184 = .ok (.aload_n 1, 1) := by decide +kernel
theorem dLaw_law_185 : decode bLaw_law 185 = .ok (.aload_n 0, 1) := by decide +kernel
theorem dLaw_law_186 : decode bLaw_law 186 = .ok (.iload 4, 2) := by decide +kernel
theorem dLaw_law_188 : decode bLaw_law 188 = .ok (.iconst 1, 1) := by decide +kernel
theorem dLaw_law_189 : decode bLaw_law 189 = .ok (.iadd, 1) := by decide +kernel
theorem dLaw_law_190 : decode bLaw_law 190 = .ok (.iaload, 1) := by decide +kernel
theorem dLaw_law_191 : decode bLaw_law 191 = .ok (.aload_n 0, 1) := by decide +kernel
theorem dLaw_law_192 : decode bLaw_law 192 = .ok (.iload 4, 2) := by decide +kernel
theorem dLaw_law_194 : decode bLaw_law 194 = .ok (.iconst 2, 1) := by decide +kernel
theorem dLaw_law_195 : decode bLaw_law 195 = .ok (.iadd, 1) := by decide +kernel
theorem dLaw_law_196 : decode bLaw_law 196 = .ok (.iaload, 1) := by decide +kernel
theorem dLaw_law_197 : decode bLaw_law 197 = .ok (.aload_n 3, 1) := by decide +kernel
theorem dLaw_law_198 : decode bLaw_law 198 = .ok (.invokestatic 71, 3) := by decide +kernel
theorem dLaw_law_201 : decode bLaw_law 201 = .ok (.istore 5, 2) := by decide +kernel
theorem dLaw_law_203 : decode bLaw_law 203 = .ok (.aload_n 2, 1) := by decide +kernel
theorem dLaw_law_204 : decode bLaw_law 204 = .ok (.aload_n 0, 1) := by decide +kernel
theorem dLaw_law_205 : decode bLaw_law 205 = .ok (.iload 4, 2) := by decide +kernel
theorem dLaw_law_207 : decode bLaw_law 207 = .ok (.iconst 1, 1) := by decide +kernel
theorem dLaw_law_208 : decode bLaw_law 208 = .ok (.iadd, 1) := by decide +kernel
theorem dLaw_law_209 : decode bLaw_law 209 = .ok (.iaload, 1) := by decide +kernel
theorem dLaw_law_210 : decode bLaw_law 210 = .ok (.aload_n 0, 1) := by decide +kernel
theorem dLaw_law_211 : decode bLaw_law 211 = .ok (.iload 4, 2) := by decide +kernel
theorem dLaw_law_213 : decode bLaw_law 213 = .ok (.iconst 2, 1) := by decide +kernel
theorem dLaw_law_214 : decode bLaw_law 214 = .ok (.iadd, 1) := by decide +kernel
theorem dLaw_law_215 : decode bLaw_law 215 = .ok (.iaload, 1) := by decide +kernel
theorem dLaw_law_216 : decode bLaw_law 216 = .ok (.invokevirtual 73, 3) := by decide +kernel
theorem dLaw_law_219 : decode bLaw_law 219 = .ok (.istore 6, 2) := by decide +kernel
theorem dLaw_law_221 : decode bLaw_law 221 = .ok (.aload_n 2, 1) := by decide +kernel
theorem dLaw_law_222 : decode bLaw_law 222 = .ok (.invokevirtual 68, 3) := by decide +kernel
theorem dLaw_law_225 : decode bLaw_law 225 = .ok (.iload 5, 2) := by decide +kernel
theorem dLaw_law_227 : decode bLaw_law 227 = .ok (.if_icmp .eq 5, 3) := by decide +kernel
theorem dLaw_law_230 : decode bLaw_law 230 = .ok (.iconst 0, 1) := by decide +kernel
theorem dLaw_law_231 : decode bLaw_law 231 = .ok (.ireturn, 1) := by decide +kernel
theorem dLaw_law_232 : decode bLaw_law 232 = .ok (.iload 5, 2) := by decide +kernel
theorem dLaw_law_234 : decode bLaw_law 234 = .ok (.ifCond .ne 15, 3) := by decide +kernel
theorem dLaw_law_237 : decode bLaw_law 237 = .ok (.aload_n 3, 1) := by decide +kernel
theorem dLaw_law_238 : decode bLaw_law 238 = .ok (.iconst 0, 1) := by decide +kernel
theorem dLaw_law_239 : decode bLaw_law 239 = .ok (.laload, 1) := by decide +kernel
theorem dLaw_law_240 : decode bLaw_law 240 = .ok (.iload 6, 2) := by decide +kernel
theorem dLaw_law_242 : decode bLaw_law 242 = .ok (.i2l, 1) := by decide +kernel
theorem dLaw_law_243 : decode bLaw_law 243 = .ok (.lcmp, 1) := by decide +kernel
theorem dLaw_law_244 : decode bLaw_law 244 = .ok (.ifCond .eq 5, 3) := by decide +kernel
theorem dLaw_law_247 : decode bLaw_law 247 = .ok (.iconst 0, 1) := by decide +kernel
theorem dLaw_law_248 : decode bLaw_law 248 = .ok (.ireturn, 1) := by decide +kernel
theorem dLaw_law_249 : decode bLaw_law 249 = .ok (.goto 851, 3) := by decide +kernel
theorem dLaw_law_252 : decode bLaw_law 252 = .ok (.aload_n 1, 1) := by decide +kernel
theorem dLaw_law_253 : decode bLaw_law 253 = .ok (.aload_n 0, 1) := by decide +kernel
theorem dLaw_law_254 : decode bLaw_law 254 = .ok (.iload 4, 2) := by decide +kernel
theorem dLaw_law_256 : decode bLaw_law 256 = .ok (.iconst 1, 1) := by decide +kernel
theorem dLaw_law_257 : decode bLaw_law 257 = .ok (.iadd, 1) := by decide +kernel
theorem dLaw_law_258 : decode bLaw_law 258 = .ok (.iaload, 1) := by decide +kernel
theorem dLaw_law_259 : decode bLaw_law 259 = .ok (.aload_n 0, 1) := by decide +kernel
theorem dLaw_law_260 : decode bLaw_law 260 = .ok (.iload 4, 2) := by decide +kernel
theorem dLaw_law_262 : decode bLaw_law 262 = .ok (.iconst 2, 1) := by decide +kernel
theorem dLaw_law_263 : decode bLaw_law 263 = .ok (.iadd, 1) := by decide +kernel
theorem dLaw_law_264 : decode bLaw_law 264 = .ok (.iaload, 1) := by decide +kernel
theorem dLaw_law_265 : decode bLaw_law 265 = .ok (.ifCond .eq 7, 3) := by decide +kernel
theorem dLaw_law_268 : decode bLaw_law 268 = .ok (.iconst 1, 1) := by decide +kernel
theorem dLaw_law_269 : decode bLaw_law 269 = .ok (.goto 4, 3) := by decide +kernel
theorem dLaw_law_272 : decode bLaw_law 272 = .ok (.iconst 0, 1) := by decide +kernel
theorem dLaw_law_273 : decode bLaw_law 273 = .ok (.aload_n 0, 1) := by decide +kernel
theorem dLaw_law_274 : decode bLaw_law 274 = .ok (.iload 4, 2) := by decide +kernel
theorem dLaw_law_276 : decode bLaw_law 276 = .ok (.iconst 3, 1) := by decide +kernel
theorem dLaw_law_277 : decode bLaw_law 277 = .ok (.iadd, 1) := by decide +kernel
theorem dLaw_law_278 : decode bLaw_law 278 = .ok (.iaload, 1) := by decide +kernel
theorem dLaw_law_279 : decode bLaw_law 279 = .ok (.ifCond .eq 7, 3) := by decide +kernel
theorem dLaw_law_282 : decode bLaw_law 282 = .ok (.iconst 1, 1) := by decide +kernel
theorem dLaw_law_283 : decode bLaw_law 283 = .ok (.goto 4, 3) := by decide +kernel
theorem dLaw_law_286 : decode bLaw_law 286 = .ok (.iconst 0, 1) := by decide +kernel
theorem dLaw_law_287 : decode bLaw_law 287 = .ok (.aload_n 3, 1) := by decide +kernel
theorem dLaw_law_288 : decode bLaw_law 288 = .ok (.invokestatic 74, 3) := by decide +kernel
theorem dLaw_law_291 : decode bLaw_law 291 = .ok (.istore 5, 2) := by decide +kernel
theorem dLaw_law_293 : decode bLaw_law 293 = .ok (.aload_n 2, 1) := by decide +kernel
theorem dLaw_law_294 : decode bLaw_law 294 = .ok (.aload_n 0, 1) := by decide +kernel
theorem dLaw_law_295 : decode bLaw_law 295 = .ok (.iload 4, 2) := by decide +kernel
theorem dLaw_law_297 : decode bLaw_law 297 = .ok (.iconst 1, 1) := by decide +kernel
theorem dLaw_law_298 : decode bLaw_law 298 = .ok (.iadd, 1) := by decide +kernel
theorem dLaw_law_299 : decode bLaw_law 299 = .ok (.iaload, 1) := by decide +kernel
theorem dLaw_law_300 : decode bLaw_law 300 = .ok (.aload_n 0, 1) := by decide +kernel
theorem dLaw_law_301 : decode bLaw_law 301 = .ok (.iload 4, 2) := by decide +kernel
theorem dLaw_law_303 : decode bLaw_law 303 = .ok (.iconst 2, 1) := by decide +kernel
theorem dLaw_law_304 : decode bLaw_law 304 = .ok (.iadd, 1) := by decide +kernel
theorem dLaw_law_305 : decode bLaw_law 305 = .ok (.iaload, 1) := by decide +kernel
theorem dLaw_law_306 : decode bLaw_law 306 = .ok (.ifCond .eq 7, 3) := by decide +kernel
theorem dLaw_law_309 : decode bLaw_law 309 = .ok (.iconst 1, 1) := by decide +kernel
theorem dLaw_law_310 : decode bLaw_law 310 = .ok (.goto 4, 3) := by decide +kernel
theorem dLaw_law_313 : decode bLaw_law 313 = .ok (.iconst 0, 1) := by decide +kernel
theorem dLaw_law_314 : decode bLaw_law 314 = .ok (.aload_n 0, 1) := by decide +kernel
theorem dLaw_law_315 : decode bLaw_law 315 = .ok (.iload 4, 2) := by decide +kernel
theorem dLaw_law_317 : decode bLaw_law 317 = .ok (.iconst 3, 1) := by decide +kernel
theorem dLaw_law_318 : decode bLaw_law 318 = .ok (.iadd, 1) := by decide +kernel
theorem dLaw_law_319 : decode bLaw_law 319 = .ok (.iaload, 1) := by decide +kernel
theorem dLaw_law_320 : decode bLaw_law 320 = .ok (.ifCond .eq 7, 3) := by decide +kernel
theorem dLaw_law_323 : decode bLaw_law 323 = .ok (.iconst 1, 1) := by decide +kernel
theorem dLaw_law_324 : decode bLaw_law 324 = .ok (.goto 4, 3) := by decide +kernel
theorem dLaw_law_327 : decode bLaw_law 327 = .ok (.iconst 0, 1) := by decide +kernel
theorem dLaw_law_328 : decode bLaw_law 328 = .ok (.invokevirtual 77, 3) := by decide +kernel
theorem dLaw_law_331 : decode bLaw_law 331 = .ok (.istore 6, 2) := by decide +kernel
theorem dLaw_law_333 : decode bLaw_law 333 = .ok (.aload_n 2, 1) := by decide +kernel
theorem dLaw_law_334 : decode bLaw_law 334 = .ok (.invokevirtual 68, 3) := by decide +kernel
theorem dLaw_law_337 : decode bLaw_law 337 = .ok (.iload 5, 2) := by decide +kernel
theorem dLaw_law_339 : decode bLaw_law 339 = .ok (.if_icmp .eq 5, 3) := by decide +kernel
theorem dLaw_law_342 : decode bLaw_law 342 = .ok (.iconst 0, 1) := by decide +kernel
theorem dLaw_law_343 : decode bLaw_law 343 = .ok (.ireturn, 1) := by decide +kernel
theorem dLaw_law_344 : decode bLaw_law 344 = .ok (.iload 5, 2) := by decide +kernel
theorem dLaw_law_346 : decode bLaw_law 346 = .ok (.ifCond .ne 15, 3) := by decide +kernel
theorem dLaw_law_349 : decode bLaw_law 349 = .ok (.aload_n 3, 1) := by decide +kernel
theorem dLaw_law_350 : decode bLaw_law 350 = .ok (.iconst 0, 1) := by decide +kernel
theorem dLaw_law_351 : decode bLaw_law 351 = .ok (.laload, 1) := by decide +kernel
theorem dLaw_law_352 : decode bLaw_law 352 = .ok (.iload 6, 2) := by decide +kernel
theorem dLaw_law_354 : decode bLaw_law 354 = .ok (.i2l, 1) := by decide +kernel
theorem dLaw_law_355 : decode bLaw_law 355 = .ok (.lcmp, 1) := by decide +kernel
theorem dLaw_law_356 : decode bLaw_law 356 = .ok (.ifCond .eq 5, 3) := by decide +kernel
theorem dLaw_law_359 : decode bLaw_law 359 = .ok (.iconst 0, 1) := by decide +kernel
theorem dLaw_law_360 : decode bLaw_law 360 = .ok (.ireturn, 1) := by decide +kernel
theorem dLaw_law_361 : decode bLaw_law 361 = .ok (.goto 739, 3) := by decide +kernel
theorem dLaw_law_364 : decode bLaw_law 364 = .ok (.aload_n 1, 1) := by decide +kernel
theorem dLaw_law_365 : decode bLaw_law 365 = .ok (.aload_n 0, 1) := by decide +kernel
theorem dLaw_law_366 : decode bLaw_law 366 = .ok (.iload 4, 2) := by decide +kernel
theorem dLaw_law_368 : decode bLaw_law 368 = .ok (.iconst 1, 1) := by decide +kernel
theorem dLaw_law_369 : decode bLaw_law 369 = .ok (.iadd, 1) := by decide +kernel
theorem dLaw_law_370 : decode bLaw_law 370 = .ok (.iaload, 1) := by decide +kernel
theorem dLaw_law_371 : decode bLaw_law 371 = .ok (.aload_n 0, 1) := by decide +kernel
theorem dLaw_law_372 : decode bLaw_law 372 = .ok (.iload 4, 2) := by decide +kernel
theorem dLaw_law_374 : decode bLaw_law 374 = .ok (.iconst 2, 1) := by decide +kernel
theorem dLaw_law_375 : decode bLaw_law 375 = .ok (.iadd, 1) := by decide +kernel
theorem dLaw_law_376 : decode bLaw_law 376 = .ok (.iaload, 1) := by decide +kernel
theorem dLaw_law_377 : decode bLaw_law 377 = .ok (.ifCond .eq 7, 3) := by decide +kernel
theorem dLaw_law_380 : decode bLaw_law 380 = .ok (.iconst 1, 1) := by decide +kernel
theorem dLaw_law_381 : decode bLaw_law 381 = .ok (.goto 4, 3) := by decide +kernel
theorem dLaw_law_384 : decode bLaw_law 384 = .ok (.iconst 0, 1) := by decide +kernel
theorem dLaw_law_385 : decode bLaw_law 385 = .ok (.aload_n 0, 1) := by decide +kernel
theorem dLaw_law_386 : decode bLaw_law 386 = .ok (.iload 4, 2) := by decide +kernel
theorem dLaw_law_388 : decode bLaw_law 388 = .ok (.iconst 3, 1) := by decide +kernel
theorem dLaw_law_389 : decode bLaw_law 389 = .ok (.iadd, 1) := by decide +kernel
theorem dLaw_law_390 : decode bLaw_law 390 = .ok (.iaload, 1) := by decide +kernel
theorem dLaw_law_391 : decode bLaw_law 391 = .ok (.aload_n 0, 1) := by decide +kernel
theorem dLaw_law_392 : decode bLaw_law 392 = .ok (.iload 4, 2) := by decide +kernel
theorem dLaw_law_394 : decode bLaw_law 394 = .ok (.iconst 4, 1) := by decide +kernel
theorem dLaw_law_395 : decode bLaw_law 395 = .ok (.iadd, 1) := by decide +kernel
theorem dLaw_law_396 : decode bLaw_law 396 = .ok (.iaload, 1) := by decide +kernel
theorem dLaw_law_397 : decode bLaw_law 397 = .ok (.ifCond .eq 7, 3) := by decide +kernel
theorem dLaw_law_400 : decode bLaw_law 400 = .ok (.iconst 1, 1) := by decide +kernel
theorem dLaw_law_401 : decode bLaw_law 401 = .ok (.goto 4, 3) := by decide +kernel
theorem dLaw_law_404 : decode bLaw_law 404 = .ok (.iconst 0, 1) := by decide +kernel
theorem dLaw_law_405 : decode bLaw_law 405 = .ok (.aload_n 3, 1) := by decide +kernel
theorem dLaw_law_406 : decode bLaw_law 406 = .ok (.invokestatic 78, 3) := by decide +kernel
theorem dLaw_law_409 : decode bLaw_law 409 = .ok (.istore 5, 2) := by decide +kernel
theorem dLaw_law_411 : decode bLaw_law 411 = .ok (.aload_n 2, 1) := by decide +kernel
theorem dLaw_law_412 : decode bLaw_law 412 = .ok (.aload_n 0, 1) := by decide +kernel
theorem dLaw_law_413 : decode bLaw_law 413 = .ok (.iload 4, 2) := by decide +kernel
theorem dLaw_law_415 : decode bLaw_law 415 = .ok (.iconst 1, 1) := by decide +kernel
theorem dLaw_law_416 : decode bLaw_law 416 = .ok (.iadd, 1) := by decide +kernel
theorem dLaw_law_417 : decode bLaw_law 417 = .ok (.iaload, 1) := by decide +kernel
theorem dLaw_law_418 : decode bLaw_law 418 = .ok (.aload_n 0, 1) := by decide +kernel
theorem dLaw_law_419 : decode bLaw_law 419 = .ok (.iload 4, 2) := by decide +kernel
theorem dLaw_law_421 : decode bLaw_law 421 = .ok (.iconst 2, 1) := by decide +kernel
theorem dLaw_law_422 : decode bLaw_law 422 = .ok (.iadd, 1) := by decide +kernel
theorem dLaw_law_423 : decode bLaw_law 423 = .ok (.iaload, 1) := by decide +kernel
theorem dLaw_law_424 : decode bLaw_law 424 = .ok (.ifCond .eq 7, 3) := by decide +kernel
theorem dLaw_law_427 : decode bLaw_law 427 = .ok (.iconst 1, 1) := by decide +kernel
theorem dLaw_law_428 : decode bLaw_law 428 = .ok (.goto 4, 3) := by decide +kernel
theorem dLaw_law_431 : decode bLaw_law 431 = .ok (.iconst 0, 1) := by decide +kernel
theorem dLaw_law_432 : decode bLaw_law 432 = .ok (.aload_n 0, 1) := by decide +kernel
theorem dLaw_law_433 : decode bLaw_law 433 = .ok (.iload 4, 2) := by decide +kernel
theorem dLaw_law_435 : decode bLaw_law 435 = .ok (.iconst 3, 1) := by decide +kernel
theorem dLaw_law_436 : decode bLaw_law 436 = .ok (.iadd, 1) := by decide +kernel
theorem dLaw_law_437 : decode bLaw_law 437 = .ok (.iaload, 1) := by decide +kernel
theorem dLaw_law_438 : decode bLaw_law 438 = .ok (.aload_n 0, 1) := by decide +kernel
theorem dLaw_law_439 : decode bLaw_law 439 = .ok (.iload 4, 2) := by decide +kernel
theorem dLaw_law_441 : decode bLaw_law 441 = .ok (.iconst 4, 1) := by decide +kernel
theorem dLaw_law_442 : decode bLaw_law 442 = .ok (.iadd, 1) := by decide +kernel
theorem dLaw_law_443 : decode bLaw_law 443 = .ok (.iaload, 1) := by decide +kernel
theorem dLaw_law_444 : decode bLaw_law 444 = .ok (.ifCond .eq 7, 3) := by decide +kernel
theorem dLaw_law_447 : decode bLaw_law 447 = .ok (.iconst 1, 1) := by decide +kernel
theorem dLaw_law_448 : decode bLaw_law 448 = .ok (.goto 4, 3) := by decide +kernel
theorem dLaw_law_451 : decode bLaw_law 451 = .ok (.iconst 0, 1) := by decide +kernel
theorem dLaw_law_452 : decode bLaw_law 452 = .ok (.invokevirtual 81, 3) := by decide +kernel
theorem dLaw_law_455 : decode bLaw_law 455 = .ok (.istore 6, 2) := by decide +kernel
theorem dLaw_law_457 : decode bLaw_law 457 = .ok (.aload_n 2, 1) := by decide +kernel
theorem dLaw_law_458 : decode bLaw_law 458 = .ok (.invokevirtual 68, 3) := by decide +kernel
theorem dLaw_law_461 : decode bLaw_law 461 = .ok (.iload 5, 2) := by decide +kernel
theorem dLaw_law_463 : decode bLaw_law 463 = .ok (.if_icmp .eq 5, 3) := by decide +kernel
theorem dLaw_law_466 : decode bLaw_law 466 = .ok (.iconst 0, 1) := by decide +kernel
theorem dLaw_law_467 : decode bLaw_law 467 = .ok (.ireturn, 1) := by decide +kernel
theorem dLaw_law_468 : decode bLaw_law 468 = .ok (.iload 5, 2) := by decide +kernel
theorem dLaw_law_470 : decode bLaw_law 470 = .ok (.ifCond .ne 15, 3) := by decide +kernel
theorem dLaw_law_473 : decode bLaw_law 473 = .ok (.aload_n 3, 1) := by decide +kernel
theorem dLaw_law_474 : decode bLaw_law 474 = .ok (.iconst 0, 1) := by decide +kernel
theorem dLaw_law_475 : decode bLaw_law 475 = .ok (.laload, 1) := by decide +kernel
theorem dLaw_law_476 : decode bLaw_law 476 = .ok (.iload 6, 2) := by decide +kernel
theorem dLaw_law_478 : decode bLaw_law 478 = .ok (.i2l, 1) := by decide +kernel
theorem dLaw_law_479 : decode bLaw_law 479 = .ok (.lcmp, 1) := by decide +kernel
theorem dLaw_law_480 : decode bLaw_law 480 = .ok (.ifCond .eq 5, 3) := by decide +kernel
theorem dLaw_law_483 : decode bLaw_law 483 = .ok (.iconst 0, 1) := by decide +kernel
theorem dLaw_law_484 : decode bLaw_law 484 = .ok (.ireturn, 1) := by decide +kernel
theorem dLaw_law_485 : decode bLaw_law 485 = .ok (.goto 615, 3) := by decide +kernel
theorem dLaw_law_488 : decode bLaw_law 488 = .ok (.aload_n 1, 1) := by decide +kernel
theorem dLaw_law_489 : decode bLaw_law 489 = .ok (.aload_n 0, 1) := by decide +kernel
theorem dLaw_law_490 : decode bLaw_law 490 = .ok (.iload 4, 2) := by decide +kernel
theorem dLaw_law_492 : decode bLaw_law 492 = .ok (.iconst 1, 1) := by decide +kernel
theorem dLaw_law_493 : decode bLaw_law 493 = .ok (.iadd, 1) := by decide +kernel
theorem dLaw_law_494 : decode bLaw_law 494 = .ok (.iaload, 1) := by decide +kernel
theorem dLaw_law_495 : decode bLaw_law 495 = .ok (.aload_n 0, 1) := by decide +kernel
theorem dLaw_law_496 : decode bLaw_law 496 = .ok (.iload 4, 2) := by decide +kernel
theorem dLaw_law_498 : decode bLaw_law 498 = .ok (.iconst 2, 1) := by decide +kernel
theorem dLaw_law_499 : decode bLaw_law 499 = .ok (.iadd, 1) := by decide +kernel
theorem dLaw_law_500 : decode bLaw_law 500 = .ok (.iaload, 1) := by decide +kernel
theorem dLaw_law_501 : decode bLaw_law 501 = .ok (.aload_n 3, 1) := by decide +kernel
theorem dLaw_law_502 : decode bLaw_law 502 = .ok (.invokestatic 82, 3) := by decide +kernel
theorem dLaw_law_505 : decode bLaw_law 505 = .ok (.istore 5, 2) := by decide +kernel
theorem dLaw_law_507 : decode bLaw_law 507 = .ok (.aload_n 2, 1) := by decide +kernel
theorem dLaw_law_508 : decode bLaw_law 508 = .ok (.aload_n 0, 1) := by decide +kernel
theorem dLaw_law_509 : decode bLaw_law 509 = .ok (.iload 4, 2) := by decide +kernel
theorem dLaw_law_511 : decode bLaw_law 511 = .ok (.iconst 1, 1) := by decide +kernel
theorem dLaw_law_512 : decode bLaw_law 512 = .ok (.iadd, 1) := by decide +kernel
theorem dLaw_law_513 : decode bLaw_law 513 = .ok (.iaload, 1) := by decide +kernel
theorem dLaw_law_514 : decode bLaw_law 514 = .ok (.aload_n 0, 1) := by decide +kernel
theorem dLaw_law_515 : decode bLaw_law 515 = .ok (.iload 4, 2) := by decide +kernel
theorem dLaw_law_517 : decode bLaw_law 517 = .ok (.iconst 2, 1) := by decide +kernel
theorem dLaw_law_518 : decode bLaw_law 518 = .ok (.iadd, 1) := by decide +kernel
theorem dLaw_law_519 : decode bLaw_law 519 = .ok (.iaload, 1) := by decide +kernel
theorem dLaw_law_520 : decode bLaw_law 520 = .ok (.invokevirtual 84, 3) := by decide +kernel
theorem dLaw_law_523 : decode bLaw_law 523 = .ok (.istore 6, 2) := by decide +kernel
theorem dLaw_law_525 : decode bLaw_law 525 = .ok (.aload_n 2, 1) := by decide +kernel
theorem dLaw_law_526 : decode bLaw_law 526 = .ok (.invokevirtual 68, 3) := by decide +kernel
theorem dLaw_law_529 : decode bLaw_law 529 = .ok (.iload 5, 2) := by decide +kernel
theorem dLaw_law_531 : decode bLaw_law 531 = .ok (.if_icmp .eq 5, 3) := by decide +kernel
theorem dLaw_law_534 : decode bLaw_law 534 = .ok (.iconst 0, 1) := by decide +kernel
theorem dLaw_law_535 : decode bLaw_law 535 = .ok (.ireturn, 1) := by decide +kernel
theorem dLaw_law_536 : decode bLaw_law 536 = .ok (.iload 5, 2) := by decide +kernel
theorem dLaw_law_538 : decode bLaw_law 538 = .ok (.ifCond .ne 15, 3) := by decide +kernel
theorem dLaw_law_541 : decode bLaw_law 541 = .ok (.aload_n 3, 1) := by decide +kernel
theorem dLaw_law_542 : decode bLaw_law 542 = .ok (.iconst 0, 1) := by decide +kernel
theorem dLaw_law_543 : decode bLaw_law 543 = .ok (.laload, 1) := by decide +kernel
theorem dLaw_law_544 : decode bLaw_law 544 = .ok (.iload 6, 2) := by decide +kernel
theorem dLaw_law_546 : decode bLaw_law 546 = .ok (.i2l, 1) := by decide +kernel
theorem dLaw_law_547 : decode bLaw_law 547 = .ok (.lcmp, 1) := by decide +kernel
theorem dLaw_law_548 : decode bLaw_law 548 = .ok (.ifCond .eq 5, 3) := by decide +kernel
theorem dLaw_law_551 : decode bLaw_law 551 = .ok (.iconst 0, 1) := by decide +kernel
theorem dLaw_law_552 : decode bLaw_law 552 = .ok (.ireturn, 1) := by decide +kernel
theorem dLaw_law_553 : decode bLaw_law 553 = .ok (.goto 547, 3) := by decide +kernel
theorem dLaw_law_556 : decode bLaw_law 556 = .ok (.aload_n 1, 1) := by decide +kernel
theorem dLaw_law_557 : decode bLaw_law 557 = .ok (.aload_n 0, 1) := by decide +kernel
theorem dLaw_law_558 : decode bLaw_law 558 = .ok (.iload 4, 2) := by decide +kernel
theorem dLaw_law_560 : decode bLaw_law 560 = .ok (.iconst 1, 1) := by decide +kernel
theorem dLaw_law_561 : decode bLaw_law 561 = .ok (.iadd, 1) := by decide +kernel
theorem dLaw_law_562 : decode bLaw_law 562 = .ok (.iaload, 1) := by decide +kernel
theorem dLaw_law_563 : decode bLaw_law 563 = .ok (.aload_n 0, 1) := by decide +kernel
theorem dLaw_law_564 : decode bLaw_law 564 = .ok (.iload 4, 2) := by decide +kernel
theorem dLaw_law_566 : decode bLaw_law 566 = .ok (.iconst 2, 1) := by decide +kernel
theorem dLaw_law_567 : decode bLaw_law 567 = .ok (.iadd, 1) := by decide +kernel
theorem dLaw_law_568 : decode bLaw_law 568 = .ok (.iaload, 1) := by decide +kernel
theorem dLaw_law_569 : decode bLaw_law 569 = .ok (.aload_n 3, 1) := by decide +kernel
theorem dLaw_law_570 : decode bLaw_law 570 = .ok (.invokestatic 85, 3) := by decide +kernel
theorem dLaw_law_573 : decode bLaw_law 573 = .ok (.istore 5, 2) := by decide +kernel
theorem dLaw_law_575 : decode bLaw_law 575 = .ok (.aload_n 2, 1) := by decide +kernel
theorem dLaw_law_576 : decode bLaw_law 576 = .ok (.aload_n 0, 1) := by decide +kernel
theorem dLaw_law_577 : decode bLaw_law 577 = .ok (.iload 4, 2) := by decide +kernel
theorem dLaw_law_579 : decode bLaw_law 579 = .ok (.iconst 1, 1) := by decide +kernel
theorem dLaw_law_580 : decode bLaw_law 580 = .ok (.iadd, 1) := by decide +kernel
theorem dLaw_law_581 : decode bLaw_law 581 = .ok (.iaload, 1) := by decide +kernel
theorem dLaw_law_582 : decode bLaw_law 582 = .ok (.aload_n 0, 1) := by decide +kernel
theorem dLaw_law_583 : decode bLaw_law 583 = .ok (.iload 4, 2) := by decide +kernel
theorem dLaw_law_585 : decode bLaw_law 585 = .ok (.iconst 2, 1) := by decide +kernel
theorem dLaw_law_586 : decode bLaw_law 586 = .ok (.iadd, 1) := by decide +kernel
theorem dLaw_law_587 : decode bLaw_law 587 = .ok (.iaload, 1) := by decide +kernel
theorem dLaw_law_588 : decode bLaw_law 588 = .ok (.invokevirtual 87, 3) := by decide +kernel
theorem dLaw_law_591 : decode bLaw_law 591 = .ok (.istore 6, 2) := by decide +kernel
theorem dLaw_law_593 : decode bLaw_law 593 = .ok (.aload_n 2, 1) := by decide +kernel
theorem dLaw_law_594 : decode bLaw_law 594 = .ok (.invokevirtual 68, 3) := by decide +kernel
theorem dLaw_law_597 : decode bLaw_law 597 = .ok (.iload 5, 2) := by decide +kernel
theorem dLaw_law_599 : decode bLaw_law 599 = .ok (.if_icmp .eq 5, 3) := by decide +kernel
theorem dLaw_law_602 : decode bLaw_law 602 = .ok (.iconst 0, 1) := by decide +kernel
theorem dLaw_law_603 : decode bLaw_law 603 = .ok (.ireturn, 1) := by decide +kernel
theorem dLaw_law_604 : decode bLaw_law 604 = .ok (.iload 5, 2) := by decide +kernel
theorem dLaw_law_606 : decode bLaw_law 606 = .ok (.ifCond .ne 15, 3) := by decide +kernel
theorem dLaw_law_609 : decode bLaw_law 609 = .ok (.aload_n 3, 1) := by decide +kernel
theorem dLaw_law_610 : decode bLaw_law 610 = .ok (.iconst 0, 1) := by decide +kernel
theorem dLaw_law_611 : decode bLaw_law 611 = .ok (.laload, 1) := by decide +kernel
theorem dLaw_law_612 : decode bLaw_law 612 = .ok (.iload 6, 2) := by decide +kernel
theorem dLaw_law_614 : decode bLaw_law 614 = .ok (.i2l, 1) := by decide +kernel
theorem dLaw_law_615 : decode bLaw_law 615 = .ok (.lcmp, 1) := by decide +kernel
theorem dLaw_law_616 : decode bLaw_law 616 = .ok (.ifCond .eq 5, 3) := by decide +kernel
theorem dLaw_law_619 : decode bLaw_law 619 = .ok (.iconst 0, 1) := by decide +kernel
theorem dLaw_law_620 : decode bLaw_law 620 = .ok (.ireturn, 1) := by decide +kernel
theorem dLaw_law_621 : decode bLaw_law 621 = .ok (.goto 479, 3) := by decide +kernel
theorem dLaw_law_624 : decode bLaw_law 624 = .ok (.aload_n 1, 1) := by decide +kernel
theorem dLaw_law_625 : decode bLaw_law 625 = .ok (.aload_n 0, 1) := by decide +kernel
theorem dLaw_law_626 : decode bLaw_law 626 = .ok (.iload 4, 2) := by decide +kernel
theorem dLaw_law_628 : decode bLaw_law 628 = .ok (.iconst 1, 1) := by decide +kernel
theorem dLaw_law_629 : decode bLaw_law 629 = .ok (.iadd, 1) := by decide +kernel
theorem dLaw_law_630 : decode bLaw_law 630 = .ok (.iaload, 1) := by decide +kernel
theorem dLaw_law_631 : decode bLaw_law 631 = .ok (.ifCond .eq 7, 3) := by decide +kernel
theorem dLaw_law_634 : decode bLaw_law 634 = .ok (.iconst 1, 1) := by decide +kernel
theorem dLaw_law_635 : decode bLaw_law 635 = .ok (.goto 4, 3) := by decide +kernel
theorem dLaw_law_638 : decode bLaw_law 638 = .ok (.iconst 0, 1) := by decide +kernel
theorem dLaw_law_639 : decode bLaw_law 639 = .ok (.aload_n 0, 1) := by decide +kernel
theorem dLaw_law_640 : decode bLaw_law 640 = .ok (.iload 4, 2) := by decide +kernel
theorem dLaw_law_642 : decode bLaw_law 642 = .ok (.iconst 2, 1) := by decide +kernel
theorem dLaw_law_643 : decode bLaw_law 643 = .ok (.iadd, 1) := by decide +kernel
theorem dLaw_law_644 : decode bLaw_law 644 = .ok (.iaload, 1) := by decide +kernel
theorem dLaw_law_645 : decode bLaw_law 645 = .ok (.aload_n 3, 1) := by decide +kernel
theorem dLaw_law_646 : decode bLaw_law 646 = .ok (.invokestatic 88, 3) := by decide +kernel
theorem dLaw_law_649 : decode bLaw_law 649 = .ok (.istore 5, 2) := by decide +kernel
theorem dLaw_law_651 : decode bLaw_law 651 = .ok (.aload_n 2, 1) := by decide +kernel
theorem dLaw_law_652 : decode bLaw_law 652 = .ok (.aload_n 0, 1) := by decide +kernel
theorem dLaw_law_653 : decode bLaw_law 653 = .ok (.iload 4, 2) := by decide +kernel
theorem dLaw_law_655 : decode bLaw_law 655 = .ok (.iconst 1, 1) := by decide +kernel
theorem dLaw_law_656 : decode bLaw_law 656 = .ok (.iadd, 1) := by decide +kernel
theorem dLaw_law_657 : decode bLaw_law 657 = .ok (.iaload, 1) := by decide +kernel
theorem dLaw_law_658 : decode bLaw_law 658 = .ok (.ifCond .eq 7, 3) := by decide +kernel
theorem dLaw_law_661 : decode bLaw_law 661 = .ok (.iconst 1, 1) := by decide +kernel
theorem dLaw_law_662 : decode bLaw_law 662 = .ok (.goto 4, 3) := by decide +kernel
theorem dLaw_law_665 : decode bLaw_law 665 = .ok (.iconst 0, 1) := by decide +kernel
theorem dLaw_law_666 : decode bLaw_law 666 = .ok (.aload_n 0, 1) := by decide +kernel
theorem dLaw_law_667 : decode bLaw_law 667 = .ok (.iload 4, 2) := by decide +kernel
theorem dLaw_law_669 : decode bLaw_law 669 = .ok (.iconst 2, 1) := by decide +kernel
theorem dLaw_law_670 : decode bLaw_law 670 = .ok (.iadd, 1) := by decide +kernel
theorem dLaw_law_671 : decode bLaw_law 671 = .ok (.iaload, 1) := by decide +kernel
theorem dLaw_law_672 : decode bLaw_law 672 = .ok (.invokevirtual 91, 3) := by decide +kernel
theorem dLaw_law_675 : decode bLaw_law 675 = .ok (.istore 6, 2) := by decide +kernel
theorem dLaw_law_677 : decode bLaw_law 677 = .ok (.aload_n 2, 1) := by decide +kernel
theorem dLaw_law_678 : decode bLaw_law 678 = .ok (.invokevirtual 68, 3) := by decide +kernel
theorem dLaw_law_681 : decode bLaw_law 681 = .ok (.iload 5, 2) := by decide +kernel
theorem dLaw_law_683 : decode bLaw_law 683 = .ok (.if_icmp .eq 5, 3) := by decide +kernel
theorem dLaw_law_686 : decode bLaw_law 686 = .ok (.iconst 0, 1) := by decide +kernel
theorem dLaw_law_687 : decode bLaw_law 687 = .ok (.ireturn, 1) := by decide +kernel
theorem dLaw_law_688 : decode bLaw_law 688 = .ok (.iload 5, 2) := by decide +kernel
theorem dLaw_law_690 : decode bLaw_law 690 = .ok (.ifCond .ne 15, 3) := by decide +kernel
theorem dLaw_law_693 : decode bLaw_law 693 = .ok (.aload_n 3, 1) := by decide +kernel
theorem dLaw_law_694 : decode bLaw_law 694 = .ok (.iconst 0, 1) := by decide +kernel
theorem dLaw_law_695 : decode bLaw_law 695 = .ok (.laload, 1) := by decide +kernel
theorem dLaw_law_696 : decode bLaw_law 696 = .ok (.iload 6, 2) := by decide +kernel
theorem dLaw_law_698 : decode bLaw_law 698 = .ok (.i2l, 1) := by decide +kernel
theorem dLaw_law_699 : decode bLaw_law 699 = .ok (.lcmp, 1) := by decide +kernel
theorem dLaw_law_700 : decode bLaw_law 700 = .ok (.ifCond .eq 5, 3) := by decide +kernel
theorem dLaw_law_703 : decode bLaw_law 703 = .ok (.iconst 0, 1) := by decide +kernel
theorem dLaw_law_704 : decode bLaw_law 704 = .ok (.ireturn, 1) := by decide +kernel
theorem dLaw_law_705 : decode bLaw_law 705 = .ok (.goto 395, 3) := by decide +kernel
theorem dLaw_law_708 : decode bLaw_law 708 = .ok (.aload_n 1, 1) := by decide +kernel
theorem dLaw_law_709 : decode bLaw_law 709 = .ok (.aload_n 0, 1) := by decide +kernel
theorem dLaw_law_710 : decode bLaw_law 710 = .ok (.iload 4, 2) := by decide +kernel
theorem dLaw_law_712 : decode bLaw_law 712 = .ok (.iconst 1, 1) := by decide +kernel
theorem dLaw_law_713 : decode bLaw_law 713 = .ok (.iadd, 1) := by decide +kernel
theorem dLaw_law_714 : decode bLaw_law 714 = .ok (.iaload, 1) := by decide +kernel
theorem dLaw_law_715 : decode bLaw_law 715 = .ok (.ifCond .eq 7, 3) := by decide +kernel
theorem dLaw_law_718 : decode bLaw_law 718 = .ok (.iconst 1, 1) := by decide +kernel
theorem dLaw_law_719 : decode bLaw_law 719 = .ok (.goto 4, 3) := by decide +kernel
theorem dLaw_law_722 : decode bLaw_law 722 = .ok (.iconst 0, 1) := by decide +kernel
theorem dLaw_law_723 : decode bLaw_law 723 = .ok (.invokevirtual 92, 3) := by decide +kernel
theorem dLaw_law_726 : decode bLaw_law 726 = .ok (.aload_n 2, 1) := by decide +kernel
theorem dLaw_law_727 : decode bLaw_law 727 = .ok (.aload_n 0, 1) := by decide +kernel
theorem dLaw_law_728 : decode bLaw_law 728 = .ok (.iload 4, 2) := by decide +kernel
theorem dLaw_law_730 : decode bLaw_law 730 = .ok (.iconst 1, 1) := by decide +kernel
theorem dLaw_law_731 : decode bLaw_law 731 = .ok (.iadd, 1) := by decide +kernel
theorem dLaw_law_732 : decode bLaw_law 732 = .ok (.iaload, 1) := by decide +kernel
theorem dLaw_law_733 : decode bLaw_law 733 = .ok (.ifCond .eq 7, 3) := by decide +kernel
theorem dLaw_law_736 : decode bLaw_law 736 = .ok (.iconst 1, 1) := by decide +kernel
theorem dLaw_law_737 : decode bLaw_law 737 = .ok (.goto 4, 3) := by decide +kernel
theorem dLaw_law_740 : decode bLaw_law 740 = .ok (.iconst 0, 1) := by decide +kernel
theorem dLaw_law_741 : decode bLaw_law 741 = .ok (.invokevirtual 96, 3) := by decide +kernel
theorem dLaw_law_744 : decode bLaw_law 744 = .ok (.if_icmp .eq 356, 3) := by decide +kernel
theorem dLaw_law_747 : decode bLaw_law 747 = .ok (.iconst 0, 1) := by decide +kernel
theorem dLaw_law_748 : decode bLaw_law 748 = .ok (.ireturn, 1) := by decide +kernel
theorem dLaw_law_749 : decode bLaw_law 749 = .ok (.aload_n 1, 1) := by decide +kernel
theorem dLaw_law_750 : decode bLaw_law 750 = .ok (.invokevirtual 97, 3) := by decide +kernel
theorem dLaw_law_753 : decode bLaw_law 753 = .ok (.aload_n 2, 1) := by decide +kernel
theorem dLaw_law_754 : decode bLaw_law 754 = .ok (.invokevirtual 101, 3) := by decide +kernel
theorem dLaw_law_757 : decode bLaw_law 757 = .ok (.if_icmp .eq 343, 3) := by decide +kernel
theorem dLaw_law_760 : decode bLaw_law 760 = .ok (.iconst 0, 1) := by decide +kernel
theorem dLaw_law_761 : decode bLaw_law 761 = .ok (.ireturn, 1) := by decide +kernel
theorem dLaw_law_762 : decode bLaw_law 762 = .ok (.aload_n 1, 1) := by decide +kernel
theorem dLaw_law_763 : decode bLaw_law 763 = .ok (.invokevirtual 102, 3) := by decide +kernel
theorem dLaw_law_766 : decode bLaw_law 766 = .ok (.aload_n 2, 1) := by decide +kernel
theorem dLaw_law_767 : decode bLaw_law 767 = .ok (.invokevirtual 105, 3) := by decide +kernel
theorem dLaw_law_770 : decode bLaw_law 770 = .ok (.if_icmp .eq 330, 3) := by decide +kernel
theorem dLaw_law_773 : decode bLaw_law 773 = .ok (.iconst 0, 1) := by decide +kernel
theorem dLaw_law_774 : decode bLaw_law 774 = .ok (.ireturn, 1) := by decide +kernel
theorem dLaw_law_775 : decode bLaw_law 775 = .ok (.aload_n 1, 1) := by decide +kernel
theorem dLaw_law_776 : decode bLaw_law 776 = .ok (.aload_n 3, 1) := by decide +kernel
theorem dLaw_law_777 : decode bLaw_law 777 = .ok (.invokestatic 106, 3) := by decide +kernel
theorem dLaw_law_780 : decode bLaw_law 780 = .ok (.istore 5, 2) := by decide +kernel
theorem dLaw_law_782 : decode bLaw_law 782 = .ok (.aload_n 2, 1) := by decide +kernel
theorem dLaw_law_783 : decode bLaw_law 783 = .ok (.invokevirtual 109, 3) := by decide +kernel
theorem dLaw_law_786 : decode bLaw_law 786 = .ok (.istore 6, 2) := by decide +kernel
theorem dLaw_law_788 : decode bLaw_law 788 = .ok (.aload_n 2, 1) := by decide +kernel
theorem dLaw_law_789 : decode bLaw_law 789 = .ok (.invokevirtual 68, 3) := by decide +kernel
theorem dLaw_law_792 : decode bLaw_law 792 = .ok (.iload 5, 2) := by decide +kernel
theorem dLaw_law_794 : decode bLaw_law 794 = .ok (.if_icmp .eq 5, 3) := by decide +kernel
theorem dLaw_law_797 : decode bLaw_law 797 = .ok (.iconst 0, 1) := by decide +kernel
theorem dLaw_law_798 : decode bLaw_law 798 = .ok (.ireturn, 1) := by decide +kernel
theorem dLaw_law_799 : decode bLaw_law 799 = .ok (.iload 5, 2) := by decide +kernel
theorem dLaw_law_801 : decode bLaw_law 801 = .ok (.ifCond .ne 15, 3) := by decide +kernel
theorem dLaw_law_804 : decode bLaw_law 804 = .ok (.aload_n 3, 1) := by decide +kernel
theorem dLaw_law_805 : decode bLaw_law 805 = .ok (.iconst 0, 1) := by decide +kernel
theorem dLaw_law_806 : decode bLaw_law 806 = .ok (.laload, 1) := by decide +kernel
theorem dLaw_law_807 : decode bLaw_law 807 = .ok (.iload 6, 2) := by decide +kernel
theorem dLaw_law_809 : decode bLaw_law 809 = .ok (.i2l, 1) := by decide +kernel
theorem dLaw_law_810 : decode bLaw_law 810 = .ok (.lcmp, 1) := by decide +kernel
theorem dLaw_law_811 : decode bLaw_law 811 = .ok (.ifCond .eq 5, 3) := by decide +kernel
theorem dLaw_law_814 : decode bLaw_law 814 = .ok (.iconst 0, 1) := by decide +kernel
theorem dLaw_law_815 : decode bLaw_law 815 = .ok (.ireturn, 1) := by decide +kernel
theorem dLaw_law_816 : decode bLaw_law 816 = .ok (.goto 284, 3) := by decide +kernel
theorem dLaw_law_819 : decode bLaw_law 819 = .ok (.aload_n 1, 1) := by decide +kernel
theorem dLaw_law_820 : decode bLaw_law 820 = .ok (.aload_n 3, 1) := by decide +kernel
theorem dLaw_law_821 : decode bLaw_law 821 = .ok (.invokestatic 110, 3) := by decide +kernel
theorem dLaw_law_824 : decode bLaw_law 824 = .ok (.istore 5, 2) := by decide +kernel
theorem dLaw_law_826 : decode bLaw_law 826 = .ok (.aload_n 2, 1) := by decide +kernel
theorem dLaw_law_827 : decode bLaw_law 827 = .ok (.invokevirtual 112, 3) := by decide +kernel
theorem dLaw_law_830 : decode bLaw_law 830 = .ok (.istore 6, 2) := by decide +kernel
theorem dLaw_law_832 : decode bLaw_law 832 = .ok (.aload_n 2, 1) := by decide +kernel
theorem dLaw_law_833 : decode bLaw_law 833 = .ok (.invokevirtual 68, 3) := by decide +kernel
theorem dLaw_law_836 : decode bLaw_law 836 = .ok (.iload 5, 2) := by decide +kernel
theorem dLaw_law_838 : decode bLaw_law 838 = .ok (.if_icmp .eq 5, 3) := by decide +kernel
theorem dLaw_law_841 : decode bLaw_law 841 = .ok (.iconst 0, 1) := by decide +kernel
theorem dLaw_law_842 : decode bLaw_law 842 = .ok (.ireturn, 1) := by decide +kernel
theorem dLaw_law_843 : decode bLaw_law 843 = .ok (.iload 5, 2) := by decide +kernel
theorem dLaw_law_845 : decode bLaw_law 845 = .ok (.ifCond .ne 15, 3) := by decide +kernel
theorem dLaw_law_848 : decode bLaw_law 848 = .ok (.aload_n 3, 1) := by decide +kernel
theorem dLaw_law_849 : decode bLaw_law 849 = .ok (.iconst 0, 1) := by decide +kernel
theorem dLaw_law_850 : decode bLaw_law 850 = .ok (.laload, 1) := by decide +kernel
theorem dLaw_law_851 : decode bLaw_law 851 = .ok (.iload 6, 2) := by decide +kernel
theorem dLaw_law_853 : decode bLaw_law 853 = .ok (.i2l, 1) := by decide +kernel
theorem dLaw_law_854 : decode bLaw_law 854 = .ok (.lcmp, 1) := by decide +kernel
theorem dLaw_law_855 : decode bLaw_law 855 = .ok (.ifCond .eq 5, 3) := by decide +kernel
theorem dLaw_law_858 : decode bLaw_law 858 = .ok (.iconst 0, 1) := by decide +kernel
theorem dLaw_law_859 : decode bLaw_law 859 = .ok (.ireturn, 1) := by decide +kernel
theorem dLaw_law_860 : decode bLaw_law 860 = .ok (.goto 240, 3) := by decide +kernel
theorem dLaw_law_863 : decode bLaw_law 863 = .ok (.aload_n 1, 1) := by decide +kernel
theorem dLaw_law_864 : decode bLaw_law 864 = .ok (.aload_n 0, 1) := by decide +kernel
theorem dLaw_law_865 : decode bLaw_law 865 = .ok (.iload 4, 2) := by decide +kernel
theorem dLaw_law_867 : decode bLaw_law 867 = .ok (.iconst 1, 1) := by decide +kernel
theorem dLaw_law_868 : decode bLaw_law 868 = .ok (.iadd, 1) := by decide +kernel
theorem dLaw_law_869 : decode bLaw_law 869 = .ok (.iaload, 1) := by decide +kernel
theorem dLaw_law_870 : decode bLaw_law 870 = .ok (.aload_n 0, 1) := by decide +kernel
theorem dLaw_law_871 : decode bLaw_law 871 = .ok (.iload 4, 2) := by decide +kernel
theorem dLaw_law_873 : decode bLaw_law 873 = .ok (.iconst 2, 1) := by decide +kernel
theorem dLaw_law_874 : decode bLaw_law 874 = .ok (.iadd, 1) := by decide +kernel
theorem dLaw_law_875 : decode bLaw_law 875 = .ok (.iaload, 1) := by decide +kernel
theorem dLaw_law_876 : decode bLaw_law 876 = .ok (.ifCond .eq 7, 3) := by decide +kernel
theorem dLaw_law_879 : decode bLaw_law 879 = .ok (.iconst 1, 1) := by decide +kernel
theorem dLaw_law_880 : decode bLaw_law 880 = .ok (.goto 4, 3) := by decide +kernel
theorem dLaw_law_883 : decode bLaw_law 883 = .ok (.iconst 0, 1) := by decide +kernel
theorem dLaw_law_884 : decode bLaw_law 884 = .ok (.aload_n 3, 1) := by decide +kernel
theorem dLaw_law_885 : decode bLaw_law 885 = .ok (.invokestatic 113, 3) := by decide +kernel
theorem dLaw_law_888 : decode bLaw_law 888 = .ok (.istore 5, 2) := by decide +kernel
theorem dLaw_law_890 : decode bLaw_law 890 = .ok (.aload_n 2, 1) := by decide +kernel
theorem dLaw_law_891 : decode bLaw_law 891 = .ok (.aload_n 0, 1) := by decide +kernel
theorem dLaw_law_892 : decode bLaw_law 892 = .ok (.iload 4, 2) := by decide +kernel
theorem dLaw_law_894 : decode bLaw_law 894 = .ok (.iconst 1, 1) := by decide +kernel
theorem dLaw_law_895 : decode bLaw_law 895 = .ok (.iadd, 1) := by decide +kernel
theorem dLaw_law_896 : decode bLaw_law 896 = .ok (.iaload, 1) := by decide +kernel
theorem dLaw_law_897 : decode bLaw_law 897 = .ok (.aload_n 0, 1) := by decide +kernel
theorem dLaw_law_898 : decode bLaw_law 898 = .ok (.iload 4, 2) := by decide +kernel
theorem dLaw_law_900 : decode bLaw_law 900 = .ok (.iconst 2, 1) := by decide +kernel
theorem dLaw_law_901 : decode bLaw_law 901 = .ok (.iadd, 1) := by decide +kernel
theorem dLaw_law_902 : decode bLaw_law 902 = .ok (.iaload, 1) := by decide +kernel
theorem dLaw_law_903 : decode bLaw_law 903 = .ok (.ifCond .eq 7, 3) := by decide +kernel
theorem dLaw_law_906 : decode bLaw_law 906 = .ok (.iconst 1, 1) := by decide +kernel
theorem dLaw_law_907 : decode bLaw_law 907 = .ok (.goto 4, 3) := by decide +kernel
theorem dLaw_law_910 : decode bLaw_law 910 = .ok (.iconst 0, 1) := by decide +kernel
theorem dLaw_law_911 : decode bLaw_law 911 = .ok (.invokevirtual 116, 3) := by decide +kernel
theorem dLaw_law_914 : decode bLaw_law 914 = .ok (.istore 6, 2) := by decide +kernel
theorem dLaw_law_916 : decode bLaw_law 916 = .ok (.aload_n 2, 1) := by decide +kernel
theorem dLaw_law_917 : decode bLaw_law 917 = .ok (.invokevirtual 68, 3) := by decide +kernel
theorem dLaw_law_920 : decode bLaw_law 920 = .ok (.iload 5, 2) := by decide +kernel
theorem dLaw_law_922 : decode bLaw_law 922 = .ok (.if_icmp .eq 5, 3) := by decide +kernel
theorem dLaw_law_925 : decode bLaw_law 925 = .ok (.iconst 0, 1) := by decide +kernel
theorem dLaw_law_926 : decode bLaw_law 926 = .ok (.ireturn, 1) := by decide +kernel
theorem dLaw_law_927 : decode bLaw_law 927 = .ok (.iload 5, 2) := by decide +kernel
theorem dLaw_law_929 : decode bLaw_law 929 = .ok (.ifCond .ne 15, 3) := by decide +kernel
theorem dLaw_law_932 : decode bLaw_law 932 = .ok (.aload_n 3, 1) := by decide +kernel
theorem dLaw_law_933 : decode bLaw_law 933 = .ok (.iconst 0, 1) := by decide +kernel
theorem dLaw_law_934 : decode bLaw_law 934 = .ok (.laload, 1) := by decide +kernel
theorem dLaw_law_935 : decode bLaw_law 935 = .ok (.iload 6, 2) := by decide +kernel
theorem dLaw_law_937 : decode bLaw_law 937 = .ok (.i2l, 1) := by decide +kernel
theorem dLaw_law_938 : decode bLaw_law 938 = .ok (.lcmp, 1) := by decide +kernel
theorem dLaw_law_939 : decode bLaw_law 939 = .ok (.ifCond .eq 5, 3) := by decide +kernel
theorem dLaw_law_942 : decode bLaw_law 942 = .ok (.iconst 0, 1) := by decide +kernel
theorem dLaw_law_943 : decode bLaw_law 943 = .ok (.ireturn, 1) := by decide +kernel
theorem dLaw_law_944 : decode bLaw_law 944 = .ok (.goto 156, 3) := by decide +kernel
theorem dLaw_law_947 : decode bLaw_law 947 = .ok (.aload_n 1, 1) := by decide +kernel
theorem dLaw_law_948 : decode bLaw_law 948 = .ok (.aload_n 0, 1) := by decide +kernel
theorem dLaw_law_949 : decode bLaw_law 949 = .ok (.iload 4, 2) := by decide +kernel
theorem dLaw_law_951 : decode bLaw_law 951 = .ok (.iconst 1, 1) := by decide +kernel
theorem dLaw_law_952 : decode bLaw_law 952 = .ok (.iadd, 1) := by decide +kernel
theorem dLaw_law_953 : decode bLaw_law 953 = .ok (.iaload, 1) := by decide +kernel
theorem dLaw_law_954 : decode bLaw_law 954 = .ok (.aload_n 0, 1) := by decide +kernel
theorem dLaw_law_955 : decode bLaw_law 955 = .ok (.iload 4, 2) := by decide +kernel
theorem dLaw_law_957 : decode bLaw_law 957 = .ok (.iconst 2, 1) := by decide +kernel
theorem dLaw_law_958 : decode bLaw_law 958 = .ok (.iadd, 1) := by decide +kernel
theorem dLaw_law_959 : decode bLaw_law 959 = .ok (.iaload, 1) := by decide +kernel
theorem dLaw_law_960 : decode bLaw_law 960 = .ok (.aload_n 0, 1) := by decide +kernel
theorem dLaw_law_961 : decode bLaw_law 961 = .ok (.iload 4, 2) := by decide +kernel
theorem dLaw_law_963 : decode bLaw_law 963 = .ok (.iconst 3, 1) := by decide +kernel
theorem dLaw_law_964 : decode bLaw_law 964 = .ok (.iadd, 1) := by decide +kernel
theorem dLaw_law_965 : decode bLaw_law 965 = .ok (.iaload, 1) := by decide +kernel
theorem dLaw_law_966 : decode bLaw_law 966 = .ok (.ifCond .eq 7, 3) := by decide +kernel
theorem dLaw_law_969 : decode bLaw_law 969 = .ok (.iconst 1, 1) := by decide +kernel
theorem dLaw_law_970 : decode bLaw_law 970 = .ok (.goto 4, 3) := by decide +kernel
theorem dLaw_law_973 : decode bLaw_law 973 = .ok (.iconst 0, 1) := by decide +kernel
theorem dLaw_law_974 : decode bLaw_law 974 = .ok (.aload_n 3, 1) := by decide +kernel
theorem dLaw_law_975 : decode bLaw_law 975 = .ok (.invokestatic 117, 3) := by decide +kernel
theorem dLaw_law_978 : decode bLaw_law 978 = .ok (.istore 5, 2) := by decide +kernel
theorem dLaw_law_980 : decode bLaw_law 980 = .ok (.aload_n 2, 1) := by decide +kernel
theorem dLaw_law_981 : decode bLaw_law 981 = .ok (.aload_n 0, 1) := by decide +kernel
theorem dLaw_law_982 : decode bLaw_law 982 = .ok (.iload 4, 2) := by decide +kernel
theorem dLaw_law_984 : decode bLaw_law 984 = .ok (.iconst 1, 1) := by decide +kernel
theorem dLaw_law_985 : decode bLaw_law 985 = .ok (.iadd, 1) := by decide +kernel
theorem dLaw_law_986 : decode bLaw_law 986 = .ok (.iaload, 1) := by decide +kernel
theorem dLaw_law_987 : decode bLaw_law 987 = .ok (.aload_n 0, 1) := by decide +kernel
theorem dLaw_law_988 : decode bLaw_law 988 = .ok (.iload 4, 2) := by decide +kernel
theorem dLaw_law_990 : decode bLaw_law 990 = .ok (.iconst 2, 1) := by decide +kernel
theorem dLaw_law_991 : decode bLaw_law 991 = .ok (.iadd, 1) := by decide +kernel
theorem dLaw_law_992 : decode bLaw_law 992 = .ok (.iaload, 1) := by decide +kernel
theorem dLaw_law_993 : decode bLaw_law 993 = .ok (.aload_n 0, 1) := by decide +kernel
theorem dLaw_law_994 : decode bLaw_law 994 = .ok (.iload 4, 2) := by decide +kernel
theorem dLaw_law_996 : decode bLaw_law 996 = .ok (.iconst 3, 1) := by decide +kernel
theorem dLaw_law_997 : decode bLaw_law 997 = .ok (.iadd, 1) := by decide +kernel
theorem dLaw_law_998 : decode bLaw_law 998 = .ok (.iaload, 1) := by decide +kernel
theorem dLaw_law_999 : decode bLaw_law 999 = .ok (.ifCond .eq 7, 3) := by decide +kernel
theorem dLaw_law_1002 : decode bLaw_law 1002 = .ok (.iconst 1, 1) := by decide +kernel
theorem dLaw_law_1003 : decode bLaw_law 1003 = .ok (.goto 4, 3) := by decide +kernel
theorem dLaw_law_1006 : decode bLaw_law 1006 = .ok (.iconst 0, 1) := by decide +kernel
theorem dLaw_law_1007 : decode bLaw_law 1007 = .ok (.invokevirtual 120, 3) := by decide +kernel
theorem dLaw_law_1010 : decode bLaw_law 1010 = .ok (.istore 6, 2) := by decide +kernel
theorem dLaw_law_1012 : decode bLaw_law 1012 = .ok (.aload_n 2, 1) := by decide +kernel
theorem dLaw_law_1013 : decode bLaw_law 1013 = .ok (.invokevirtual 68, 3) := by decide +kernel
theorem dLaw_law_1016 : decode bLaw_law 1016 = .ok (.iload 5, 2) := by decide +kernel
theorem dLaw_law_1018 : decode bLaw_law 1018 = .ok (.if_icmp .eq 5, 3) := by decide +kernel
theorem dLaw_law_1021 : decode bLaw_law 1021 = .ok (.iconst 0, 1) := by decide +kernel
theorem dLaw_law_1022 : decode bLaw_law 1022 = .ok (.ireturn, 1) := by decide +kernel
theorem dLaw_law_1023 : decode bLaw_law 1023 = .ok (.iload 5, 2) := by decide +kernel
theorem dLaw_law_1025 : decode bLaw_law 1025 = .ok (.ifCond .ne 15, 3) := by decide +kernel
theorem dLaw_law_1028 : decode bLaw_law 1028 = .ok (.aload_n 3, 1) := by decide +kernel
theorem dLaw_law_1029 : decode bLaw_law 1029 = .ok (.iconst 0, 1) := by decide +kernel
theorem dLaw_law_1030 : decode bLaw_law 1030 = .ok (.laload, 1) := by decide +kernel
theorem dLaw_law_1031 : decode bLaw_law 1031 = .ok (.iload 6, 2) := by decide +kernel
theorem dLaw_law_1033 : decode bLaw_law 1033 = .ok (.i2l, 1) := by decide +kernel
theorem dLaw_law_1034 : decode bLaw_law 1034 = .ok (.lcmp, 1) := by decide +kernel
theorem dLaw_law_1035 : decode bLaw_law 1035 = .ok (.ifCond .eq 5, 3) := by decide +kernel
theorem dLaw_law_1038 : decode bLaw_law 1038 = .ok (.iconst 0, 1) := by decide +kernel
theorem dLaw_law_1039 : decode bLaw_law 1039 = .ok (.ireturn, 1) := by decide +kernel
theorem dLaw_law_1040 : decode bLaw_law 1040 = .ok (.goto 60, 3) := by decide +kernel
theorem dLaw_law_1043 : decode bLaw_law 1043 = .ok (.aload_n 1, 1) := by decide +kernel
theorem dLaw_law_1044 : decode bLaw_law 1044 = .ok (.aload_n 3, 1) := by decide +kernel
theorem dLaw_law_1045 : decode bLaw_law 1045 = .ok (.invokestatic 121, 3) := by decide +kernel
theorem dLaw_law_1048 : decode bLaw_law 1048 = .ok (.istore 5, 2) := by decide +kernel
theorem dLaw_law_1050 : decode bLaw_law 1050 = .ok (.aload_n 2, 1) := by decide +kernel
theorem dLaw_law_1051 : decode bLaw_law 1051 = .ok (.invokevirtual 123, 3) := by decide +kernel
theorem dLaw_law_1054 : decode bLaw_law 1054 = .ok (.istore 6, 2) := by decide +kernel
theorem dLaw_law_1056 : decode bLaw_law 1056 = .ok (.aload_n 2, 1) := by decide +kernel
theorem dLaw_law_1057 : decode bLaw_law 1057 = .ok (.invokevirtual 68, 3) := by decide +kernel
theorem dLaw_law_1060 : decode bLaw_law 1060 = .ok (.iload 5, 2) := by decide +kernel
theorem dLaw_law_1062 : decode bLaw_law 1062 = .ok (.if_icmp .eq 5, 3) := by decide +kernel
theorem dLaw_law_1065 : decode bLaw_law 1065 = .ok (.iconst 0, 1) := by decide +kernel
theorem dLaw_law_1066 : decode bLaw_law 1066 = .ok (.ireturn, 1) := by decide +kernel
theorem dLaw_law_1067 : decode bLaw_law 1067 = .ok (.iload 5, 2) := by decide +kernel
theorem dLaw_law_1069 : decode bLaw_law 1069 = .ok (.ifCond .ne 15, 3) := by decide +kernel
theorem dLaw_law_1072 : decode bLaw_law 1072 = .ok (.aload_n 3, 1) := by decide +kernel
theorem dLaw_law_1073 : decode bLaw_law 1073 = .ok (.iconst 0, 1) := by decide +kernel
theorem dLaw_law_1074 : decode bLaw_law 1074 = .ok (.laload, 1) := by decide +kernel
theorem dLaw_law_1075 : decode bLaw_law 1075 = .ok (.iload 6, 2) := by decide +kernel
theorem dLaw_law_1077 : decode bLaw_law 1077 = .ok (.i2l, 1) := by decide +kernel
theorem dLaw_law_1078 : decode bLaw_law 1078 = .ok (.lcmp, 1) := by decide +kernel
theorem dLaw_law_1079 : decode bLaw_law 1079 = .ok (.ifCond .eq 5, 3) := by decide +kernel
theorem dLaw_law_1082 : decode bLaw_law 1082 = .ok (.iconst 0, 1) := by decide +kernel
theorem dLaw_law_1083 : decode bLaw_law 1083 = .ok (.ireturn, 1) := by decide +kernel
theorem dLaw_law_1084 : decode bLaw_law 1084 = .ok (.goto 16, 3) := by decide +kernel
theorem dLaw_law_1087 : decode bLaw_law 1087 = .ok (.aload_n 1, 1) := by decide +kernel
theorem dLaw_law_1088 : decode bLaw_law 1088 = .ok (.invokevirtual 124, 3) := by decide +kernel
theorem dLaw_law_1091 : decode bLaw_law 1091 = .ok (.aload_n 2, 1) := by decide +kernel
theorem dLaw_law_1092 : decode bLaw_law 1092 = .ok (.invokevirtual 127, 3) := by decide +kernel
theorem dLaw_law_1095 : decode bLaw_law 1095 = .ok (.if_icmp .eq 5, 3) := by decide +kernel
theorem dLaw_law_1098 : decode bLaw_law 1098 = .ok (.iconst 0, 1) := by decide +kernel
theorem dLaw_law_1099 : decode bLaw_law 1099 = .ok (.ireturn, 1) := by decide +kernel
theorem dLaw_law_1100 : decode bLaw_law 1100 = .ok (.iinc 4 5, 3) := by decide +kernel
theorem dLaw_law_1103 : decode bLaw_law 1103 = .ok (.goto (-1080), 3) := by decide +kernel
theorem dLaw_law_1106 : decode bLaw_law 1106 = .ok (.iconst 1, 1) := by decide +kernel
theorem dLaw_law_1107 : decode bLaw_law 1107 = .ok (.ireturn, 1) := by decide +kernel
