theorem dPW_init_0 : decode bPW_init 0 = .ok (.aload_n 0, 1) := by decide +kernel
theorem dPW_init_1 : decode bPW_init 1 = .ok (.invokespecial 3, 3) := by decide +kernel
theorem dPW_init_4 : decode bPW_init 4 = .ok (.aload_n 0, 1) := by decide +kernel
theorem dPW_init_5 : decode bPW_init 5 = .ok (.new 9, 3) := by decide +kernel
theorem dPW_init_8 : decode bPW_init 8 = .ok (.dup, 1) := by decide +kernel
theorem dPW_init_9 : decode bPW_init 9 = .ok (.invokespecial 11, 3) := by decide +kernel
theorem dPW_init_12 : decode bPW_init 12 = .ok (.putfield 12, 3) := by decide +kernel
theorem dPW_init_15 : decode bPW_init 15 = .ok (.aload_n 0, 1) := by decide +kernel
theorem dPW_init_16 : decode bPW_init 16 = .ok (.new 16, 3) := by decide +kernel
theorem dPW_init_19 : decode bPW_init 19 = .ok (.dup, 1) := by decide +kernel
theorem dPW_init_20 : decode bPW_init 20 = .ok (.invokespecial 18, 3) := by decide +kernel
theorem dPW_init_23 : decode bPW_init 23 = .ok (.putfield 19, 3) := by decide +kernel
theorem dPW_init_26 : decode bPW_init 26 = .ok (.aload_n 0, 1) := by decide +kernel
theorem dPW_init_27 : decode bPW_init 27 = .ok (.new 23, 3) := by decide +kernel
theorem dPW_init_30 : decode bPW_init 30 = .ok (.dup, 1) := by decide +kernel
theorem dPW_init_31 : decode bPW_init 31 = .ok (.invokespecial 25, 3) := by decide +kernel
theorem dPW_init_34 : decode bPW_init 34 = .ok (.putfield 26, 3) := by decide +kernel
theorem dPW_init_37 : decode bPW_init 37 = .ok (.aload_n 0, 1) := by decide +kernel
theorem dPW_init_38 : decode bPW_init 38 = .ok (.new 30, 3) := by decide +kernel
theorem dPW_init_41 : decode bPW_init 41 = .ok (.dup, 1) := by decide +kernel
theorem dPW_init_42 : decode bPW_init 42 = .ok (.iconst 4, 1) := by decide +kernel
theorem dPW_init_43 : decode bPW_init 43 = .ok (.invokespecial 32, 3) := by decide +kernel
theorem dPW_init_46 : decode bPW_init 46 = .ok (.putfield 35, 3) := by decide +kernel
theorem dPW_init_49 : decode bPW_init 49 = .ok (.aload_n 0, 1) := by decide +kernel
theorem dPW_init_50 : decode bPW_init 50 = .ok (.new 30, 3) := by decide +kernel
theorem dPW_init_53 : decode bPW_init 53 = .ok (.dup, 1) := by decide +kernel
theorem dPW_init_54 : decode bPW_init 54 = .ok (.iconst 5, 1) := by decide +kernel
theorem dPW_init_55 : decode bPW_init 55 = .ok (.invokespecial 32, 3) := by decide +kernel
theorem dPW_init_58 : decode bPW_init 58 = .ok (.putfield 39, 3) := by decide +kernel
theorem dPW_init_61 : decode bPW_init 61 = .ok (.aload_n 0, 1) := by decide +kernel
theorem dPW_init_62 : decode bPW_init 62 = .ok (.new 42, 3) := by decide +kernel
theorem dPW_init_65 : decode bPW_init 65 = .ok (.dup, 1) := by decide +kernel
theorem dPW_init_66 : decode bPW_init 66 = .ok (.invokespecial 44, 3) := by decide +kernel
theorem dPW_init_69 : decode bPW_init 69 = .ok (.putfield 45, 3) := by decide +kernel
theorem dPW_init_72 : decode bPW_init 72 = .ok (.aload_n 0, 1) := by decide +kernel
theorem dPW_init_73 : decode bPW_init 73 = .ok (.new 49, 3) := by decide +kernel
theorem dPW_init_76 : decode bPW_init 76 = .ok (.dup, 1) := by decide +kernel
theorem dPW_init_77 : decode bPW_init 77 = .ok (.invokespecial 51, 3) := by decide +kernel
theorem dPW_init_80 : decode bPW_init 80 = .ok (.putfield 52, 3) := by decide +kernel
theorem dPW_init_83 : decode bPW_init 83 = .ok (.aload_n 0, 1) := by decide +kernel
theorem dPW_init_84 : decode bPW_init 84 = .ok (.new 49, 3) := by decide +kernel
theorem dPW_init_87 : decode bPW_init 87 = .ok (.dup, 1) := by decide +kernel
theorem dPW_init_88 : decode bPW_init 88 = .ok (.invokespecial 51, 3) := by decide +kernel
theorem dPW_init_91 : decode bPW_init 91 = .ok (.putfield 56, 3) := by decide +kernel
theorem dPW_init_94 : decode bPW_init 94 = .ok (.aload_n 0, 1) := by decide +kernel
theorem dPW_init_95 : decode bPW_init 95 = .ok (.new 59, 3) := by decide +kernel
theorem dPW_init_98 : decode bPW_init 98 = .ok (.dup, 1) := by decide +kernel
theorem dPW_init_99 : decode bPW_init 99 = .ok (.aload_n 0, 1) := by decide +kernel
theorem dPW_init_100 : decode bPW_init 100 = .ok (.getfield 12, 3) := by decide +kernel
theorem dPW_init_103 : decode bPW_init 103 = .ok (.aload_n 0, 1) := by decide +kernel
theorem dPW_init_104 : decode bPW_init 104 = .ok (.getfield 19, 3) := by decide +kernel
theorem dPW_init_107 : decode bPW_init 107 = .ok (.invokespecial 61, 3) := by decide +kernel
theorem dPW_init_110 : decode bPW_init 110 = .ok (.putfield 64, 3) := by decide +kernel
theorem dPW_init_113 : decode bPW_init 113 = .ok (.aload_n 0, 1) := by decide +kernel
theorem dPW_init_114 : decode bPW_init 114 = .ok (.new 68, 3) := by decide +kernel
theorem dPW_init_117 : decode bPW_init 117 = .ok (.dup, 1) := by decide +kernel
theorem dPW_init_118 : decode bPW_init 118 = .ok (.aload_n 0, 1) := by decide +kernel
theorem dPW_init_119 : decode bPW_init 119 = .ok (.getfield 12, 3) := by decide +kernel
theorem dPW_init_122 : decode bPW_init 122 = .ok (.aload_n 0, 1) := by decide +kernel
theorem dPW_init_123 : decode bPW_init 123 = .ok (.getfield 19, 3) := by decide +kernel
theorem dPW_init_126 : decode bPW_init 126 = .ok (.aload_n 0, 1) := by decide +kernel
theorem dPW_init_127 : decode bPW_init 127 = .ok (.getfield 56, 3) := by decide +kernel
theorem dPW_init_130 : decode bPW_init 130 = .ok (.invokespecial 70, 3) := by decide +kernel
theorem dPW_init_133 : decode bPW_init 133 = .ok (.putfield 73, 3) := by decide +kernel
theorem dPW_init_136 : decode bPW_init 136 = .ok (.return_, 1) := by decide +kernel
theorem dPW_pair_0 : decode bPW_pair 0 = .ok (.iload_n 1, 1) := by decide +kernel
theorem dPW_pair_1 : decode bPW_pair 1 = .ok (.invokestatic 77, 3) := by decide +kernel
theorem dPW_pair_4 : decode bPW_pair 4 = .ok (.ifCond .eq 10, 3) := by decide +kernel
theorem dPW_pair_7 : decode bPW_pair 7 = .ok (.iload_n 2, 1) := by decide +kernel
theorem dPW_pair_8 : decode bPW_pair 8 = .ok (.invokestatic 77, 3) := by decide +kernel
theorem dPW_pair_11 : decode bPW_pair 11 = .ok (.ifCond .ne 13, 3) := by decide +kernel
theorem dPW_pair_14 : decode bPW_pair 14 = .ok (.new 81, 3) := by decide +kernel
theorem dPW_pair_17 : decode bPW_pair 17 = .ok (.dup, 1) := by decide +kernel
theorem dPW_pair_18 : decode bPW_pair 18 = .ok (.ldc 83, 2) := by decide +kernel
theorem dPW_pair_20 : decode bPW_pair 20 = .ok (.invokespecial 85, 3) := by decide +kernel
theorem dPW_pair_23 : decode bPW_pair 23 = .ok (.athrow, 1) := by decide +kernel
theorem dPW_pair_24 : decode bPW_pair 24 = .ok (.iload_n 1, 1) := by decide +kernel
theorem dPW_pair_25 : decode bPW_pair 25 = .ok (.ifCond .ne 7, 3) := by decide +kernel
theorem dPW_pair_28 : decode bPW_pair 28 = .ok (.iload_n 2, 1) := by decide +kernel
theorem dPW_pair_29 : decode bPW_pair 29 = .ok (.ifCond .eq 15, 3) := by decide +kernel
theorem dPW_pair_32 : decode bPW_pair 32 = .ok (.aload_n 0, 1) := by decide +kernel
theorem dPW_pair_33 : decode bPW_pair 33 = .ok (.getfield 12, 3) := by decide +kernel
theorem dPW_pair_36 : decode bPW_pair 36 = .ok (.iload_n 1, 1) := by decide +kernel
theorem dPW_pair_37 : decode bPW_pair 37 = .ok (.iload_n 2, 1) := by decide +kernel
theorem dPW_pair_38 : decode bPW_pair 38 = .ok (.invokevirtual 88, 3) := by decide +kernel
theorem dPW_pair_41 : decode bPW_pair 41 = .ok (.ifCond .eq 13, 3) := by decide +kernel
theorem dPW_pair_44 : decode bPW_pair 44 = .ok (.new 81, 3) := by decide +kernel
theorem dPW_pair_47 : decode bPW_pair 47 = .ok (.dup, 1) := by decide +kernel
theorem dPW_pair_48 : decode bPW_pair 48 = .ok (.ldc 92, 2) := by decide +kernel
theorem dPW_pair_50 : decode bPW_pair 50 = .ok (.invokespecial 85, 3) := by decide +kernel
theorem dPW_pair_53 : decode bPW_pair 53 = .ok (.athrow, 1) := by decide +kernel
theorem dPW_pair_54 : decode bPW_pair 54 = .ok (.aload_n 0, 1) := by decide +kernel
theorem dPW_pair_55 : decode bPW_pair 55 = .ok (.getfield 12, 3) := by decide +kernel
theorem dPW_pair_58 : decode bPW_pair 58 = .ok (.iload_n 1, 1) := by decide +kernel
theorem dPW_pair_59 : decode bPW_pair 59 = .ok (.invokevirtual 94, 3) := by decide +kernel
theorem dPW_pair_62 : decode bPW_pair 62 = .ok (.ifCond .ne 13, 3) := by decide +kernel
theorem dPW_pair_65 : decode bPW_pair 65 = .ok (.new 97, 3) := by decide +kernel
theorem dPW_pair_68 : decode bPW_pair 68 = .ok (.dup, 1) := by decide +kernel
theorem dPW_pair_69 : decode bPW_pair 69 = .ok (.ldc 99, 2) := by decide +kernel
theorem dPW_pair_71 : decode bPW_pair 71 = .ok (.invokespecial 101, 3) := by decide +kernel
theorem dPW_pair_74 : decode bPW_pair 74 = .ok (.athrow, 1) := by decide +kernel
theorem dPW_pair_75 : decode bPW_pair 75 = .ok (.aload_n 0, 1) := by decide +kernel
theorem dPW_pair_76 : decode bPW_pair 76 = .ok (.getfield 52, 3) := by decide +kernel
theorem dPW_pair_79 : decode bPW_pair 79 = .ok (.invokevirtual 102, 3) := by decide +kernel
theorem dPW_pair_82 : decode bPW_pair 82 = .ok (.aload_n 0, 1) := by decide +kernel
theorem dPW_pair_83 : decode bPW_pair 83 = .ok (.getfield 12, 3) := by decide +kernel
theorem dPW_pair_86 : decode bPW_pair 86 = .ok (.iload_n 1, 1) := by decide +kernel
theorem dPW_pair_87 : decode bPW_pair 87 = .ok (.iload_n 2, 1) := by decide +kernel
theorem dPW_pair_88 : decode bPW_pair 88 = .ok (.invokevirtual 105, 3) := by decide +kernel
theorem dPW_pair_91 : decode bPW_pair 91 = .ok (.istore_n 3, 1) := by decide +kernel
theorem dPW_pair_92 : decode bPW_pair 92 = .ok (.aload_n 0, 1) := by decide +kernel
theorem dPW_pair_93 : decode bPW_pair 93 = .ok (.getfield 19, 3) := by decide +kernel
theorem dPW_pair_96 : decode bPW_pair 96 = .ok (.aload_n 0, 1) := by decide +kernel
theorem dPW_pair_97 : decode bPW_pair 97 = .ok (.getfield 12, 3) := by decide +kernel
theorem dPW_pair_100 : decode bPW_pair 100 = .ok (.invokevirtual 109, 3) := by decide +kernel
theorem dPW_pair_103 : decode bPW_pair 103 = .ok (.iload_n 3, 1) := by decide +kernel
theorem dPW_pair_104 : decode bPW_pair 104 = .ok (.ireturn, 1) := by decide +kernel
theorem dPW_rule_0 : decode bPW_rule 0 = .ok (.iload_n 1, 1) := by decide +kernel
theorem dPW_rule_1 : decode bPW_rule 1 = .ok (.ifCond .lt 23, 3) := by decide +kernel
theorem dPW_rule_4 : decode bPW_rule 4 = .ok (.iload_n 1, 1) := by decide +kernel
theorem dPW_rule_5 : decode bPW_rule 5 = .ok (.iconst 4, 1) := by decide +kernel
theorem dPW_rule_6 : decode bPW_rule 6 = .ok (.if_icmp .ge 18, 3) := by decide +kernel
theorem dPW_rule_9 : decode bPW_rule 9 = .ok (.iload_n 2, 1) := by decide +kernel
theorem dPW_rule_10 : decode bPW_rule 10 = .ok (.ifCond .lt 14, 3) := by decide +kernel
theorem dPW_rule_13 : decode bPW_rule 13 = .ok (.iload_n 2, 1) := by decide +kernel
theorem dPW_rule_14 : decode bPW_rule 14 = .ok (.aload_n 0, 1) := by decide +kernel
theorem dPW_rule_15 : decode bPW_rule 15 = .ok (.getfield 12, 3) := by decide +kernel
theorem dPW_rule_18 : decode bPW_rule 18 = .ok (.invokevirtual 113, 3) := by decide +kernel
theorem dPW_rule_21 : decode bPW_rule 21 = .ok (.if_icmp .lt 13, 3) := by decide +kernel
theorem dPW_rule_24 : decode bPW_rule 24 = .ok (.new 81, 3) := by decide +kernel
theorem dPW_rule_27 : decode bPW_rule 27 = .ok (.dup, 1) := by decide +kernel
theorem dPW_rule_28 : decode bPW_rule 28 = .ok (.ldc 117, 2) := by decide +kernel
theorem dPW_rule_30 : decode bPW_rule 30 = .ok (.invokespecial 85, 3) := by decide +kernel
theorem dPW_rule_33 : decode bPW_rule 33 = .ok (.athrow, 1) := by decide +kernel
theorem dPW_rule_34 : decode bPW_rule 34 = .ok (.aload_n 0, 1) := by decide +kernel
theorem dPW_rule_35 : decode bPW_rule 35 = .ok (.getfield 19, 3) := by decide +kernel
theorem dPW_rule_38 : decode bPW_rule 38 = .ok (.invokevirtual 119, 3) := by decide +kernel
theorem dPW_rule_41 : decode bPW_rule 41 = .ok (.iconst 4, 1) := by decide +kernel
theorem dPW_rule_42 : decode bPW_rule 42 = .ok (.if_icmp .lt 13, 3) := by decide +kernel
theorem dPW_rule_45 : decode bPW_rule 45 = .ok (.new 97, 3) := by decide +kernel
theorem dPW_rule_48 : decode bPW_rule 48 = .ok (.dup, 1) := by decide +kernel
theorem dPW_rule_49 : decode bPW_rule 49 = .ok (.ldc 120, 2) := by decide +kernel
theorem dPW_rule_51 : decode bPW_rule 51 = .ok (.invokespecial 101, 3) := by decide +kernel
theorem dPW_rule_54 : decode bPW_rule 54 = .ok (.athrow, 1) := by decide +kernel
theorem dPW_rule_55 : decode bPW_rule 55 = .ok (.aload_n 0, 1) := by decide +kernel
theorem dPW_rule_56 : decode bPW_rule 56 = .ok (.getfield 52, 3) := by decide +kernel
theorem dPW_rule_59 : decode bPW_rule 59 = .ok (.invokevirtual 102, 3) := by decide +kernel
theorem dPW_rule_62 : decode bPW_rule 62 = .ok (.aload_n 0, 1) := by decide +kernel
theorem dPW_rule_63 : decode bPW_rule 63 = .ok (.getfield 19, 3) := by decide +kernel
theorem dPW_rule_66 : decode bPW_rule 66 = .ok (.iload_n 1, 1) := by decide +kernel
theorem dPW_rule_67 : decode bPW_rule 67 = .ok (.iload_n 2, 1) := by decide +kernel
theorem dPW_rule_68 : decode bPW_rule 68 = .ok (.invokevirtual 122, 3) := by decide +kernel
theorem dPW_rule_71 : decode bPW_rule 71 = .ok (.istore_n 3, 1) := by decide +kernel
theorem dPW_rule_72 : decode bPW_rule 72 = .ok (.aload_n 0, 1) := by decide +kernel
theorem dPW_rule_73 : decode bPW_rule 73 = .ok (.getfield 19, 3) := by decide +kernel
theorem dPW_rule_76 : decode bPW_rule 76 = .ok (.aload_n 0, 1) := by decide +kernel
theorem dPW_rule_77 : decode bPW_rule 77 = .ok (.getfield 12, 3) := by decide +kernel
theorem dPW_rule_80 : decode bPW_rule 80 = .ok (.invokevirtual 109, 3) := by decide +kernel
theorem dPW_rule_83 : decode bPW_rule 83 = .ok (.iload_n 3, 1) := by decide +kernel
theorem dPW_rule_84 : decode bPW_rule 84 = .ok (.ireturn, 1) := by decide +kernel
theorem dPW_context_0 : decode bPW_context 0 = .ok (.iload_n 1, 1) := by decide +kernel
theorem dPW_context_1 : decode bPW_context 1 = .ok (.ifCond .lt 14, 3) := by decide +kernel
theorem dPW_context_4 : decode bPW_context 4 = .ok (.iload_n 1, 1) := by decide +kernel
theorem dPW_context_5 : decode bPW_context 5 = .ok (.aload_n 0, 1) := by decide +kernel
theorem dPW_context_6 : decode bPW_context 6 = .ok (.getfield 19, 3) := by decide +kernel
theorem dPW_context_9 : decode bPW_context 9 = .ok (.invokevirtual 119, 3) := by decide +kernel
theorem dPW_context_12 : decode bPW_context 12 = .ok (.if_icmp .lt 13, 3) := by decide +kernel
theorem dPW_context_15 : decode bPW_context 15 = .ok (.new 81, 3) := by decide +kernel
theorem dPW_context_18 : decode bPW_context 18 = .ok (.dup, 1) := by decide +kernel
theorem dPW_context_19 : decode bPW_context 19 = .ok (.ldc 123, 2) := by decide +kernel
theorem dPW_context_21 : decode bPW_context 21 = .ok (.invokespecial 85, 3) := by decide +kernel
theorem dPW_context_24 : decode bPW_context 24 = .ok (.athrow, 1) := by decide +kernel
theorem dPW_context_25 : decode bPW_context 25 = .ok (.aload_n 0, 1) := by decide +kernel
theorem dPW_context_26 : decode bPW_context 26 = .ok (.getfield 19, 3) := by decide +kernel
theorem dPW_context_29 : decode bPW_context 29 = .ok (.iload_n 1, 1) := by decide +kernel
theorem dPW_context_30 : decode bPW_context 30 = .ok (.invokevirtual 125, 3) := by decide +kernel
theorem dPW_context_33 : decode bPW_context 33 = .ok (.iconst 2, 1) := by decide +kernel
theorem dPW_context_34 : decode bPW_context 34 = .ok (.if_icmp .lt 13, 3) := by decide +kernel
theorem dPW_context_37 : decode bPW_context 37 = .ok (.new 97, 3) := by decide +kernel
theorem dPW_context_40 : decode bPW_context 40 = .ok (.dup, 1) := by decide +kernel
theorem dPW_context_41 : decode bPW_context 41 = .ok (.ldc 129, 2) := by decide +kernel
theorem dPW_context_43 : decode bPW_context 43 = .ok (.invokespecial 101, 3) := by decide +kernel
theorem dPW_context_46 : decode bPW_context 46 = .ok (.athrow, 1) := by decide +kernel
theorem dPW_context_47 : decode bPW_context 47 = .ok (.aload_n 0, 1) := by decide +kernel
theorem dPW_context_48 : decode bPW_context 48 = .ok (.getfield 52, 3) := by decide +kernel
theorem dPW_context_51 : decode bPW_context 51 = .ok (.invokevirtual 102, 3) := by decide +kernel
theorem dPW_context_54 : decode bPW_context 54 = .ok (.aload_n 0, 1) := by decide +kernel
theorem dPW_context_55 : decode bPW_context 55 = .ok (.getfield 19, 3) := by decide +kernel
theorem dPW_context_58 : decode bPW_context 58 = .ok (.iload_n 1, 1) := by decide +kernel
theorem dPW_context_59 : decode bPW_context 59 = .ok (.iload_n 2, 1) := by decide +kernel
theorem dPW_context_60 : decode bPW_context 60 = .ok (.iload_n 3, 1) := by decide +kernel
theorem dPW_context_61 : decode bPW_context 61 = .ok (.invokevirtual 131, 3) := by decide +kernel
theorem dPW_context_64 : decode bPW_context 64 = .ok (.ireturn, 1) := by decide +kernel
theorem dPW_element_0 : decode bPW_element 0 = .ok (.iload_n 1, 1) := by decide +kernel
theorem dPW_element_1 : decode bPW_element 1 = .ok (.ifCond .lt 14, 3) := by decide +kernel
theorem dPW_element_4 : decode bPW_element 4 = .ok (.iload_n 1, 1) := by decide +kernel
theorem dPW_element_5 : decode bPW_element 5 = .ok (.aload_n 0, 1) := by decide +kernel
theorem dPW_element_6 : decode bPW_element 6 = .ok (.getfield 19, 3) := by decide +kernel
theorem dPW_element_9 : decode bPW_element 9 = .ok (.invokevirtual 119, 3) := by decide +kernel
theorem dPW_element_12 : decode bPW_element 12 = .ok (.if_icmp .lt 13, 3) := by decide +kernel
theorem dPW_element_15 : decode bPW_element 15 = .ok (.new 81, 3) := by decide +kernel
theorem dPW_element_18 : decode bPW_element 18 = .ok (.dup, 1) := by decide +kernel
theorem dPW_element_19 : decode bPW_element 19 = .ok (.ldc 123, 2) := by decide +kernel
theorem dPW_element_21 : decode bPW_element 21 = .ok (.invokespecial 85, 3) := by decide +kernel
theorem dPW_element_24 : decode bPW_element 24 = .ok (.athrow, 1) := by decide +kernel
theorem dPW_element_25 : decode bPW_element 25 = .ok (.iload_n 3, 1) := by decide +kernel
theorem dPW_element_26 : decode bPW_element 26 = .ok (.ifCond .lt 16, 3) := by decide +kernel
theorem dPW_element_29 : decode bPW_element 29 = .ok (.iload_n 3, 1) := by decide +kernel
theorem dPW_element_30 : decode bPW_element 30 = .ok (.iconst 1, 1) := by decide +kernel
theorem dPW_element_31 : decode bPW_element 31 = .ok (.aload_n 0, 1) := by decide +kernel
theorem dPW_element_32 : decode bPW_element 32 = .ok (.getfield 12, 3) := by decide +kernel
theorem dPW_element_35 : decode bPW_element 35 = .ok (.invokevirtual 113, 3) := by decide +kernel
theorem dPW_element_38 : decode bPW_element 38 = .ok (.ishl, 1) := by decide +kernel
theorem dPW_element_39 : decode bPW_element 39 = .ok (.if_icmp .lt 13, 3) := by decide +kernel
theorem dPW_element_42 : decode bPW_element 42 = .ok (.new 81, 3) := by decide +kernel
theorem dPW_element_45 : decode bPW_element 45 = .ok (.dup, 1) := by decide +kernel
theorem dPW_element_46 : decode bPW_element 46 = .ok (.ldc 135, 2) := by decide +kernel
theorem dPW_element_48 : decode bPW_element 48 = .ok (.invokespecial 85, 3) := by decide +kernel
theorem dPW_element_51 : decode bPW_element 51 = .ok (.athrow, 1) := by decide +kernel
theorem dPW_element_52 : decode bPW_element 52 = .ok (.aload_n 0, 1) := by decide +kernel
theorem dPW_element_53 : decode bPW_element 53 = .ok (.getfield 19, 3) := by decide +kernel
theorem dPW_element_56 : decode bPW_element 56 = .ok (.iload_n 1, 1) := by decide +kernel
theorem dPW_element_57 : decode bPW_element 57 = .ok (.invokevirtual 125, 3) := by decide +kernel
theorem dPW_element_60 : decode bPW_element 60 = .ok (.ifCond .ne 13, 3) := by decide +kernel
theorem dPW_element_63 : decode bPW_element 63 = .ok (.new 97, 3) := by decide +kernel
theorem dPW_element_66 : decode bPW_element 66 = .ok (.dup, 1) := by decide +kernel
theorem dPW_element_67 : decode bPW_element 67 = .ok (.ldc 137, 2) := by decide +kernel
theorem dPW_element_69 : decode bPW_element 69 = .ok (.invokespecial 101, 3) := by decide +kernel
theorem dPW_element_72 : decode bPW_element 72 = .ok (.athrow, 1) := by decide +kernel
theorem dPW_element_73 : decode bPW_element 73 = .ok (.aload_n 0, 1) := by decide +kernel
theorem dPW_element_74 : decode bPW_element 74 = .ok (.getfield 19, 3) := by decide +kernel
theorem dPW_element_77 : decode bPW_element 77 = .ok (.iload_n 1, 1) := by decide +kernel
theorem dPW_element_78 : decode bPW_element 78 = .ok (.invokevirtual 139, 3) := by decide +kernel
theorem dPW_element_81 : decode bPW_element 81 = .ok (.istore 5, 2) := by decide +kernel
theorem dPW_element_83 : decode bPW_element 83 = .ok (.iload_n 2, 1) := by decide +kernel
theorem dPW_element_84 : decode bPW_element 84 = .ok (.ifCond .eq 13, 3) := by decide +kernel
theorem dPW_element_87 : decode bPW_element 87 = .ok (.aload_n 0, 1) := by decide +kernel
theorem dPW_element_88 : decode bPW_element 88 = .ok (.getfield 19, 3) := by decide +kernel
theorem dPW_element_91 : decode bPW_element 91 = .ok (.getfield 142, 3) := by decide +kernel
theorem dPW_element_94 : decode bPW_element 94 = .ok (.goto 10, 3) := by decide +kernel
theorem dPW_element_97 : decode bPW_element 97 = .ok (.aload_n 0, 1) := by decide +kernel
theorem dPW_element_98 : decode bPW_element 98 = .ok (.getfield 19, 3) := by decide +kernel
theorem dPW_element_101 : decode bPW_element 101 = .ok (.getfield 146, 3) := by decide +kernel
theorem dPW_element_104 : decode bPW_element 104 = .ok (.astore 6, 2) := by decide +kernel
theorem dPW_element_106 : decode bPW_element 106 = .ok (.aload 6, 2) := by decide +kernel
theorem dPW_element_108 : decode bPW_element 108 = .ok (.iload 5, 2) := by decide +kernel
theorem dPW_element_110 : decode bPW_element 110 = .ok (.invokevirtual 149, 3) := by decide +kernel
theorem dPW_element_113 : decode bPW_element 113 = .ok (.iconst 2, 1) := by decide +kernel
theorem dPW_element_114 : decode bPW_element 114 = .ok (.if_icmp .lt 13, 3) := by decide +kernel
theorem dPW_element_117 : decode bPW_element 117 = .ok (.new 97, 3) := by decide +kernel
theorem dPW_element_120 : decode bPW_element 120 = .ok (.dup, 1) := by decide +kernel
theorem dPW_element_121 : decode bPW_element 121 = .ok (.ldc 154, 2) := by decide +kernel
theorem dPW_element_123 : decode bPW_element 123 = .ok (.invokespecial 101, 3) := by decide +kernel
theorem dPW_element_126 : decode bPW_element 126 = .ok (.athrow, 1) := by decide +kernel
theorem dPW_element_127 : decode bPW_element 127 = .ok (.aload_n 0, 1) := by decide +kernel
theorem dPW_element_128 : decode bPW_element 128 = .ok (.getfield 52, 3) := by decide +kernel
theorem dPW_element_131 : decode bPW_element 131 = .ok (.invokevirtual 102, 3) := by decide +kernel
theorem dPW_element_134 : decode bPW_element 134 = .ok (.aload 6, 2) := by decide +kernel
theorem dPW_element_136 : decode bPW_element 136 = .ok (.iload 5, 2) := by decide +kernel
theorem dPW_element_138 : decode bPW_element 138 = .ok (.iload_n 3, 1) := by decide +kernel
theorem dPW_element_139 : decode bPW_element 139 = .ok (.iload 4, 2) := by decide +kernel
theorem dPW_element_141 : decode bPW_element 141 = .ok (.invokevirtual 156, 3) := by decide +kernel
theorem dPW_element_144 : decode bPW_element 144 = .ok (.ireturn, 1) := by decide +kernel
theorem dPW_entry_0 : decode bPW_entry 0 = .ok (.iload_n 1, 1) := by decide +kernel
theorem dPW_entry_1 : decode bPW_entry 1 = .ok (.invokestatic 160, 3) := by decide +kernel
theorem dPW_entry_4 : decode bPW_entry 4 = .ok (.ifCond .eq 15, 3) := by decide +kernel
theorem dPW_entry_7 : decode bPW_entry 7 = .ok (.iload_n 2, 1) := by decide +kernel
theorem dPW_entry_8 : decode bPW_entry 8 = .ok (.invokestatic 160, 3) := by decide +kernel
theorem dPW_entry_11 : decode bPW_entry 11 = .ok (.ifCond .ne 18, 3) := by decide +kernel
theorem dPW_entry_14 : decode bPW_entry 14 = .ok (.iload_n 2, 1) := by decide +kernel
theorem dPW_entry_15 : decode bPW_entry 15 = .ok (.iconst (-1), 1) := by decide +kernel
theorem dPW_entry_16 : decode bPW_entry 16 = .ok (.if_icmp .eq 13, 3) := by decide +kernel
theorem dPW_entry_19 : decode bPW_entry 19 = .ok (.new 81, 3) := by decide +kernel
theorem dPW_entry_22 : decode bPW_entry 22 = .ok (.dup, 1) := by decide +kernel
theorem dPW_entry_23 : decode bPW_entry 23 = .ok (.ldc 163, 2) := by decide +kernel
theorem dPW_entry_25 : decode bPW_entry 25 = .ok (.invokespecial 85, 3) := by decide +kernel
theorem dPW_entry_28 : decode bPW_entry 28 = .ok (.athrow, 1) := by decide +kernel
theorem dPW_entry_29 : decode bPW_entry 29 = .ok (.aload_n 0, 1) := by decide +kernel
theorem dPW_entry_30 : decode bPW_entry 30 = .ok (.getfield 26, 3) := by decide +kernel
theorem dPW_entry_33 : decode bPW_entry 33 = .ok (.invokevirtual 165, 3) := by decide +kernel
theorem dPW_entry_36 : decode bPW_entry 36 = .ok (.bipush 8, 2) := by decide +kernel
theorem dPW_entry_38 : decode bPW_entry 38 = .ok (.if_icmp .lt 13, 3) := by decide +kernel
theorem dPW_entry_41 : decode bPW_entry 41 = .ok (.new 97, 3) := by decide +kernel
theorem dPW_entry_44 : decode bPW_entry 44 = .ok (.dup, 1) := by decide +kernel
theorem dPW_entry_45 : decode bPW_entry 45 = .ok (.ldc 166, 2) := by decide +kernel
theorem dPW_entry_47 : decode bPW_entry 47 = .ok (.invokespecial 101, 3) := by decide +kernel
theorem dPW_entry_50 : decode bPW_entry 50 = .ok (.athrow, 1) := by decide +kernel
theorem dPW_entry_51 : decode bPW_entry 51 = .ok (.aload_n 0, 1) := by decide +kernel
theorem dPW_entry_52 : decode bPW_entry 52 = .ok (.getfield 52, 3) := by decide +kernel
theorem dPW_entry_55 : decode bPW_entry 55 = .ok (.invokevirtual 102, 3) := by decide +kernel
theorem dPW_entry_58 : decode bPW_entry 58 = .ok (.aload_n 0, 1) := by decide +kernel
theorem dPW_entry_59 : decode bPW_entry 59 = .ok (.getfield 26, 3) := by decide +kernel
theorem dPW_entry_62 : decode bPW_entry 62 = .ok (.iload_n 1, 1) := by decide +kernel
theorem dPW_entry_63 : decode bPW_entry 63 = .ok (.iload_n 2, 1) := by decide +kernel
theorem dPW_entry_64 : decode bPW_entry 64 = .ok (.invokevirtual 168, 3) := by decide +kernel
theorem dPW_entry_67 : decode bPW_entry 67 = .ok (.ireturn, 1) := by decide +kernel
theorem dPW_spell_0 : decode bPW_spell 0 = .ok (.iload_n 1, 1) := by decide +kernel
theorem dPW_spell_1 : decode bPW_spell 1 = .ok (.ifCond .lt 21, 3) := by decide +kernel
theorem dPW_spell_4 : decode bPW_spell 4 = .ok (.iload_n 1, 1) := by decide +kernel
theorem dPW_spell_5 : decode bPW_spell 5 = .ok (.aload_n 0, 1) := by decide +kernel
theorem dPW_spell_6 : decode bPW_spell 6 = .ok (.getfield 26, 3) := by decide +kernel
theorem dPW_spell_9 : decode bPW_spell 9 = .ok (.invokevirtual 165, 3) := by decide +kernel
theorem dPW_spell_12 : decode bPW_spell 12 = .ok (.if_icmp .ge 10, 3) := by decide +kernel
theorem dPW_spell_15 : decode bPW_spell 15 = .ok (.iload_n 2, 1) := by decide +kernel
theorem dPW_spell_16 : decode bPW_spell 16 = .ok (.invokestatic 169, 3) := by decide +kernel
theorem dPW_spell_19 : decode bPW_spell 19 = .ok (.ifCond .ne 13, 3) := by decide +kernel
theorem dPW_spell_22 : decode bPW_spell 22 = .ok (.new 81, 3) := by decide +kernel
theorem dPW_spell_25 : decode bPW_spell 25 = .ok (.dup, 1) := by decide +kernel
theorem dPW_spell_26 : decode bPW_spell 26 = .ok (.ldc 172, 2) := by decide +kernel
theorem dPW_spell_28 : decode bPW_spell 28 = .ok (.invokespecial 85, 3) := by decide +kernel
theorem dPW_spell_31 : decode bPW_spell 31 = .ok (.athrow, 1) := by decide +kernel
theorem dPW_spell_32 : decode bPW_spell 32 = .ok (.aload_n 0, 1) := by decide +kernel
theorem dPW_spell_33 : decode bPW_spell 33 = .ok (.getfield 26, 3) := by decide +kernel
theorem dPW_spell_36 : decode bPW_spell 36 = .ok (.iload_n 1, 1) := by decide +kernel
theorem dPW_spell_37 : decode bPW_spell 37 = .ok (.invokevirtual 174, 3) := by decide +kernel
theorem dPW_spell_40 : decode bPW_spell 40 = .ok (.astore_n 3, 1) := by decide +kernel
theorem dPW_spell_41 : decode bPW_spell 41 = .ok (.aload_n 3, 1) := by decide +kernel
theorem dPW_spell_42 : decode bPW_spell 42 = .ok (.invokevirtual 178, 3) := by decide +kernel
theorem dPW_spell_45 : decode bPW_spell 45 = .ok (.ifCond .eq 13, 3) := by decide +kernel
theorem dPW_spell_48 : decode bPW_spell 48 = .ok (.new 97, 3) := by decide +kernel
theorem dPW_spell_51 : decode bPW_spell 51 = .ok (.dup, 1) := by decide +kernel
theorem dPW_spell_52 : decode bPW_spell 52 = .ok (.ldc 182, 2) := by decide +kernel
theorem dPW_spell_54 : decode bPW_spell 54 = .ok (.invokespecial 101, 3) := by decide +kernel
theorem dPW_spell_57 : decode bPW_spell 57 = .ok (.athrow, 1) := by decide +kernel
theorem dPW_spell_58 : decode bPW_spell 58 = .ok (.aload_n 0, 1) := by decide +kernel
theorem dPW_spell_59 : decode bPW_spell 59 = .ok (.getfield 52, 3) := by decide +kernel
theorem dPW_spell_62 : decode bPW_spell 62 = .ok (.invokevirtual 102, 3) := by decide +kernel
theorem dPW_spell_65 : decode bPW_spell 65 = .ok (.aload_n 3, 1) := by decide +kernel
theorem dPW_spell_66 : decode bPW_spell 66 = .ok (.iload_n 2, 1) := by decide +kernel
theorem dPW_spell_67 : decode bPW_spell 67 = .ok (.invokevirtual 184, 3) := by decide +kernel
theorem dPW_spell_70 : decode bPW_spell 70 = .ok (.ireturn, 1) := by decide +kernel
theorem dPW_type_0 : decode bPW_type 0 = .ok (.iload_n 2, 1) := by decide +kernel
theorem dPW_type_1 : decode bPW_type 1 = .ok (.invokestatic 169, 3) := by decide +kernel
theorem dPW_type_4 : decode bPW_type 4 = .ok (.ifCond .ne 13, 3) := by decide +kernel
theorem dPW_type_7 : decode bPW_type 7 = .ok (.new 81, 3) := by decide +kernel
theorem dPW_type_10 : decode bPW_type 10 = .ok (.dup, 1) := by decide +kernel
theorem dPW_type_11 : decode bPW_type 11 = .ok (.ldc 83, 2) := by decide +kernel
theorem dPW_type_13 : decode bPW_type 13 = .ok (.invokespecial 85, 3) := by decide +kernel
theorem dPW_type_16 : decode bPW_type 16 = .ok (.athrow, 1) := by decide +kernel
theorem dPW_type_17 : decode bPW_type 17 = .ok (.iload_n 1, 1) := by decide +kernel
theorem dPW_type_18 : decode bPW_type 18 = .ok (.ifCond .eq 10, 3) := by decide +kernel
theorem dPW_type_21 : decode bPW_type 21 = .ok (.aload_n 0, 1) := by decide +kernel
theorem dPW_type_22 : decode bPW_type 22 = .ok (.getfield 39, 3) := by decide +kernel
theorem dPW_type_25 : decode bPW_type 25 = .ok (.goto 7, 3) := by decide +kernel
theorem dPW_type_28 : decode bPW_type 28 = .ok (.aload_n 0, 1) := by decide +kernel
theorem dPW_type_29 : decode bPW_type 29 = .ok (.getfield 35, 3) := by decide +kernel
theorem dPW_type_32 : decode bPW_type 32 = .ok (.astore_n 3, 1) := by decide +kernel
theorem dPW_type_33 : decode bPW_type 33 = .ok (.aload_n 3, 1) := by decide +kernel
theorem dPW_type_34 : decode bPW_type 34 = .ok (.invokevirtual 178, 3) := by decide +kernel
theorem dPW_type_37 : decode bPW_type 37 = .ok (.ifCond .eq 13, 3) := by decide +kernel
theorem dPW_type_40 : decode bPW_type 40 = .ok (.new 97, 3) := by decide +kernel
theorem dPW_type_43 : decode bPW_type 43 = .ok (.dup, 1) := by decide +kernel
theorem dPW_type_44 : decode bPW_type 44 = .ok (.ldc 186, 2) := by decide +kernel
theorem dPW_type_46 : decode bPW_type 46 = .ok (.invokespecial 101, 3) := by decide +kernel
theorem dPW_type_49 : decode bPW_type 49 = .ok (.athrow, 1) := by decide +kernel
theorem dPW_type_50 : decode bPW_type 50 = .ok (.aload_n 3, 1) := by decide +kernel
theorem dPW_type_51 : decode bPW_type 51 = .ok (.iload_n 2, 1) := by decide +kernel
theorem dPW_type_52 : decode bPW_type 52 = .ok (.invokevirtual 184, 3) := by decide +kernel
theorem dPW_type_55 : decode bPW_type 55 = .ok (.ireturn, 1) := by decide +kernel
theorem dPW_wipe_0 : decode bPW_wipe 0 = .ok (.iload_n 1, 1) := by decide +kernel
theorem dPW_wipe_1 : decode bPW_wipe 1 = .ok (.ifCond .eq 10, 3) := by decide +kernel
theorem dPW_wipe_4 : decode bPW_wipe 4 = .ok (.aload_n 0, 1) := by decide +kernel
theorem dPW_wipe_5 : decode bPW_wipe 5 = .ok (.getfield 39, 3) := by decide +kernel
theorem dPW_wipe_8 : decode bPW_wipe 8 = .ok (.goto 7, 3) := by decide +kernel
theorem dPW_wipe_11 : decode bPW_wipe 11 = .ok (.aload_n 0, 1) := by decide +kernel
theorem dPW_wipe_12 : decode bPW_wipe 12 = .ok (.getfield 35, 3) := by decide +kernel
theorem dPW_wipe_15 : decode bPW_wipe 15 = .ok (.astore_n 2, 1) := by decide +kernel
theorem dPW_wipe_16 : decode bPW_wipe 16 = .ok (.aload_n 2, 1) := by decide +kernel
theorem dPW_wipe_17 : decode bPW_wipe 17 = .ok (.invokevirtual 188, 3) := by decide +kernel
theorem dPW_wipe_20 : decode bPW_wipe 20 = .ok (.istore_n 3, 1) := by decide +kernel
theorem dPW_wipe_21 : decode bPW_wipe 21 = .ok (.aload_n 2, 1) := by decide +kernel
theorem dPW_wipe_22 : decode bPW_wipe 22 = .ok (.iconst 0, 1) := by decide +kernel
theorem dPW_wipe_23 : decode bPW_wipe 23 = .ok (.invokevirtual 191, 3) := by decide +kernel
theorem dPW_wipe_26 : decode bPW_wipe 26 = .ok (.iload_n 3, 1) := by decide +kernel
theorem dPW_wipe_27 : decode bPW_wipe 27 = .ok (.ireturn, 1) := by decide +kernel
theorem dPW_belong_0 : decode bPW_belong 0 = .ok (.aload_n 0, 1) := by decide +kernel
theorem dPW_belong_1 : decode bPW_belong 1 = .ok (.getfield 64, 3) := by decide +kernel
theorem dPW_belong_4 : decode bPW_belong 4 = .ok (.aload_n 0, 1) := by decide +kernel
theorem dPW_belong_5 : decode bPW_belong 5 = .ok (.getfield 35, 3) := by decide +kernel
theorem dPW_belong_8 : decode bPW_belong 8 = .ok (.aload_n 0, 1) := by decide +kernel
theorem dPW_belong_9 : decode bPW_belong 9 = .ok (.getfield 39, 3) := by decide +kernel
theorem dPW_belong_12 : decode bPW_belong 12 = .ok (.invokevirtual 194, 3) := by decide +kernel
theorem dPW_belong_15 : decode bPW_belong 15 = .ok (.ireturn, 1) := by decide +kernel
theorem dPW_blame_0 : decode bPW_blame 0 = .ok (.aload_n 0, 1) := by decide +kernel
theorem dPW_blame_1 : decode bPW_blame 1 = .ok (.getfield 64, 3) := by decide +kernel
theorem dPW_blame_4 : decode bPW_blame 4 = .ok (.aload_n 0, 1) := by decide +kernel
theorem dPW_blame_5 : decode bPW_blame 5 = .ok (.getfield 35, 3) := by decide +kernel
theorem dPW_blame_8 : decode bPW_blame 8 = .ok (.aload_n 0, 1) := by decide +kernel
theorem dPW_blame_9 : decode bPW_blame 9 = .ok (.getfield 39, 3) := by decide +kernel
theorem dPW_blame_12 : decode bPW_blame 12 = .ok (.invokevirtual 194, 3) := by decide +kernel
theorem dPW_blame_15 : decode bPW_blame 15 = .ok (.pop, 1) := by decide +kernel
theorem dPW_blame_16 : decode bPW_blame 16 = .ok (.aload_n 0, 1) := by decide +kernel
theorem dPW_blame_17 : decode bPW_blame 17 = .ok (.getfield 64, 3) := by decide +kernel
theorem dPW_blame_20 : decode bPW_blame 20 = .ok (.invokevirtual 198, 3) := by decide +kernel
theorem dPW_blame_23 : decode bPW_blame 23 = .ok (.ireturn, 1) := by decide +kernel
theorem dPW_write_0 : decode bPW_write 0 = .ok (.aload_n 0, 1) := by decide +kernel
theorem dPW_write_1 : decode bPW_write 1 = .ok (.getfield 56, 3) := by decide +kernel
theorem dPW_write_4 : decode bPW_write 4 = .ok (.invokevirtual 102, 3) := by decide +kernel
theorem dPW_write_7 : decode bPW_write 7 = .ok (.aload_n 0, 1) := by decide +kernel
theorem dPW_write_8 : decode bPW_write 8 = .ok (.getfield 73, 3) := by decide +kernel
theorem dPW_write_11 : decode bPW_write 11 = .ok (.aload_n 0, 1) := by decide +kernel
theorem dPW_write_12 : decode bPW_write 12 = .ok (.getfield 35, 3) := by decide +kernel
theorem dPW_write_15 : decode bPW_write 15 = .ok (.invokevirtual 201, 3) := by decide +kernel
theorem dPW_write_18 : decode bPW_write 18 = .ok (.aload_n 0, 1) := by decide +kernel
theorem dPW_write_19 : decode bPW_write 19 = .ok (.getfield 56, 3) := by decide +kernel
theorem dPW_write_22 : decode bPW_write 22 = .ok (.invokevirtual 205, 3) := by decide +kernel
theorem dPW_write_25 : decode bPW_write 25 = .ok (.ifCond .eq 13, 3) := by decide +kernel
theorem dPW_write_28 : decode bPW_write 28 = .ok (.new 97, 3) := by decide +kernel
theorem dPW_write_31 : decode bPW_write 31 = .ok (.dup, 1) := by decide +kernel
theorem dPW_write_32 : decode bPW_write 32 = .ok (.ldc 208, 2) := by decide +kernel
theorem dPW_write_34 : decode bPW_write 34 = .ok (.invokespecial 101, 3) := by decide +kernel
theorem dPW_write_37 : decode bPW_write 37 = .ok (.athrow, 1) := by decide +kernel
theorem dPW_write_38 : decode bPW_write 38 = .ok (.aload_n 0, 1) := by decide +kernel
theorem dPW_write_39 : decode bPW_write 39 = .ok (.getfield 52, 3) := by decide +kernel
theorem dPW_write_42 : decode bPW_write 42 = .ok (.aload_n 0, 1) := by decide +kernel
theorem dPW_write_43 : decode bPW_write 43 = .ok (.getfield 56, 3) := by decide +kernel
theorem dPW_write_46 : decode bPW_write 46 = .ok (.invokevirtual 210, 3) := by decide +kernel
theorem dPW_write_49 : decode bPW_write 49 = .ok (.aload_n 0, 1) := by decide +kernel
theorem dPW_write_50 : decode bPW_write 50 = .ok (.getfield 52, 3) := by decide +kernel
theorem dPW_write_53 : decode bPW_write 53 = .ok (.invokevirtual 214, 3) := by decide +kernel
theorem dPW_write_56 : decode bPW_write 56 = .ok (.ireturn, 1) := by decide +kernel
theorem dPW_analyse_0 : decode bPW_analyse 0 = .ok (.aload_n 0, 1) := by decide +kernel
theorem dPW_analyse_1 : decode bPW_analyse 1 = .ok (.getfield 56, 3) := by decide +kernel
theorem dPW_analyse_4 : decode bPW_analyse 4 = .ok (.invokevirtual 102, 3) := by decide +kernel
theorem dPW_analyse_7 : decode bPW_analyse 7 = .ok (.aload_n 0, 1) := by decide +kernel
theorem dPW_analyse_8 : decode bPW_analyse 8 = .ok (.getfield 26, 3) := by decide +kernel
theorem dPW_analyse_11 : decode bPW_analyse 11 = .ok (.iconst 0, 1) := by decide +kernel
theorem dPW_analyse_12 : decode bPW_analyse 12 = .ok (.iconst 0, 1) := by decide +kernel
theorem dPW_analyse_13 : decode bPW_analyse 13 = .ok (.aload_n 0, 1) := by decide +kernel
theorem dPW_analyse_14 : decode bPW_analyse 14 = .ok (.getfield 39, 3) := by decide +kernel
theorem dPW_analyse_17 : decode bPW_analyse 17 = .ok (.aload_n 0, 1) := by decide +kernel
theorem dPW_analyse_18 : decode bPW_analyse 18 = .ok (.getfield 64, 3) := by decide +kernel
theorem dPW_analyse_21 : decode bPW_analyse 21 = .ok (.aload_n 0, 1) := by decide +kernel
theorem dPW_analyse_22 : decode bPW_analyse 22 = .ok (.getfield 56, 3) := by decide +kernel
theorem dPW_analyse_25 : decode bPW_analyse 25 = .ok (.invokevirtual 215, 3) := by decide +kernel
theorem dPW_analyse_28 : decode bPW_analyse 28 = .ok (.aload_n 0, 1) := by decide +kernel
theorem dPW_analyse_29 : decode bPW_analyse 29 = .ok (.getfield 56, 3) := by decide +kernel
theorem dPW_analyse_32 : decode bPW_analyse 32 = .ok (.invokevirtual 205, 3) := by decide +kernel
theorem dPW_analyse_35 : decode bPW_analyse 35 = .ok (.ifCond .eq 13, 3) := by decide +kernel
theorem dPW_analyse_38 : decode bPW_analyse 38 = .ok (.new 97, 3) := by decide +kernel
theorem dPW_analyse_41 : decode bPW_analyse 41 = .ok (.dup, 1) := by decide +kernel
theorem dPW_analyse_42 : decode bPW_analyse 42 = .ok (.ldc 208, 2) := by decide +kernel
theorem dPW_analyse_44 : decode bPW_analyse 44 = .ok (.invokespecial 101, 3) := by decide +kernel
theorem dPW_analyse_47 : decode bPW_analyse 47 = .ok (.athrow, 1) := by decide +kernel
theorem dPW_analyse_48 : decode bPW_analyse 48 = .ok (.aload_n 0, 1) := by decide +kernel
theorem dPW_analyse_49 : decode bPW_analyse 49 = .ok (.getfield 52, 3) := by decide +kernel
theorem dPW_analyse_52 : decode bPW_analyse 52 = .ok (.aload_n 0, 1) := by decide +kernel
theorem dPW_analyse_53 : decode bPW_analyse 53 = .ok (.getfield 56, 3) := by decide +kernel
theorem dPW_analyse_56 : decode bPW_analyse 56 = .ok (.invokevirtual 210, 3) := by decide +kernel
theorem dPW_analyse_59 : decode bPW_analyse 59 = .ok (.aload_n 0, 1) := by decide +kernel
theorem dPW_analyse_60 : decode bPW_analyse 60 = .ok (.getfield 52, 3) := by decide +kernel
theorem dPW_analyse_63 : decode bPW_analyse 63 = .ok (.invokevirtual 214, 3) := by decide +kernel
theorem dPW_analyse_66 : decode bPW_analyse 66 = .ok (.ireturn, 1) := by decide +kernel
theorem dPW_length_0 : decode bPW_length 0 = .ok (.iload_n 1, 1) := by decide +kernel
theorem dPW_length_1 : decode bPW_length 1 = .ok (.ifCond .lt 14, 3) := by decide +kernel
theorem dPW_length_4 : decode bPW_length 4 = .ok (.iload_n 1, 1) := by decide +kernel
theorem dPW_length_5 : decode bPW_length 5 = .ok (.aload_n 0, 1) := by decide +kernel
theorem dPW_length_6 : decode bPW_length 6 = .ok (.getfield 52, 3) := by decide +kernel
theorem dPW_length_9 : decode bPW_length 9 = .ok (.invokevirtual 214, 3) := by decide +kernel
theorem dPW_length_12 : decode bPW_length 12 = .ok (.if_icmp .lt 13, 3) := by decide +kernel
theorem dPW_length_15 : decode bPW_length 15 = .ok (.new 219, 3) := by decide +kernel
theorem dPW_length_18 : decode bPW_length 18 = .ok (.dup, 1) := by decide +kernel
theorem dPW_length_19 : decode bPW_length 19 = .ok (.ldc 221, 2) := by decide +kernel
theorem dPW_length_21 : decode bPW_length 21 = .ok (.invokespecial 223, 3) := by decide +kernel
theorem dPW_length_24 : decode bPW_length 24 = .ok (.athrow, 1) := by decide +kernel
theorem dPW_length_25 : decode bPW_length 25 = .ok (.iload_n 2, 1) := by decide +kernel
theorem dPW_length_26 : decode bPW_length 26 = .ok (.ifCond .eq 14, 3) := by decide +kernel
theorem dPW_length_29 : decode bPW_length 29 = .ok (.aload_n 0, 1) := by decide +kernel
theorem dPW_length_30 : decode bPW_length 30 = .ok (.getfield 52, 3) := by decide +kernel
theorem dPW_length_33 : decode bPW_length 33 = .ok (.iload_n 1, 1) := by decide +kernel
theorem dPW_length_34 : decode bPW_length 34 = .ok (.invokevirtual 224, 3) := by decide +kernel
theorem dPW_length_37 : decode bPW_length 37 = .ok (.goto 11, 3) := by decide +kernel
theorem dPW_length_40 : decode bPW_length 40 = .ok (.aload_n 0, 1) := by decide +kernel
theorem dPW_length_41 : decode bPW_length 41 = .ok (.getfield 52, 3) := by decide +kernel
theorem dPW_length_44 : decode bPW_length 44 = .ok (.iload_n 1, 1) := by decide +kernel
theorem dPW_length_45 : decode bPW_length 45 = .ok (.invokevirtual 227, 3) := by decide +kernel
theorem dPW_length_48 : decode bPW_length 48 = .ok (.ireturn, 1) := by decide +kernel
theorem dPW_result_0 : decode bPW_result 0 = .ok (.iload_n 1, 1) := by decide +kernel
theorem dPW_result_1 : decode bPW_result 1 = .ok (.ifCond .lt 14, 3) := by decide +kernel
theorem dPW_result_4 : decode bPW_result 4 = .ok (.iload_n 1, 1) := by decide +kernel
theorem dPW_result_5 : decode bPW_result 5 = .ok (.aload_n 0, 1) := by decide +kernel
theorem dPW_result_6 : decode bPW_result 6 = .ok (.getfield 52, 3) := by decide +kernel
theorem dPW_result_9 : decode bPW_result 9 = .ok (.invokevirtual 214, 3) := by decide +kernel
theorem dPW_result_12 : decode bPW_result 12 = .ok (.if_icmp .lt 13, 3) := by decide +kernel
theorem dPW_result_15 : decode bPW_result 15 = .ok (.new 219, 3) := by decide +kernel
theorem dPW_result_18 : decode bPW_result 18 = .ok (.dup, 1) := by decide +kernel
theorem dPW_result_19 : decode bPW_result 19 = .ok (.ldc 221, 2) := by decide +kernel
theorem dPW_result_21 : decode bPW_result 21 = .ok (.invokespecial 223, 3) := by decide +kernel
theorem dPW_result_24 : decode bPW_result 24 = .ok (.athrow, 1) := by decide +kernel
theorem dPW_result_25 : decode bPW_result 25 = .ok (.iload_n 3, 1) := by decide +kernel
theorem dPW_result_26 : decode bPW_result 26 = .ok (.ifCond .eq 14, 3) := by decide +kernel
theorem dPW_result_29 : decode bPW_result 29 = .ok (.aload_n 0, 1) := by decide +kernel
theorem dPW_result_30 : decode bPW_result 30 = .ok (.getfield 52, 3) := by decide +kernel
theorem dPW_result_33 : decode bPW_result 33 = .ok (.iload_n 1, 1) := by decide +kernel
theorem dPW_result_34 : decode bPW_result 34 = .ok (.invokevirtual 224, 3) := by decide +kernel
theorem dPW_result_37 : decode bPW_result 37 = .ok (.goto 11, 3) := by decide +kernel
theorem dPW_result_40 : decode bPW_result 40 = .ok (.aload_n 0, 1) := by decide +kernel
theorem dPW_result_41 : decode bPW_result 41 = .ok (.getfield 52, 3) := by decide +kernel
theorem dPW_result_44 : decode bPW_result 44 = .ok (.iload_n 1, 1) := by decide +kernel
theorem dPW_result_45 : decode bPW_result 45 = .ok (.invokevirtual 227, 3) := by decide +kernel
theorem dPW_result_48 : decode bPW_result 48 = .ok (.istore 4, 2) := by decide +kernel
theorem dPW_result_50 : decode bPW_result 50 = .ok (.iload_n 2, 1) := by decide +kernel
theorem dPW_result_51 : decode bPW_result 51 = .ok (.ifCond .lt 9, 3) := by decide +kernel
theorem dPW_result_54 : decode bPW_result 54 = .ok (.iload_n 2, 1) := by decide +kernel
theorem dPW_result_55 : decode bPW_result 55 = .ok (.iload 4, 2) := by decide +kernel
theorem dPW_result_57 : decode bPW_result 57 = .ok (.if_icmp .lt 13, 3) := by decide +kernel
theorem dPW_result_60 : decode bPW_result 60 = .ok (.new 219, 3) := by decide +kernel
theorem dPW_result_63 : decode bPW_result 63 = .ok (.dup, 1) := by decide +kernel
theorem dPW_result_64 : decode bPW_result 64 = .ok (.ldc 229, 2) := by decide +kernel
theorem dPW_result_66 : decode bPW_result 66 = .ok (.invokespecial 223, 3) := by decide +kernel
theorem dPW_result_69 : decode bPW_result 69 = .ok (.athrow, 1) := by decide +kernel
theorem dPW_result_70 : decode bPW_result 70 = .ok (.iload_n 3, 1) := by decide +kernel
theorem dPW_result_71 : decode bPW_result 71 = .ok (.ifCond .eq 15, 3) := by decide +kernel
theorem dPW_result_74 : decode bPW_result 74 = .ok (.aload_n 0, 1) := by decide +kernel
theorem dPW_result_75 : decode bPW_result 75 = .ok (.getfield 52, 3) := by decide +kernel
theorem dPW_result_78 : decode bPW_result 78 = .ok (.iload_n 1, 1) := by decide +kernel
theorem dPW_result_79 : decode bPW_result 79 = .ok (.iload_n 2, 1) := by decide +kernel
theorem dPW_result_80 : decode bPW_result 80 = .ok (.invokevirtual 231, 3) := by decide +kernel
theorem dPW_result_83 : decode bPW_result 83 = .ok (.goto 12, 3) := by decide +kernel
theorem dPW_result_86 : decode bPW_result 86 = .ok (.aload_n 0, 1) := by decide +kernel
theorem dPW_result_87 : decode bPW_result 87 = .ok (.getfield 52, 3) := by decide +kernel
theorem dPW_result_90 : decode bPW_result 90 = .ok (.iload_n 1, 1) := by decide +kernel
theorem dPW_result_91 : decode bPW_result 91 = .ok (.iload_n 2, 1) := by decide +kernel
theorem dPW_result_92 : decode bPW_result 92 = .ok (.invokevirtual 234, 3) := by decide +kernel
theorem dPW_result_95 : decode bPW_result 95 = .ok (.ireturn, 1) := by decide +kernel
theorem dPW_sample_0 : decode bPW_sample 0 = .ok (.aload_n 0, 1) := by decide +kernel
theorem dPW_sample_1 : decode bPW_sample 1 = .ok (.getfield 45, 3) := by decide +kernel
theorem dPW_sample_4 : decode bPW_sample 4 = .ok (.invokevirtual 237, 3) := by decide +kernel
theorem dPW_sample_7 : decode bPW_sample 7 = .ok (.bipush 8, 2) := by decide +kernel
theorem dPW_sample_9 : decode bPW_sample 9 = .ok (.if_icmp .lt 13, 3) := by decide +kernel
theorem dPW_sample_12 : decode bPW_sample 12 = .ok (.new 97, 3) := by decide +kernel
theorem dPW_sample_15 : decode bPW_sample 15 = .ok (.dup, 1) := by decide +kernel
theorem dPW_sample_16 : decode bPW_sample 16 = .ok (.ldc 238, 2) := by decide +kernel
theorem dPW_sample_18 : decode bPW_sample 18 = .ok (.invokespecial 101, 3) := by decide +kernel
theorem dPW_sample_21 : decode bPW_sample 21 = .ok (.athrow, 1) := by decide +kernel
theorem dPW_sample_22 : decode bPW_sample 22 = .ok (.aload_n 0, 1) := by decide +kernel
theorem dPW_sample_23 : decode bPW_sample 23 = .ok (.getfield 45, 3) := by decide +kernel
theorem dPW_sample_26 : decode bPW_sample 26 = .ok (.aload_n 0, 1) := by decide +kernel
theorem dPW_sample_27 : decode bPW_sample 27 = .ok (.getfield 35, 3) := by decide +kernel
theorem dPW_sample_30 : decode bPW_sample 30 = .ok (.aload_n 0, 1) := by decide +kernel
theorem dPW_sample_31 : decode bPW_sample 31 = .ok (.getfield 39, 3) := by decide +kernel
theorem dPW_sample_34 : decode bPW_sample 34 = .ok (.invokevirtual 240, 3) := by decide +kernel
theorem dPW_sample_37 : decode bPW_sample 37 = .ok (.ireturn, 1) := by decide +kernel
theorem dPW_check_0 : decode bPW_check 0 = .ok (.iconst 0, 1) := by decide +kernel
theorem dPW_check_1 : decode bPW_check 1 = .ok (.istore_n 1, 1) := by decide +kernel
theorem dPW_check_2 : decode bPW_check 2 = .ok (.iload_n 1, 1) := by decide +kernel
theorem dPW_check_3 : decode bPW_check 3 = .ok (.aload_n 0, 1) := by decide +kernel
theorem dPW_check_4 : decode bPW_check 4 = .ok (.getfield 45, 3) := by decide +kernel
theorem dPW_check_7 : decode bPW_check 7 = .ok (.invokevirtual 237, 3) := by decide +kernel
theorem dPW_check_10 : decode bPW_check 10 = .ok (.if_icmp .ge 37, 3) := by decide +kernel
theorem dPW_check_13 : decode bPW_check 13 = .ok (.aload_n 0, 1) := by decide +kernel
theorem dPW_check_14 : decode bPW_check 14 = .ok (.getfield 64, 3) := by decide +kernel
theorem dPW_check_17 : decode bPW_check 17 = .ok (.aload_n 0, 1) := by decide +kernel
theorem dPW_check_18 : decode bPW_check 18 = .ok (.getfield 45, 3) := by decide +kernel
theorem dPW_check_21 : decode bPW_check 21 = .ok (.iload_n 1, 1) := by decide +kernel
theorem dPW_check_22 : decode bPW_check 22 = .ok (.invokevirtual 243, 3) := by decide +kernel
theorem dPW_check_25 : decode bPW_check 25 = .ok (.aload_n 0, 1) := by decide +kernel
theorem dPW_check_26 : decode bPW_check 26 = .ok (.getfield 45, 3) := by decide +kernel
theorem dPW_check_29 : decode bPW_check 29 = .ok (.iload_n 1, 1) := by decide +kernel
theorem dPW_check_30 : decode bPW_check 30 = .ok (.invokevirtual 246, 3) := by decide +kernel
theorem dPW_check_33 : decode bPW_check 33 = .ok (.invokevirtual 194, 3) := by decide +kernel
theorem dPW_check_36 : decode bPW_check 36 = .ok (.ifCond .ne 5, 3) := by decide +kernel
theorem dPW_check_39 : decode bPW_check 39 = .ok (.iload_n 1, 1) := by decide +kernel
theorem dPW_check_40 : decode bPW_check 40 = .ok (.ireturn, 1) := by decide +kernel
theorem dPW_check_41 : decode bPW_check 41 = .ok (.iinc 1 1, 3) := by decide +kernel
theorem dPW_check_44 : decode bPW_check 44 = .ok (.goto (-42), 3) := by decide +kernel
theorem dPW_check_47 : decode bPW_check 47 = .ok (.iconst (-1), 1) := by decide +kernel
theorem dPW_check_48 : decode bPW_check 48 = .ok (.ireturn, 1) := by decide +kernel
theorem dPW_isSign_0 : decode bPW_isSign 0 = .ok (.iload_n 0, 1) := by decide +kernel
theorem dPW_isSign_1 : decode bPW_isSign 1 = .ok (.ifCond .le 13, 3) := by decide +kernel
theorem dPW_isSign_4 : decode bPW_isSign 4 = .ok (.iload_n 0, 1) := by decide +kernel
theorem dPW_isSign_5 : decode bPW_isSign 5 = .ok (.bipush 7, 2) := by decide +kernel
theorem dPW_isSign_7 : decode bPW_isSign 7 = .ok (.if_icmp .gt 7, 3) := by decide +kernel
theorem dPW_isSign_10 : decode bPW_isSign 10 = .ok (.iconst 1, 1) := by decide +kernel
theorem dPW_isSign_11 : decode bPW_isSign 11 = .ok (.goto 4, 3) := by decide +kernel
theorem dPW_isSign_14 : decode bPW_isSign 14 = .ok (.iconst 0, 1) := by decide +kernel
theorem dPW_isSign_15 : decode bPW_isSign 15 = .ok (.ireturn, 1) := by decide +kernel
theorem dPW_isSignOrEmpty_0 : decode bPW_isSignOrEmpty 0 = .ok (.iload_n 0, 1) := by decide +kernel
theorem dPW_isSignOrEmpty_1 : decode bPW_isSignOrEmpty 1 = .ok (.ifCond .eq 10, 3) := by decide +kernel
theorem dPW_isSignOrEmpty_4 : decode bPW_isSignOrEmpty 4 = .ok (.iload_n 0, 1) := by decide +kernel
theorem dPW_isSignOrEmpty_5 : decode bPW_isSignOrEmpty 5 = .ok (.invokestatic 169, 3) := by decide +kernel
theorem dPW_isSignOrEmpty_8 : decode bPW_isSignOrEmpty 8 = .ok (.ifCond .eq 7, 3) := by decide +kernel
theorem dPW_isSignOrEmpty_11 : decode bPW_isSignOrEmpty 11 = .ok (.iconst 1, 1) := by decide +kernel
theorem dPW_isSignOrEmpty_12 : decode bPW_isSignOrEmpty 12 = .ok (.goto 4, 3) := by decide +kernel
theorem dPW_isSignOrEmpty_15 : decode bPW_isSignOrEmpty 15 = .ok (.iconst 0, 1) := by decide +kernel
theorem dPW_isSignOrEmpty_16 : decode bPW_isSignOrEmpty 16 = .ok (.ireturn, 1) := by decide +kernel
theorem dPW_isPart_0 : decode bPW_isPart 0 = .ok (.iload_n 0, 1) := by decide +kernel
theorem dPW_isPart_1 : decode bPW_isPart 1 = .ok (.ifCond .lt 12, 3) := by decide +kernel
theorem dPW_isPart_4 : decode bPW_isPart 4 = .ok (.iload_n 0, 1) := by decide +kernel
theorem dPW_isPart_5 : decode bPW_isPart 5 = .ok (.iconst 4, 1) := by decide +kernel
theorem dPW_isPart_6 : decode bPW_isPart 6 = .ok (.if_icmp .ge 7, 3) := by decide +kernel
theorem dPW_isPart_9 : decode bPW_isPart 9 = .ok (.iconst 1, 1) := by decide +kernel
theorem dPW_isPart_10 : decode bPW_isPart 10 = .ok (.goto 4, 3) := by decide +kernel
theorem dPW_isPart_13 : decode bPW_isPart 13 = .ok (.iconst 0, 1) := by decide +kernel
theorem dPW_isPart_14 : decode bPW_isPart 14 = .ok (.ireturn, 1) := by decide +kernel
