theorem dResu_init_0 : decode bResu_init 0 = .ok (.aload_n 0, 1) := by decide +kernel
theorem dResu_init_1 : decode bResu_init 1 = .ok (.invokespecial 3, 3) := by decide +kernel
theorem dResu_init_4 : decode bResu_init 4 = .ok (.aload_n 0, 1) := by decide +kernel
theorem dResu_init_5 : decode bResu_init 5 = .ok (.bipush 60, 2) := by decide +kernel
theorem dResu_init_7 : decode bResu_init 7 = .ok (.newarray .long, 2) := by decide +kernel
theorem dResu_init_9 : decode bResu_init 9 = .ok (.putfield 9, 3) := by decide +kernel
theorem dResu_init_12 : decode bResu_init 12 = .ok (.return_, 1) := by decide +kernel
theorem dResu_count_0 : decode bResu_count 0 = .ok (.aload_n 0, 1) := by decide +kernel
theorem dResu_count_1 : decode bResu_count 1 = .ok (.getfield 15, 3) := by decide +kernel
theorem dResu_count_4 : decode bResu_count 4 = .ok (.ireturn, 1) := by decide +kernel
theorem dResu_isTooMany_0 : decode bResu_isTooMany 0 = .ok (.aload_n 0, 1) := by decide +kernel
theorem dResu_isTooMany_1 : decode bResu_isTooMany 1 = .ok (.getfield 19, 3) := by decide +kernel
theorem dResu_isTooMany_4 : decode bResu_isTooMany 4 = .ok (.ireturn, 1) := by decide +kernel
theorem dResu_clear_0 : decode bResu_clear 0 = .ok (.aload_n 0, 1) := by decide +kernel
theorem dResu_clear_1 : decode bResu_clear 1 = .ok (.iconst 0, 1) := by decide +kernel
theorem dResu_clear_2 : decode bResu_clear 2 = .ok (.putfield 15, 3) := by decide +kernel
theorem dResu_clear_5 : decode bResu_clear 5 = .ok (.aload_n 0, 1) := by decide +kernel
theorem dResu_clear_6 : decode bResu_clear 6 = .ok (.iconst 0, 1) := by decide +kernel
theorem dResu_clear_7 : decode bResu_clear 7 = .ok (.putfield 19, 3) := by decide +kernel
theorem dResu_clear_10 : decode bResu_clear 10 = .ok (.return_, 1) := by decide +kernel
theorem dResu_copy_0 : decode bResu_copy 0 = .ok (.aload_n 1, 1) := by decide +kernel
theorem dResu_copy_1 : decode bResu_copy 1 = .ok (.getfield 9, 3) := by decide +kernel
theorem dResu_copy_4 : decode bResu_copy 4 = .ok (.iconst 0, 1) := by decide +kernel
theorem dResu_copy_5 : decode bResu_copy 5 = .ok (.aload_n 0, 1) := by decide +kernel
theorem dResu_copy_6 : decode bResu_copy 6 = .ok (.getfield 9, 3) := by decide +kernel
theorem dResu_copy_9 : decode bResu_copy 9 = .ok (.iconst 0, 1) := by decide +kernel
theorem dResu_copy_10 : decode bResu_copy 10 = .ok (.bipush 60, 2) := by decide +kernel
theorem dResu_copy_12 : decode bResu_copy 12 = .ok (.invokestatic 23, 3) := by decide +kernel
theorem dResu_copy_15 : decode bResu_copy 15 = .ok (.aload_n 0, 1) := by decide +kernel
theorem dResu_copy_16 : decode bResu_copy 16 = .ok (.aload_n 1, 1) := by decide +kernel
theorem dResu_copy_17 : decode bResu_copy 17 = .ok (.getfield 15, 3) := by decide +kernel
theorem dResu_copy_20 : decode bResu_copy 20 = .ok (.putfield 15, 3) := by decide +kernel
theorem dResu_copy_23 : decode bResu_copy 23 = .ok (.aload_n 0, 1) := by decide +kernel
theorem dResu_copy_24 : decode bResu_copy 24 = .ok (.aload_n 1, 1) := by decide +kernel
theorem dResu_copy_25 : decode bResu_copy 25 = .ok (.getfield 19, 3) := by decide +kernel
theorem dResu_copy_28 : decode bResu_copy 28 = .ok (.putfield 19, 3) := by decide +kernel
theorem dResu_copy_31 : decode bResu_copy 31 = .ok (.return_, 1) := by decide +kernel
theorem dResu_add_0 : decode bResu_add 0 = .ok (.aload_n 0, 1) := by decide +kernel
theorem dResu_add_1 : decode bResu_add 1 = .ok (.getfield 15, 3) := by decide +kernel
theorem dResu_add_4 : decode bResu_add 4 = .ok (.istore_n 3, 1) := by decide +kernel
theorem dResu_add_5 : decode bResu_add 5 = .ok (.iload_n 3, 1) := by decide +kernel
theorem dResu_add_6 : decode bResu_add 6 = .ok (.ifCond .le 22, 3) := by decide +kernel
theorem dResu_add_9 : decode bResu_add 9 = .ok (.aload_n 0, 1) := by decide +kernel
theorem dResu_add_10 : decode bResu_add 10 = .ok (.getfield 9, 3) := by decide +kernel
theorem dResu_add_13 : decode bResu_add 13 = .ok (.iload_n 3, 1) := by decide +kernel
theorem dResu_add_14 : decode bResu_add 14 = .ok (.iconst 1, 1) := by decide +kernel
theorem dResu_add_15 : decode bResu_add 15 = .ok (.isub, 1) := by decide +kernel
theorem dResu_add_16 : decode bResu_add 16 = .ok (.laload, 1) := by decide +kernel
theorem dResu_add_17 : decode bResu_add 17 = .ok (.lload_n 1, 1) := by decide +kernel
theorem dResu_add_18 : decode bResu_add 18 = .ok (.lcmp, 1) := by decide +kernel
theorem dResu_add_19 : decode bResu_add 19 = .ok (.ifCond .le 9, 3) := by decide +kernel
theorem dResu_add_22 : decode bResu_add 22 = .ok (.iinc 3 (-1), 3) := by decide +kernel
theorem dResu_add_25 : decode bResu_add 25 = .ok (.goto (-20), 3) := by decide +kernel
theorem dResu_add_28 : decode bResu_add 28 = .ok (.iload_n 3, 1) := by decide +kernel
theorem dResu_add_29 : decode bResu_add 29 = .ok (.ifCond .le 17, 3) := by decide +kernel
theorem dResu_add_32 : decode bResu_add 32 = .ok (.aload_n 0, 1) := by decide +kernel
theorem dResu_add_33 : decode bResu_add 33 = .ok (.getfield 9, 3) := by decide +kernel
theorem dResu_add_36 : decode bResu_add 36 = .ok (.iload_n 3, 1) := by decide +kernel
theorem dResu_add_37 : decode bResu_add 37 = .ok (.iconst 1, 1) := by decide +kernel
theorem dResu_add_38 : decode bResu_add 38 = .ok (.isub, 1) := by decide +kernel
theorem dResu_add_39 : decode bResu_add 39 = .ok (.laload, 1) := by decide +kernel
theorem dResu_add_40 : decode bResu_add 40 = .ok (.lload_n 1, 1) := by decide +kernel
theorem dResu_add_41 : decode bResu_add 41 = .ok (.lcmp, 1) := by decide +kernel
theorem dResu_add_42 : decode bResu_add 42 = .ok (.ifCond .ne 4, 3) := by decide +kernel
theorem dResu_add_45 : decode bResu_add 45 = .ok (.return_, 1) := by decide +kernel
theorem dResu_add_46 : decode bResu_add 46 = .ok (.aload_n 0, 1) := by decide +kernel
theorem dResu_add_47 : decode bResu_add 47 = .ok (.getfield 15, 3) := by decide +kernel
theorem dResu_add_50 : decode bResu_add 50 = .ok (.bipush 60, 2) := by decide +kernel
theorem dResu_add_52 : decode bResu_add 52 = .ok (.if_icmp .lt 9, 3) := by decide +kernel
theorem dResu_add_55 : decode bResu_add 55 = .ok (.aload_n 0, 1) := by decide +kernel
theorem dResu_add_56 : decode bResu_add 56 = .ok (.iconst 1, 1) := by decide +kernel
theorem dResu_add_57 : decode bResu_add 57 = .ok (.putfield 19, 3) := by decide +kernel
theorem dResu_add_60 : decode bResu_add 60 = .ok (.return_, 1) := by decide +kernel
theorem dResu_add_61 : decode bResu_add 61 = .ok (.aload_n 0, 1) := by decide +kernel
theorem dResu_add_62 : decode bResu_add 62 = .ok (.getfield 15, 3) := by decide +kernel
theorem dResu_add_65 : decode bResu_add 65 = .ok (.istore 4, 2) := by decide +kernel
theorem dResu_add_67 : decode bResu_add 67 = .ok (.iload 4, 2) := by decide +kernel
theorem dResu_add_69 : decode bResu_add 69 = .ok (.iload_n 3, 1) := by decide +kernel
theorem dResu_add_70 : decode bResu_add 70 = .ok (.if_icmp .le 25, 3) := by decide +kernel
theorem dResu_add_73 : decode bResu_add 73 = .ok (.aload_n 0, 1) := by decide +kernel
theorem dResu_add_74 : decode bResu_add 74 = .ok (.getfield 9, 3) := by decide +kernel
theorem dResu_add_77 : decode bResu_add 77 = .ok (.iload 4, 2) := by decide +kernel
theorem dResu_add_79 : decode bResu_add 79 = .ok (.aload_n 0, 1) := by decide +kernel
theorem dResu_add_80 : decode bResu_add 80 = .ok (.getfield 9, 3) := by decide +kernel
theorem dResu_add_83 : decode bResu_add 83 = .ok (.iload 4, 2) := by decide +kernel
theorem dResu_add_85 : decode bResu_add 85 = .ok (.iconst 1, 1) := by decide +kernel
theorem dResu_add_86 : decode bResu_add 86 = .ok (.isub, 1) := by decide +kernel
theorem dResu_add_87 : decode bResu_add 87 = .ok (.laload, 1) := by decide +kernel
theorem dResu_add_88 : decode bResu_add 88 = .ok (.lastore, 1) := by decide +kernel
theorem dResu_add_89 : decode bResu_add 89 = .ok (.iinc 4 (-1), 3) := by decide +kernel
theorem dResu_add_92 : decode bResu_add 92 = .ok (.goto (-25), 3) := by decide +kernel
theorem dResu_add_95 : decode bResu_add 95 = .ok (.aload_n 0, 1) := by decide +kernel
theorem dResu_add_96 : decode bResu_add 96 = .ok (.getfield 9, 3) := by decide +kernel
theorem dResu_add_99 : decode bResu_add 99 = .ok (.iload_n 3, 1) := by decide +kernel
theorem dResu_add_100 : decode bResu_add 100 = .ok (.lload_n 1, 1) := by decide +kernel
theorem dResu_add_101 : decode bResu_add 101 = .ok (.lastore, 1) := by decide +kernel
theorem dResu_add_102 : decode bResu_add 102 = .ok (.aload_n 0, 1) := by decide +kernel
theorem dResu_add_103 : decode bResu_add 103 = .ok (.dup, 1) := by decide +kernel
theorem dResu_add_104 : decode bResu_add 104 = .ok (.getfield 15, 3) := by decide +kernel
theorem dResu_add_107 : decode bResu_add 107 = .ok (.iconst 1, 1) := by decide +kernel
theorem dResu_add_108 : decode bResu_add 108 = .ok (.iadd, 1) := by decide +kernel
theorem dResu_add_109 : decode bResu_add 109 = .ok (.putfield 15, 3) := by decide +kernel
theorem dResu_add_112 : decode bResu_add 112 = .ok (.return_, 1) := by decide +kernel
theorem dResu_keyOf_0 : decode bResu_keyOf 0 = .ok (.aload_n 0, 1) := by decide +kernel
theorem dResu_keyOf_1 : decode bResu_keyOf 1 = .ok (.invokevirtual 29, 3) := by decide +kernel
theorem dResu_keyOf_4 : decode bResu_keyOf 4 = .ok (.i2l, 1) := by decide +kernel
theorem dResu_keyOf_5 : decode bResu_keyOf 5 = .ok (.lstore_n 3, 1) := by decide +kernel
theorem dResu_keyOf_6 : decode bResu_keyOf 6 = .ok (.iconst 0, 1) := by decide +kernel
theorem dResu_keyOf_7 : decode bResu_keyOf 7 = .ok (.istore 5, 2) := by decide +kernel
theorem dResu_keyOf_9 : decode bResu_keyOf 9 = .ok (.iload 5, 2) := by decide +kernel
theorem dResu_keyOf_11 : decode bResu_keyOf 11 = .ok (.iconst 5, 1) := by decide +kernel
theorem dResu_keyOf_12 : decode bResu_keyOf 12 = .ok (.if_icmp .ge 21, 3) := by decide +kernel
theorem dResu_keyOf_15 : decode bResu_keyOf 15 = .ok (.lload_n 3, 1) := by decide +kernel
theorem dResu_keyOf_16 : decode bResu_keyOf 16 = .ok (.iconst 3, 1) := by decide +kernel
theorem dResu_keyOf_17 : decode bResu_keyOf 17 = .ok (.lshl, 1) := by decide +kernel
theorem dResu_keyOf_18 : decode bResu_keyOf 18 = .ok (.aload_n 0, 1) := by decide +kernel
theorem dResu_keyOf_19 : decode bResu_keyOf 19 = .ok (.iload 5, 2) := by decide +kernel
theorem dResu_keyOf_21 : decode bResu_keyOf 21 = .ok (.invokevirtual 35, 3) := by decide +kernel
theorem dResu_keyOf_24 : decode bResu_keyOf 24 = .ok (.i2l, 1) := by decide +kernel
theorem dResu_keyOf_25 : decode bResu_keyOf 25 = .ok (.lor, 1) := by decide +kernel
theorem dResu_keyOf_26 : decode bResu_keyOf 26 = .ok (.lstore_n 3, 1) := by decide +kernel
theorem dResu_keyOf_27 : decode bResu_keyOf 27 = .ok (.iinc 5 1, 3) := by decide +kernel
theorem dResu_keyOf_30 : decode bResu_keyOf 30 = .ok (.goto (-21), 3) := by decide +kernel
theorem dResu_keyOf_33 : decode bResu_keyOf 33 = .ok (.lload_n 3, 1) := by decide +kernel
theorem dResu_keyOf_34 : decode bResu_keyOf 34 = .ok (.iconst 3, 1) := by decide +kernel
theorem dResu_keyOf_35 : decode bResu_keyOf 35 = .ok (.lshl, 1) := by decide +kernel
theorem dResu_keyOf_36 : decode bResu_keyOf 36 = .ok (.iload_n 2, 1) := by decide +kernel
theorem dResu_keyOf_37 : decode bResu_keyOf 37 = .ok (.i2l, 1) := by decide +kernel
theorem dResu_keyOf_38 : decode bResu_keyOf 38 = .ok (.lor, 1) := by decide +kernel
theorem dResu_keyOf_39 : decode bResu_keyOf 39 = .ok (.lstore_n 3, 1) := by decide +kernel
theorem dResu_keyOf_40 : decode bResu_keyOf 40 = .ok (.iconst 0, 1) := by decide +kernel
theorem dResu_keyOf_41 : decode bResu_keyOf 41 = .ok (.istore 5, 2) := by decide +kernel
theorem dResu_keyOf_43 : decode bResu_keyOf 43 = .ok (.iload 5, 2) := by decide +kernel
theorem dResu_keyOf_45 : decode bResu_keyOf 45 = .ok (.iconst 4, 1) := by decide +kernel
theorem dResu_keyOf_46 : decode bResu_keyOf 46 = .ok (.if_icmp .ge 36, 3) := by decide +kernel
theorem dResu_keyOf_49 : decode bResu_keyOf 49 = .ok (.lload_n 3, 1) := by decide +kernel
theorem dResu_keyOf_50 : decode bResu_keyOf 50 = .ok (.iconst 3, 1) := by decide +kernel
theorem dResu_keyOf_51 : decode bResu_keyOf 51 = .ok (.lshl, 1) := by decide +kernel
theorem dResu_keyOf_52 : decode bResu_keyOf 52 = .ok (.iload 5, 2) := by decide +kernel
theorem dResu_keyOf_54 : decode bResu_keyOf 54 = .ok (.iload_n 2, 1) := by decide +kernel
theorem dResu_keyOf_55 : decode bResu_keyOf 55 = .ok (.if_icmp .ge 17, 3) := by decide +kernel
theorem dResu_keyOf_58 : decode bResu_keyOf 58 = .ok (.iload 5, 2) := by decide +kernel
theorem dResu_keyOf_60 : decode bResu_keyOf 60 = .ok (.aload_n 1, 1) := by decide +kernel
theorem dResu_keyOf_61 : decode bResu_keyOf 61 = .ok (.arraylength, 1) := by decide +kernel
theorem dResu_keyOf_62 : decode bResu_keyOf 62 = .ok (.if_icmp .ge 10, 3) := by decide +kernel
theorem dResu_keyOf_65 : decode bResu_keyOf 65 = .ok (.aload_n 1, 1) := by decide +kernel
theorem dResu_keyOf_66 : decode bResu_keyOf 66 = .ok (.iload 5, 2) := by decide +kernel
theorem dResu_keyOf_68 : decode bResu_keyOf 68 = .ok (.iaload, 1) := by decide +kernel
theorem dResu_keyOf_69 : decode bResu_keyOf 69 = .ok (.goto 4, 3) := by decide +kernel
theorem dResu_keyOf_72 : decode bResu_keyOf 72 = .ok (.iconst 0, 1) := by decide +kernel
theorem dResu_keyOf_73 : decode bResu_keyOf 73 = .ok (.i2l, 1) := by decide +kernel
theorem dResu_keyOf_74 : decode bResu_keyOf 74 = .ok (.lor, 1) := by decide +kernel
theorem dResu_keyOf_75 : decode bResu_keyOf 75 = .ok (.lstore_n 3, 1) := by decide +kernel
theorem dResu_keyOf_76 : decode bResu_keyOf 76 = .ok (.iinc 5 1, 3) := by decide +kernel
theorem dResu_keyOf_79 : decode bResu_keyOf 79 = .ok (.goto (-36), 3) := by decide +kernel
theorem dResu_keyOf_82 : decode bResu_keyOf 82 = .ok (.lload_n 3, 1) := by decide +kernel
theorem dResu_keyOf_83 : decode bResu_keyOf 83 = .ok (.lreturn, 1) := by decide +kernel
theorem dResu_signsOf_0 : decode bResu_signsOf 0 = .ok (.aload_n 0, 1) := by decide +kernel
theorem dResu_signsOf_1 : decode bResu_signsOf 1 = .ok (.iload_n 1, 1) := by decide +kernel
theorem dResu_signsOf_2 : decode bResu_signsOf 2 = .ok (.iconst 0, 1) := by decide +kernel
theorem dResu_signsOf_3 : decode bResu_signsOf 3 = .ok (.invokevirtual 39, 3) := by decide +kernel
theorem dResu_signsOf_6 : decode bResu_signsOf 6 = .ok (.ireturn, 1) := by decide +kernel
theorem dResu_signOf_0 : decode bResu_signOf 0 = .ok (.aload_n 0, 1) := by decide +kernel
theorem dResu_signOf_1 : decode bResu_signOf 1 = .ok (.iload_n 1, 1) := by decide +kernel
theorem dResu_signOf_2 : decode bResu_signOf 2 = .ok (.iconst 1, 1) := by decide +kernel
theorem dResu_signOf_3 : decode bResu_signOf 3 = .ok (.iload_n 2, 1) := by decide +kernel
theorem dResu_signOf_4 : decode bResu_signOf 4 = .ok (.iadd, 1) := by decide +kernel
theorem dResu_signOf_5 : decode bResu_signOf 5 = .ok (.invokevirtual 39, 3) := by decide +kernel
theorem dResu_signOf_8 : decode bResu_signOf 8 = .ok (.ireturn, 1) := by decide +kernel
theorem dResu_entriesOf_0 : decode bResu_entriesOf 0 = .ok (.aload_n 0, 1) := by decide +kernel
theorem dResu_entriesOf_1 : decode bResu_entriesOf 1 = .ok (.iload_n 1, 1) := by decide +kernel
theorem dResu_entriesOf_2 : decode bResu_entriesOf 2 = .ok (.bipush 6, 2) := by decide +kernel
theorem dResu_entriesOf_4 : decode bResu_entriesOf 4 = .ok (.invokevirtual 39, 3) := by decide +kernel
theorem dResu_entriesOf_7 : decode bResu_entriesOf 7 = .ok (.ireturn, 1) := by decide +kernel
theorem dResu_entryOf_0 : decode bResu_entryOf 0 = .ok (.aload_n 0, 1) := by decide +kernel
theorem dResu_entryOf_1 : decode bResu_entryOf 1 = .ok (.iload_n 1, 1) := by decide +kernel
theorem dResu_entryOf_2 : decode bResu_entryOf 2 = .ok (.bipush 7, 2) := by decide +kernel
theorem dResu_entryOf_4 : decode bResu_entryOf 4 = .ok (.iload_n 2, 1) := by decide +kernel
theorem dResu_entryOf_5 : decode bResu_entryOf 5 = .ok (.iadd, 1) := by decide +kernel
theorem dResu_entryOf_6 : decode bResu_entryOf 6 = .ok (.invokevirtual 39, 3) := by decide +kernel
theorem dResu_entryOf_9 : decode bResu_entryOf 9 = .ok (.ireturn, 1) := by decide +kernel
theorem dResu_digitOf_0 : decode bResu_digitOf 0 = .ok (.ldc2_w 43, 3) := by decide +kernel
theorem dResu_digitOf_3 : decode bResu_digitOf 3 = .ok (.lstore_n 3, 1) := by decide +kernel
theorem dResu_digitOf_4 : decode bResu_digitOf 4 = .ok (.aload_n 0, 1) := by decide +kernel
theorem dResu_digitOf_5 : decode bResu_digitOf 5 = .ok (.getfield 9, 3) := by decide +kernel
theorem dResu_digitOf_8 : decode bResu_digitOf 8 = .ok (.iload_n 1, 1) := by decide +kernel
theorem dResu_digitOf_9 : decode bResu_digitOf 9 = .ok (.laload, 1) := by decide +kernel
theorem dResu_digitOf_10 : decode bResu_digitOf 10 = .ok (.iconst 3, 1) := by decide +kernel
theorem dResu_digitOf_11 : decode bResu_digitOf 11 = .ok (.bipush 10, 2) := by decide +kernel
theorem dResu_digitOf_13 : decode bResu_digitOf 13 = .ok (.iload_n 2, 1) := by decide +kernel
theorem dResu_digitOf_14 : decode bResu_digitOf 14 = .ok (.isub, 1) := by decide +kernel
theorem dResu_digitOf_15 : decode bResu_digitOf 15 = .ok (.imul, 1) := by decide +kernel
theorem dResu_digitOf_16 : decode bResu_digitOf 16 = .ok (.lshr, 1) := by decide +kernel
theorem dResu_digitOf_17 : decode bResu_digitOf 17 = .ok (.lload_n 3, 1) := by decide +kernel
theorem dResu_digitOf_18 : decode bResu_digitOf 18 = .ok (.land, 1) := by decide +kernel
theorem dResu_digitOf_19 : decode bResu_digitOf 19 = .ok (.l2i, 1) := by decide +kernel
theorem dResu_digitOf_20 : decode bResu_digitOf 20 = .ok (.ireturn, 1) := by decide +kernel
theorem dRule_init_0 : decode bRule_init 0 = .ok (.aload_n 0, 1) := by decide +kernel
theorem dRule_init_1 : decode bRule_init 1 = .ok (.invokespecial 3, 3) := by decide +kernel
theorem dRule_init_4 : decode bRule_init 4 = .ok (.aload_n 0, 1) := by decide +kernel
theorem dRule_init_5 : decode bRule_init 5 = .ok (.new 9, 3) := by decide +kernel
theorem dRule_init_8 : decode bRule_init 8 = .ok (.dup, 1) := by decide +kernel
theorem dRule_init_9 : decode bRule_init 9 = .ok (.iconst 1, 1) := by decide +kernel
theorem dRule_init_10 : decode bRule_init 10 = .ok (.invokespecial 11, 3) := by decide +kernel
theorem dRule_init_13 : decode bRule_init 13 = .ok (.putfield 14, 3) := by decide +kernel
theorem dRule_init_16 : decode bRule_init 16 = .ok (.aload_n 0, 1) := by decide +kernel
theorem dRule_init_17 : decode bRule_init 17 = .ok (.new 9, 3) := by decide +kernel
theorem dRule_init_20 : decode bRule_init 20 = .ok (.dup, 1) := by decide +kernel
theorem dRule_init_21 : decode bRule_init 21 = .ok (.iconst 0, 1) := by decide +kernel
theorem dRule_init_22 : decode bRule_init 22 = .ok (.invokespecial 11, 3) := by decide +kernel
theorem dRule_init_25 : decode bRule_init 25 = .ok (.putfield 20, 3) := by decide +kernel
theorem dRule_init_28 : decode bRule_init 28 = .ok (.aload_n 0, 1) := by decide +kernel
theorem dRule_init_29 : decode bRule_init 29 = .ok (.iconst 4, 1) := by decide +kernel
theorem dRule_init_30 : decode bRule_init 30 = .ok (.newarray .int, 2) := by decide +kernel
theorem dRule_init_32 : decode bRule_init 32 = .ok (.putfield 23, 3) := by decide +kernel
theorem dRule_init_35 : decode bRule_init 35 = .ok (.aload_n 0, 1) := by decide +kernel
theorem dRule_init_36 : decode bRule_init 36 = .ok (.iconst 4, 1) := by decide +kernel
theorem dRule_init_37 : decode bRule_init 37 = .ok (.newarray .int, 2) := by decide +kernel
theorem dRule_init_39 : decode bRule_init 39 = .ok (.putfield 27, 3) := by decide +kernel
theorem dRule_init_42 : decode bRule_init 42 = .ok (.aload_n 0, 1) := by decide +kernel
theorem dRule_init_43 : decode bRule_init 43 = .ok (.iconst 4, 1) := by decide +kernel
theorem dRule_init_44 : decode bRule_init 44 = .ok (.newarray .int, 2) := by decide +kernel
theorem dRule_init_46 : decode bRule_init 46 = .ok (.putfield 30, 3) := by decide +kernel
theorem dRule_init_49 : decode bRule_init 49 = .ok (.aload_n 0, 1) := by decide +kernel
theorem dRule_init_50 : decode bRule_init 50 = .ok (.iconst 4, 1) := by decide +kernel
theorem dRule_init_51 : decode bRule_init 51 = .ok (.newarray .int, 2) := by decide +kernel
theorem dRule_init_53 : decode bRule_init 53 = .ok (.putfield 33, 3) := by decide +kernel
theorem dRule_init_56 : decode bRule_init 56 = .ok (.aload_n 0, 1) := by decide +kernel
theorem dRule_init_57 : decode bRule_init 57 = .ok (.bipush 10, 2) := by decide +kernel
theorem dRule_init_59 : decode bRule_init 59 = .ok (.newarray .int, 2) := by decide +kernel
theorem dRule_init_61 : decode bRule_init 61 = .ok (.putfield 36, 3) := by decide +kernel
theorem dRule_init_64 : decode bRule_init 64 = .ok (.aload_n 0, 1) := by decide +kernel
theorem dRule_init_65 : decode bRule_init 65 = .ok (.bipush 10, 2) := by decide +kernel
theorem dRule_init_67 : decode bRule_init 67 = .ok (.newarray .int, 2) := by decide +kernel
theorem dRule_init_69 : decode bRule_init 69 = .ok (.putfield 39, 3) := by decide +kernel
theorem dRule_init_72 : decode bRule_init 72 = .ok (.return_, 1) := by decide +kernel
theorem dRule_count_0 : decode bRule_count 0 = .ok (.aload_n 0, 1) := by decide +kernel
theorem dRule_count_1 : decode bRule_count 1 = .ok (.getfield 42, 3) := by decide +kernel
theorem dRule_count_4 : decode bRule_count 4 = .ok (.ireturn, 1) := by decide +kernel
theorem dRule_add_0 : decode bRule_add 0 = .ok (.aload_n 0, 1) := by decide +kernel
theorem dRule_add_1 : decode bRule_add 1 = .ok (.getfield 23, 3) := by decide +kernel
theorem dRule_add_4 : decode bRule_add 4 = .ok (.aload_n 0, 1) := by decide +kernel
theorem dRule_add_5 : decode bRule_add 5 = .ok (.getfield 42, 3) := by decide +kernel
theorem dRule_add_8 : decode bRule_add 8 = .ok (.iload_n 1, 1) := by decide +kernel
theorem dRule_add_9 : decode bRule_add 9 = .ok (.iastore, 1) := by decide +kernel
theorem dRule_add_10 : decode bRule_add 10 = .ok (.aload_n 0, 1) := by decide +kernel
theorem dRule_add_11 : decode bRule_add 11 = .ok (.getfield 27, 3) := by decide +kernel
theorem dRule_add_14 : decode bRule_add 14 = .ok (.aload_n 0, 1) := by decide +kernel
theorem dRule_add_15 : decode bRule_add 15 = .ok (.getfield 42, 3) := by decide +kernel
theorem dRule_add_18 : decode bRule_add 18 = .ok (.iload_n 2, 1) := by decide +kernel
theorem dRule_add_19 : decode bRule_add 19 = .ok (.iastore, 1) := by decide +kernel
theorem dRule_add_20 : decode bRule_add 20 = .ok (.aload_n 0, 1) := by decide +kernel
theorem dRule_add_21 : decode bRule_add 21 = .ok (.dup, 1) := by decide +kernel
theorem dRule_add_22 : decode bRule_add 22 = .ok (.getfield 42, 3) := by decide +kernel
theorem dRule_add_25 : decode bRule_add 25 = .ok (.iconst 1, 1) := by decide +kernel
theorem dRule_add_26 : decode bRule_add 26 = .ok (.iadd, 1) := by decide +kernel
theorem dRule_add_27 : decode bRule_add 27 = .ok (.putfield 42, 3) := by decide +kernel
theorem dRule_add_30 : decode bRule_add 30 = .ok (.aload_n 0, 1) := by decide +kernel
theorem dRule_add_31 : decode bRule_add 31 = .ok (.getfield 42, 3) := by decide +kernel
theorem dRule_add_34 : decode bRule_add 34 = .ok (.iconst 1, 1) := by decide +kernel
theorem dRule_add_35 : decode bRule_add 35 = .ok (.isub, 1) := by decide +kernel
theorem dRule_add_36 : decode bRule_add 36 = .ok (.ireturn, 1) := by decide +kernel
theorem dRule_contextsOf_0 : decode bRule_contextsOf 0 = .ok (.aload_n 0, 1) := by decide +kernel
theorem dRule_contextsOf_1 : decode bRule_contextsOf 1 = .ok (.getfield 30, 3) := by decide +kernel
theorem dRule_contextsOf_4 : decode bRule_contextsOf 4 = .ok (.iload_n 1, 1) := by decide +kernel
theorem dRule_contextsOf_5 : decode bRule_contextsOf 5 = .ok (.iaload, 1) := by decide +kernel
theorem dRule_contextsOf_6 : decode bRule_contextsOf 6 = .ok (.ireturn, 1) := by decide +kernel
theorem dRule_latestContextOf_0 : decode bRule_latestContextOf 0 = .ok (.iconst 2, 1) := by decide +kernel
theorem dRule_latestContextOf_1 : decode bRule_latestContextOf 1 = .ok (.iload_n 1, 1) := by decide +kernel
theorem dRule_latestContextOf_2 : decode bRule_latestContextOf 2 = .ok (.imul, 1) := by decide +kernel
theorem dRule_latestContextOf_3 : decode bRule_latestContextOf 3 = .ok (.aload_n 0, 1) := by decide +kernel
theorem dRule_latestContextOf_4 : decode bRule_latestContextOf 4 = .ok (.getfield 30, 3) := by decide +kernel
theorem dRule_latestContextOf_7 : decode bRule_latestContextOf 7 = .ok (.iload_n 1, 1) := by decide +kernel
theorem dRule_latestContextOf_8 : decode bRule_latestContextOf 8 = .ok (.iaload, 1) := by decide +kernel
theorem dRule_latestContextOf_9 : decode bRule_latestContextOf 9 = .ok (.iadd, 1) := by decide +kernel
theorem dRule_latestContextOf_10 : decode bRule_latestContextOf 10 = .ok (.iconst 1, 1) := by decide +kernel
theorem dRule_latestContextOf_11 : decode bRule_latestContextOf 11 = .ok (.isub, 1) := by decide +kernel
theorem dRule_latestContextOf_12 : decode bRule_latestContextOf 12 = .ok (.ireturn, 1) := by decide +kernel
theorem dRule_addContext_0 : decode bRule_addContext 0 = .ok (.aload_n 0, 1) := by decide +kernel
theorem dRule_addContext_1 : decode bRule_addContext 1 = .ok (.getfield 30, 3) := by decide +kernel
theorem dRule_addContext_4 : decode bRule_addContext 4 = .ok (.iload_n 1, 1) := by decide +kernel
theorem dRule_addContext_5 : decode bRule_addContext 5 = .ok (.dup2, 1) := by decide +kernel
theorem dRule_addContext_6 : decode bRule_addContext 6 = .ok (.iaload, 1) := by decide +kernel
theorem dRule_addContext_7 : decode bRule_addContext 7 = .ok (.iconst 1, 1) := by decide +kernel
theorem dRule_addContext_8 : decode bRule_addContext 8 = .ok (.iadd, 1) := by decide +kernel
theorem dRule_addContext_9 : decode bRule_addContext 9 = .ok (.iastore, 1) := by decide +kernel
theorem dRule_addContext_10 : decode bRule_addContext 10 = .ok (.aload_n 0, 1) := by decide +kernel
theorem dRule_addContext_11 : decode bRule_addContext 11 = .ok (.iload_n 1, 1) := by decide +kernel
theorem dRule_addContext_12 : decode bRule_addContext 12 = .ok (.invokevirtual 46, 3) := by decide +kernel
theorem dRule_addContext_15 : decode bRule_addContext 15 = .ok (.istore 4, 2) := by decide +kernel
theorem dRule_addContext_17 : decode bRule_addContext 17 = .ok (.aload_n 0, 1) := by decide +kernel
theorem dRule_addContext_18 : decode bRule_addContext 18 = .ok (.getfield 14, 3) := by decide +kernel
theorem dRule_addContext_21 : decode bRule_addContext 21 = .ok (.iload 4, 2) := by decide +kernel
theorem dRule_addContext_23 : decode bRule_addContext 23 = .ok (.iload_n 2, 1) := by decide +kernel
theorem dRule_addContext_24 : decode bRule_addContext 24 = .ok (.invokevirtual 50, 3) := by decide +kernel
theorem dRule_addContext_27 : decode bRule_addContext 27 = .ok (.aload_n 0, 1) := by decide +kernel
theorem dRule_addContext_28 : decode bRule_addContext 28 = .ok (.getfield 20, 3) := by decide +kernel
theorem dRule_addContext_31 : decode bRule_addContext 31 = .ok (.iload 4, 2) := by decide +kernel
theorem dRule_addContext_33 : decode bRule_addContext 33 = .ok (.iload_n 3, 1) := by decide +kernel
theorem dRule_addContext_34 : decode bRule_addContext 34 = .ok (.invokevirtual 50, 3) := by decide +kernel
theorem dRule_addContext_37 : decode bRule_addContext 37 = .ok (.aload_n 0, 1) := by decide +kernel
theorem dRule_addContext_38 : decode bRule_addContext 38 = .ok (.getfield 33, 3) := by decide +kernel
theorem dRule_addContext_41 : decode bRule_addContext 41 = .ok (.iload_n 1, 1) := by decide +kernel
theorem dRule_addContext_42 : decode bRule_addContext 42 = .ok (.dup2, 1) := by decide +kernel
theorem dRule_addContext_43 : decode bRule_addContext 43 = .ok (.iaload, 1) := by decide +kernel
theorem dRule_addContext_44 : decode bRule_addContext 44 = .ok (.iload 4, 2) := by decide +kernel
theorem dRule_addContext_46 : decode bRule_addContext 46 = .ok (.invokestatic 54, 3) := by decide +kernel
theorem dRule_addContext_49 : decode bRule_addContext 49 = .ok (.ior, 1) := by decide +kernel
theorem dRule_addContext_50 : decode bRule_addContext 50 = .ok (.iastore, 1) := by decide +kernel
theorem dRule_addContext_51 : decode bRule_addContext 51 = .ok (.aload_n 0, 1) := by decide +kernel
theorem dRule_addContext_52 : decode bRule_addContext 52 = .ok (.getfield 30, 3) := by decide +kernel
theorem dRule_addContext_55 : decode bRule_addContext 55 = .ok (.iload_n 1, 1) := by decide +kernel
theorem dRule_addContext_56 : decode bRule_addContext 56 = .ok (.iaload, 1) := by decide +kernel
theorem dRule_addContext_57 : decode bRule_addContext 57 = .ok (.ireturn, 1) := by decide +kernel
theorem dRule_settle_0 : decode bRule_settle 0 = .ok (.iconst 0, 1) := by decide +kernel
theorem dRule_settle_1 : decode bRule_settle 1 = .ok (.istore_n 2, 1) := by decide +kernel
theorem dRule_settle_2 : decode bRule_settle 2 = .ok (.iload_n 2, 1) := by decide +kernel
theorem dRule_settle_3 : decode bRule_settle 3 = .ok (.aload_n 1, 1) := by decide +kernel
theorem dRule_settle_4 : decode bRule_settle 4 = .ok (.invokevirtual 57, 3) := by decide +kernel
theorem dRule_settle_7 : decode bRule_settle 7 = .ok (.if_icmp .ge 148, 3) := by decide +kernel
theorem dRule_settle_10 : decode bRule_settle 10 = .ok (.aload_n 0, 1) := by decide +kernel
theorem dRule_settle_11 : decode bRule_settle 11 = .ok (.getfield 36, 3) := by decide +kernel
theorem dRule_settle_14 : decode bRule_settle 14 = .ok (.iload_n 2, 1) := by decide +kernel
theorem dRule_settle_15 : decode bRule_settle 15 = .ok (.iconst 0, 1) := by decide +kernel
theorem dRule_settle_16 : decode bRule_settle 16 = .ok (.iastore, 1) := by decide +kernel
theorem dRule_settle_17 : decode bRule_settle 17 = .ok (.aload_n 0, 1) := by decide +kernel
theorem dRule_settle_18 : decode bRule_settle 18 = .ok (.getfield 39, 3) := by decide +kernel
theorem dRule_settle_21 : decode bRule_settle 21 = .ok (.iload_n 2, 1) := by decide +kernel
theorem dRule_settle_22 : decode bRule_settle 22 = .ok (.iconst 0, 1) := by decide +kernel
theorem dRule_settle_23 : decode bRule_settle 23 = .ok (.iastore, 1) := by decide +kernel
theorem dRule_settle_24 : decode bRule_settle 24 = .ok (.iconst 0, 1) := by decide +kernel
theorem dRule_settle_25 : decode bRule_settle 25 = .ok (.istore_n 3, 1) := by decide +kernel
theorem dRule_settle_26 : decode bRule_settle 26 = .ok (.iload_n 3, 1) := by decide +kernel
theorem dRule_settle_27 : decode bRule_settle 27 = .ok (.aload_n 0, 1) := by decide +kernel
theorem dRule_settle_28 : decode bRule_settle 28 = .ok (.getfield 42, 3) := by decide +kernel
theorem dRule_settle_31 : decode bRule_settle 31 = .ok (.if_icmp .ge 118, 3) := by decide +kernel
theorem dRule_settle_34 : decode bRule_settle 34 = .ok (.iload_n 2, 1) := by decide +kernel
theorem dRule_settle_35 : decode bRule_settle 35 = .ok (.aload_n 0, 1) := by decide +kernel
theorem dRule_settle_36 : decode bRule_settle 36 = .ok (.getfield 27, 3) := by decide +kernel
theorem dRule_settle_39 : decode bRule_settle 39 = .ok (.iload_n 3, 1) := by decide +kernel
theorem dRule_settle_40 : decode bRule_settle 40 = .ok (.iaload, 1) := by decide +kernel
theorem dRule_settle_41 : decode bRule_settle 41 = .ok (.if_icmp .ne 7, 3) := by decide +kernel
theorem dRule_settle_44 : decode bRule_settle 44 = .ok (.iconst 1, 1) := by decide +kernel
theorem dRule_settle_45 : decode bRule_settle 45 = .ok (.goto 4, 3) := by decide +kernel
theorem dRule_settle_48 : decode bRule_settle 48 = .ok (.iconst 0, 1) := by decide +kernel
theorem dRule_settle_49 : decode bRule_settle 49 = .ok (.istore 4, 2) := by decide +kernel
theorem dRule_settle_51 : decode bRule_settle 51 = .ok (.iload 4, 2) := by decide +kernel
theorem dRule_settle_53 : decode bRule_settle 53 = .ok (.ifCond .ne 25, 3) := by decide +kernel
theorem dRule_settle_56 : decode bRule_settle 56 = .ok (.aload_n 1, 1) := by decide +kernel
theorem dRule_settle_57 : decode bRule_settle 57 = .ok (.iload_n 2, 1) := by decide +kernel
theorem dRule_settle_58 : decode bRule_settle 58 = .ok (.invokevirtual 62, 3) := by decide +kernel
theorem dRule_settle_61 : decode bRule_settle 61 = .ok (.aload_n 1, 1) := by decide +kernel
theorem dRule_settle_62 : decode bRule_settle 62 = .ok (.aload_n 0, 1) := by decide +kernel
theorem dRule_settle_63 : decode bRule_settle 63 = .ok (.getfield 27, 3) := by decide +kernel
theorem dRule_settle_66 : decode bRule_settle 66 = .ok (.iload_n 3, 1) := by decide +kernel
theorem dRule_settle_67 : decode bRule_settle 67 = .ok (.iaload, 1) := by decide +kernel
theorem dRule_settle_68 : decode bRule_settle 68 = .ok (.invokevirtual 62, 3) := by decide +kernel
theorem dRule_settle_71 : decode bRule_settle 71 = .ok (.if_icmp .ne 7, 3) := by decide +kernel
theorem dRule_settle_74 : decode bRule_settle 74 = .ok (.iconst 1, 1) := by decide +kernel
theorem dRule_settle_75 : decode bRule_settle 75 = .ok (.goto 4, 3) := by decide +kernel
theorem dRule_settle_78 : decode bRule_settle 78 = .ok (.iconst 0, 1) := by decide +kernel
theorem dRule_settle_79 : decode bRule_settle 79 = .ok (.istore 5, 2) := by decide +kernel
theorem dRule_settle_81 : decode bRule_settle 81 = .ok (.aload_n 0, 1) := by decide +kernel
theorem dRule_settle_82 : decode bRule_settle 82 = .ok (.getfield 36, 3) := by decide +kernel
theorem dRule_settle_85 : decode bRule_settle 85 = .ok (.iload_n 2, 1) := by decide +kernel
theorem dRule_settle_86 : decode bRule_settle 86 = .ok (.dup2, 1) := by decide +kernel
theorem dRule_settle_87 : decode bRule_settle 87 = .ok (.iaload, 1) := by decide +kernel
theorem dRule_settle_88 : decode bRule_settle 88 = .ok (.aload_n 0, 1) := by decide +kernel
theorem dRule_settle_89 : decode bRule_settle 89 = .ok (.getfield 23, 3) := by decide +kernel
theorem dRule_settle_92 : decode bRule_settle 92 = .ok (.iload_n 3, 1) := by decide +kernel
theorem dRule_settle_93 : decode bRule_settle 93 = .ok (.iaload, 1) := by decide +kernel
theorem dRule_settle_94 : decode bRule_settle 94 = .ok (.iload 4, 2) := by decide +kernel
theorem dRule_settle_96 : decode bRule_settle 96 = .ok (.invokestatic 65, 3) := by decide +kernel
theorem dRule_settle_99 : decode bRule_settle 99 = .ok (.ifCond .eq 9, 3) := by decide +kernel
theorem dRule_settle_102 : decode bRule_settle 102 = .ok (.iconst 1, 1) := by decide +kernel
theorem dRule_settle_103 : decode bRule_settle 103 = .ok (.iload_n 3, 1) := by decide +kernel
theorem dRule_settle_104 : decode bRule_settle 104 = .ok (.ishl, 1) := by decide +kernel
theorem dRule_settle_105 : decode bRule_settle 105 = .ok (.goto 4, 3) := by decide +kernel
theorem dRule_settle_108 : decode bRule_settle 108 = .ok (.iconst 0, 1) := by decide +kernel
theorem dRule_settle_109 : decode bRule_settle 109 = .ok (.ior, 1) := by decide +kernel
theorem dRule_settle_110 : decode bRule_settle 110 = .ok (.iastore, 1) := by decide +kernel
theorem dRule_settle_111 : decode bRule_settle 111 = .ok (.aload_n 0, 1) := by decide +kernel
theorem dRule_settle_112 : decode bRule_settle 112 = .ok (.getfield 39, 3) := by decide +kernel
theorem dRule_settle_115 : decode bRule_settle 115 = .ok (.iload_n 2, 1) := by decide +kernel
theorem dRule_settle_116 : decode bRule_settle 116 = .ok (.dup2, 1) := by decide +kernel
theorem dRule_settle_117 : decode bRule_settle 117 = .ok (.iaload, 1) := by decide +kernel
theorem dRule_settle_118 : decode bRule_settle 118 = .ok (.aload_n 0, 1) := by decide +kernel
theorem dRule_settle_119 : decode bRule_settle 119 = .ok (.getfield 23, 3) := by decide +kernel
theorem dRule_settle_122 : decode bRule_settle 122 = .ok (.iload_n 3, 1) := by decide +kernel
theorem dRule_settle_123 : decode bRule_settle 123 = .ok (.iaload, 1) := by decide +kernel
theorem dRule_settle_124 : decode bRule_settle 124 = .ok (.iload 4, 2) := by decide +kernel
theorem dRule_settle_126 : decode bRule_settle 126 = .ok (.iload 5, 2) := by decide +kernel
theorem dRule_settle_128 : decode bRule_settle 128 = .ok (.invokestatic 69, 3) := by decide +kernel
theorem dRule_settle_131 : decode bRule_settle 131 = .ok (.ifCond .eq 9, 3) := by decide +kernel
theorem dRule_settle_134 : decode bRule_settle 134 = .ok (.iconst 1, 1) := by decide +kernel
theorem dRule_settle_135 : decode bRule_settle 135 = .ok (.iload_n 3, 1) := by decide +kernel
theorem dRule_settle_136 : decode bRule_settle 136 = .ok (.ishl, 1) := by decide +kernel
theorem dRule_settle_137 : decode bRule_settle 137 = .ok (.goto 4, 3) := by decide +kernel
theorem dRule_settle_140 : decode bRule_settle 140 = .ok (.iconst 0, 1) := by decide +kernel
theorem dRule_settle_141 : decode bRule_settle 141 = .ok (.ior, 1) := by decide +kernel
theorem dRule_settle_142 : decode bRule_settle 142 = .ok (.iastore, 1) := by decide +kernel
theorem dRule_settle_143 : decode bRule_settle 143 = .ok (.iinc 3 1, 3) := by decide +kernel
theorem dRule_settle_146 : decode bRule_settle 146 = .ok (.goto (-120), 3) := by decide +kernel
theorem dRule_settle_149 : decode bRule_settle 149 = .ok (.iinc 2 1, 3) := by decide +kernel
theorem dRule_settle_152 : decode bRule_settle 152 = .ok (.goto (-150), 3) := by decide +kernel
theorem dRule_settle_155 : decode bRule_settle 155 = .ok (.return_, 1) := by decide +kernel
theorem dRule_asks_0 : decode bRule_asks 0 = .ok (.iload_n 1, 1) := by decide +kernel
theorem dRule_asks_1 : decode bRule_asks 1 = .ok (.ifCond .eq 16, 3) := by decide +kernel
theorem dRule_asks_4 : decode bRule_asks 4 = .ok (.iload_n 0, 1) := by decide +kernel
theorem dRule_asks_5 : decode bRule_asks 5 = .ok (.ifCond .eq 8, 3) := by decide +kernel
theorem dRule_asks_8 : decode bRule_asks 8 = .ok (.iload_n 0, 1) := by decide +kernel
theorem dRule_asks_9 : decode bRule_asks 9 = .ok (.iconst 2, 1) := by decide +kernel
theorem dRule_asks_10 : decode bRule_asks 10 = .ok (.if_icmp .ne 7, 3) := by decide +kernel
theorem dRule_asks_13 : decode bRule_asks 13 = .ok (.iconst 1, 1) := by decide +kernel
theorem dRule_asks_14 : decode bRule_asks 14 = .ok (.goto 4, 3) := by decide +kernel
theorem dRule_asks_17 : decode bRule_asks 17 = .ok (.iconst 0, 1) := by decide +kernel
theorem dRule_asks_18 : decode bRule_asks 18 = .ok (.ireturn, 1) := by decide +kernel
theorem dRule_bars_0 : decode bRule_bars 0 = .ok (.iload_n 2, 1) := by decide +kernel
theorem dRule_bars_1 : decode bRule_bars 1 = .ok (.ifCond .eq 13, 3) := by decide +kernel
theorem dRule_bars_4 : decode bRule_bars 4 = .ok (.iload_n 0, 1) := by decide +kernel
theorem dRule_bars_5 : decode bRule_bars 5 = .ok (.iconst 1, 1) := by decide +kernel
theorem dRule_bars_6 : decode bRule_bars 6 = .ok (.if_icmp .eq 17, 3) := by decide +kernel
theorem dRule_bars_9 : decode bRule_bars 9 = .ok (.iload_n 0, 1) := by decide +kernel
theorem dRule_bars_10 : decode bRule_bars 10 = .ok (.iconst 2, 1) := by decide +kernel
theorem dRule_bars_11 : decode bRule_bars 11 = .ok (.if_icmp .eq 12, 3) := by decide +kernel
theorem dRule_bars_14 : decode bRule_bars 14 = .ok (.iload_n 1, 1) := by decide +kernel
theorem dRule_bars_15 : decode bRule_bars 15 = .ok (.ifCond .eq 12, 3) := by decide +kernel
theorem dRule_bars_18 : decode bRule_bars 18 = .ok (.iload_n 0, 1) := by decide +kernel
theorem dRule_bars_19 : decode bRule_bars 19 = .ok (.iconst 3, 1) := by decide +kernel
theorem dRule_bars_20 : decode bRule_bars 20 = .ok (.if_icmp .ne 7, 3) := by decide +kernel
theorem dRule_bars_23 : decode bRule_bars 23 = .ok (.iconst 1, 1) := by decide +kernel
theorem dRule_bars_24 : decode bRule_bars 24 = .ok (.goto 4, 3) := by decide +kernel
theorem dRule_bars_27 : decode bRule_bars 27 = .ok (.iconst 0, 1) := by decide +kernel
theorem dRule_bars_28 : decode bRule_bars 28 = .ok (.ireturn, 1) := by decide +kernel
theorem dRule_brokenBy_0 : decode bRule_brokenBy 0 = .ok (.iload_n 2, 1) := by decide +kernel
theorem dRule_brokenBy_1 : decode bRule_brokenBy 1 = .ok (.iload_n 3, 1) := by decide +kernel
theorem dRule_brokenBy_2 : decode bRule_brokenBy 2 = .ok (.iand, 1) := by decide +kernel
theorem dRule_brokenBy_3 : decode bRule_brokenBy 3 = .ok (.istore 4, 2) := by decide +kernel
theorem dRule_brokenBy_5 : decode bRule_brokenBy 5 = .ok (.iconst 0, 1) := by decide +kernel
theorem dRule_brokenBy_6 : decode bRule_brokenBy 6 = .ok (.istore 5, 2) := by decide +kernel
theorem dRule_brokenBy_8 : decode bRule_brokenBy 8 = .ok (.iconst 0, 1) := by decide +kernel
theorem dRule_brokenBy_9 : decode bRule_brokenBy 9 = .ok (.istore 6, 2) := by decide +kernel
theorem dRule_brokenBy_11 : decode bRule_brokenBy 11 = .ok (.iload 6, 2) := by decide +kernel
theorem dRule_brokenBy_13 : decode bRule_brokenBy 13 = .ok (.aload_n 0, 1) := by decide +kernel
theorem dRule_brokenBy_14 : decode bRule_brokenBy 14 = .ok (.getfield 42, 3) := by decide +kernel
theorem dRule_brokenBy_17 : decode bRule_brokenBy 17 = .ok (.if_icmp .ge 31, 3) := by decide +kernel
theorem dRule_brokenBy_20 : decode bRule_brokenBy 20 = .ok (.iload 4, 2) := by decide +kernel
theorem dRule_brokenBy_22 : decode bRule_brokenBy 22 = .ok (.aload_n 0, 1) := by decide +kernel
theorem dRule_brokenBy_23 : decode bRule_brokenBy 23 = .ok (.getfield 33, 3) := by decide +kernel
theorem dRule_brokenBy_26 : decode bRule_brokenBy 26 = .ok (.iload 6, 2) := by decide +kernel
theorem dRule_brokenBy_28 : decode bRule_brokenBy 28 = .ok (.iaload, 1) := by decide +kernel
theorem dRule_brokenBy_29 : decode bRule_brokenBy 29 = .ok (.iand, 1) := by decide +kernel
theorem dRule_brokenBy_30 : decode bRule_brokenBy 30 = .ok (.ifCond .eq 12, 3) := by decide +kernel
theorem dRule_brokenBy_33 : decode bRule_brokenBy 33 = .ok (.iload 5, 2) := by decide +kernel
theorem dRule_brokenBy_35 : decode bRule_brokenBy 35 = .ok (.iconst 1, 1) := by decide +kernel
theorem dRule_brokenBy_36 : decode bRule_brokenBy 36 = .ok (.iload 6, 2) := by decide +kernel
theorem dRule_brokenBy_38 : decode bRule_brokenBy 38 = .ok (.ishl, 1) := by decide +kernel
theorem dRule_brokenBy_39 : decode bRule_brokenBy 39 = .ok (.ior, 1) := by decide +kernel
theorem dRule_brokenBy_40 : decode bRule_brokenBy 40 = .ok (.istore 5, 2) := by decide +kernel
theorem dRule_brokenBy_42 : decode bRule_brokenBy 42 = .ok (.iinc 6 1, 3) := by decide +kernel
theorem dRule_brokenBy_45 : decode bRule_brokenBy 45 = .ok (.goto (-34), 3) := by decide +kernel
theorem dRule_brokenBy_48 : decode bRule_brokenBy 48 = .ok (.aload_n 0, 1) := by decide +kernel
theorem dRule_brokenBy_49 : decode bRule_brokenBy 49 = .ok (.getfield 36, 3) := by decide +kernel
theorem dRule_brokenBy_52 : decode bRule_brokenBy 52 = .ok (.iload_n 1, 1) := by decide +kernel
theorem dRule_brokenBy_53 : decode bRule_brokenBy 53 = .ok (.iaload, 1) := by decide +kernel
theorem dRule_brokenBy_54 : decode bRule_brokenBy 54 = .ok (.iload 5, 2) := by decide +kernel
theorem dRule_brokenBy_56 : decode bRule_brokenBy 56 = .ok (.iconst (-1), 1) := by decide +kernel
theorem dRule_brokenBy_57 : decode bRule_brokenBy 57 = .ok (.ixor, 1) := by decide +kernel
theorem dRule_brokenBy_58 : decode bRule_brokenBy 58 = .ok (.iand, 1) := by decide +kernel
theorem dRule_brokenBy_59 : decode bRule_brokenBy 59 = .ok (.aload_n 0, 1) := by decide +kernel
theorem dRule_brokenBy_60 : decode bRule_brokenBy 60 = .ok (.getfield 39, 3) := by decide +kernel
theorem dRule_brokenBy_63 : decode bRule_brokenBy 63 = .ok (.iload_n 1, 1) := by decide +kernel
theorem dRule_brokenBy_64 : decode bRule_brokenBy 64 = .ok (.iaload, 1) := by decide +kernel
theorem dRule_brokenBy_65 : decode bRule_brokenBy 65 = .ok (.iload 5, 2) := by decide +kernel
theorem dRule_brokenBy_67 : decode bRule_brokenBy 67 = .ok (.iand, 1) := by decide +kernel
theorem dRule_brokenBy_68 : decode bRule_brokenBy 68 = .ok (.ior, 1) := by decide +kernel
theorem dRule_brokenBy_69 : decode bRule_brokenBy 69 = .ok (.ireturn, 1) := by decide +kernel
theorem dSamp_init_0 : decode bSamp_init 0 = .ok (.aload_n 0, 1) := by decide +kernel
theorem dSamp_init_1 : decode bSamp_init 1 = .ok (.invokespecial 3, 3) := by decide +kernel
theorem dSamp_init_4 : decode bSamp_init 4 = .ok (.aload_n 0, 1) := by decide +kernel
theorem dSamp_init_5 : decode bSamp_init 5 = .ok (.bipush 8, 2) := by decide +kernel
theorem dSamp_init_7 : decode bSamp_init 7 = .ok (.anewarray 9, 3) := by decide +kernel
theorem dSamp_init_10 : decode bSamp_init 10 = .ok (.putfield 11, 3) := by decide +kernel
theorem dSamp_init_13 : decode bSamp_init 13 = .ok (.aload_n 0, 1) := by decide +kernel
theorem dSamp_init_14 : decode bSamp_init 14 = .ok (.bipush 8, 2) := by decide +kernel
theorem dSamp_init_16 : decode bSamp_init 16 = .ok (.anewarray 9, 3) := by decide +kernel
theorem dSamp_init_19 : decode bSamp_init 19 = .ok (.putfield 17, 3) := by decide +kernel
theorem dSamp_init_22 : decode bSamp_init 22 = .ok (.iconst 0, 1) := by decide +kernel
theorem dSamp_init_23 : decode bSamp_init 23 = .ok (.istore_n 1, 1) := by decide +kernel
theorem dSamp_init_24 : decode bSamp_init 24 = .ok (.iload_n 1, 1) := by decide +kernel
theorem dSamp_init_25 : decode bSamp_init 25 = .ok (.bipush 8, 2) := by decide +kernel
theorem dSamp_init_27 : decode bSamp_init 27 = .ok (.if_icmp .ge 37, 3) := by decide +kernel
theorem dSamp_init_30 : decode bSamp_init 30 = .ok (.aload_n 0, 1) := by decide +kernel
theorem dSamp_init_31 : decode bSamp_init 31 = .ok (.getfield 11, 3) := by decide +kernel
theorem dSamp_init_34 : decode bSamp_init 34 = .ok (.iload_n 1, 1) := by decide +kernel
theorem dSamp_init_35 : decode bSamp_init 35 = .ok (.new 9, 3) := by decide +kernel
theorem dSamp_init_38 : decode bSamp_init 38 = .ok (.dup, 1) := by decide +kernel
theorem dSamp_init_39 : decode bSamp_init 39 = .ok (.iconst 4, 1) := by decide +kernel
theorem dSamp_init_40 : decode bSamp_init 40 = .ok (.invokespecial 20, 3) := by decide +kernel
theorem dSamp_init_43 : decode bSamp_init 43 = .ok (.aastore, 1) := by decide +kernel
theorem dSamp_init_44 : decode bSamp_init 44 = .ok (.aload_n 0, 1) := by decide +kernel
theorem dSamp_init_45 : decode bSamp_init 45 = .ok (.getfield 17, 3) := by decide +kernel
theorem dSamp_init_48 : decode bSamp_init 48 = .ok (.iload_n 1, 1) := by decide +kernel
theorem dSamp_init_49 : decode bSamp_init 49 = .ok (.new 9, 3) := by decide +kernel
theorem dSamp_init_52 : decode bSamp_init 52 = .ok (.dup, 1) := by decide +kernel
theorem dSamp_init_53 : decode bSamp_init 53 = .ok (.iconst 5, 1) := by decide +kernel
theorem dSamp_init_54 : decode bSamp_init 54 = .ok (.invokespecial 20, 3) := by decide +kernel
theorem dSamp_init_57 : decode bSamp_init 57 = .ok (.aastore, 1) := by decide +kernel
theorem dSamp_init_58 : decode bSamp_init 58 = .ok (.iinc 1 1, 3) := by decide +kernel
theorem dSamp_init_61 : decode bSamp_init 61 = .ok (.goto (-37), 3) := by decide +kernel
theorem dSamp_init_64 : decode bSamp_init 64 = .ok (.return_, 1) := by decide +kernel
theorem dSamp_count_0 : decode bSamp_count 0 = .ok (.aload_n 0, 1) := by decide +kernel
theorem dSamp_count_1 : decode bSamp_count 1 = .ok (.getfield 23, 3) := by decide +kernel
theorem dSamp_count_4 : decode bSamp_count 4 = .ok (.ireturn, 1) := by decide +kernel
theorem dSamp_lowerOf_0 : decode bSamp_lowerOf 0 = .ok (.aload_n 0, 1) := by decide +kernel
theorem dSamp_lowerOf_1 : decode bSamp_lowerOf 1 = .ok (.getfield 11, 3) := by decide +kernel
theorem dSamp_lowerOf_4 : decode bSamp_lowerOf 4 = .ok (.iload_n 1, 1) := by decide +kernel
theorem dSamp_lowerOf_5 : decode bSamp_lowerOf 5 = .ok (.aaload, 1) := by decide +kernel
theorem dSamp_lowerOf_6 : decode bSamp_lowerOf 6 = .ok (.areturn, 1) := by decide +kernel
theorem dSamp_upperOf_0 : decode bSamp_upperOf 0 = .ok (.aload_n 0, 1) := by decide +kernel
theorem dSamp_upperOf_1 : decode bSamp_upperOf 1 = .ok (.getfield 17, 3) := by decide +kernel
theorem dSamp_upperOf_4 : decode bSamp_upperOf 4 = .ok (.iload_n 1, 1) := by decide +kernel
theorem dSamp_upperOf_5 : decode bSamp_upperOf 5 = .ok (.aaload, 1) := by decide +kernel
theorem dSamp_upperOf_6 : decode bSamp_upperOf 6 = .ok (.areturn, 1) := by decide +kernel
theorem dSamp_add_0 : decode bSamp_add 0 = .ok (.aload_n 0, 1) := by decide +kernel
theorem dSamp_add_1 : decode bSamp_add 1 = .ok (.getfield 11, 3) := by decide +kernel
theorem dSamp_add_4 : decode bSamp_add 4 = .ok (.aload_n 0, 1) := by decide +kernel
theorem dSamp_add_5 : decode bSamp_add 5 = .ok (.getfield 23, 3) := by decide +kernel
theorem dSamp_add_8 : decode bSamp_add 8 = .ok (.aaload, 1) := by decide +kernel
theorem dSamp_add_9 : decode bSamp_add 9 = .ok (.aload_n 1, 1) := by decide +kernel
theorem dSamp_add_10 : decode bSamp_add 10 = .ok (.invokevirtual 27, 3) := by decide +kernel
theorem dSamp_add_13 : decode bSamp_add 13 = .ok (.aload_n 0, 1) := by decide +kernel
theorem dSamp_add_14 : decode bSamp_add 14 = .ok (.getfield 17, 3) := by decide +kernel
theorem dSamp_add_17 : decode bSamp_add 17 = .ok (.aload_n 0, 1) := by decide +kernel
theorem dSamp_add_18 : decode bSamp_add 18 = .ok (.getfield 23, 3) := by decide +kernel
theorem dSamp_add_21 : decode bSamp_add 21 = .ok (.aaload, 1) := by decide +kernel
theorem dSamp_add_22 : decode bSamp_add 22 = .ok (.aload_n 2, 1) := by decide +kernel
theorem dSamp_add_23 : decode bSamp_add 23 = .ok (.invokevirtual 27, 3) := by decide +kernel
theorem dSamp_add_26 : decode bSamp_add 26 = .ok (.aload_n 0, 1) := by decide +kernel
theorem dSamp_add_27 : decode bSamp_add 27 = .ok (.dup, 1) := by decide +kernel
theorem dSamp_add_28 : decode bSamp_add 28 = .ok (.getfield 23, 3) := by decide +kernel
theorem dSamp_add_31 : decode bSamp_add 31 = .ok (.iconst 1, 1) := by decide +kernel
theorem dSamp_add_32 : decode bSamp_add 32 = .ok (.iadd, 1) := by decide +kernel
theorem dSamp_add_33 : decode bSamp_add 33 = .ok (.putfield 23, 3) := by decide +kernel
theorem dSamp_add_36 : decode bSamp_add 36 = .ok (.aload_n 0, 1) := by decide +kernel
theorem dSamp_add_37 : decode bSamp_add 37 = .ok (.getfield 23, 3) := by decide +kernel
theorem dSamp_add_40 : decode bSamp_add 40 = .ok (.iconst 1, 1) := by decide +kernel
theorem dSamp_add_41 : decode bSamp_add 41 = .ok (.isub, 1) := by decide +kernel
theorem dSamp_add_42 : decode bSamp_add 42 = .ok (.ireturn, 1) := by decide +kernel
theorem dSear_init_0 : decode bSear_init 0 = .ok (.aload_n 0, 1) := by decide +kernel
theorem dSear_init_1 : decode bSear_init 1 = .ok (.invokespecial 3, 3) := by decide +kernel
theorem dSear_init_4 : decode bSear_init 4 = .ok (.aload_n 0, 1) := by decide +kernel
theorem dSear_init_5 : decode bSear_init 5 = .ok (.new 9, 3) := by decide +kernel
theorem dSear_init_8 : decode bSear_init 8 = .ok (.dup, 1) := by decide +kernel
theorem dSear_init_9 : decode bSear_init 9 = .ok (.iconst 4, 1) := by decide +kernel
theorem dSear_init_10 : decode bSear_init 10 = .ok (.invokespecial 11, 3) := by decide +kernel
theorem dSear_init_13 : decode bSear_init 13 = .ok (.putfield 14, 3) := by decide +kernel
theorem dSear_init_16 : decode bSear_init 16 = .ok (.aload_n 0, 1) := by decide +kernel
theorem dSear_init_17 : decode bSear_init 17 = .ok (.bipush 9, 2) := by decide +kernel
theorem dSear_init_19 : decode bSear_init 19 = .ok (.newarray .int, 2) := by decide +kernel
theorem dSear_init_21 : decode bSear_init 21 = .ok (.putfield 20, 3) := by decide +kernel
theorem dSear_init_24 : decode bSear_init 24 = .ok (.aload_n 0, 1) := by decide +kernel
theorem dSear_init_25 : decode bSear_init 25 = .ok (.bipush 10, 2) := by decide +kernel
theorem dSear_init_27 : decode bSear_init 27 = .ok (.newarray .int, 2) := by decide +kernel
theorem dSear_init_29 : decode bSear_init 29 = .ok (.putfield 24, 3) := by decide +kernel
theorem dSear_init_32 : decode bSear_init 32 = .ok (.aload_n 0, 1) := by decide +kernel
theorem dSear_init_33 : decode bSear_init 33 = .ok (.aload_n 1, 1) := by decide +kernel
theorem dSear_init_34 : decode bSear_init 34 = .ok (.putfield 27, 3) := by decide +kernel
theorem dSear_init_37 : decode bSear_init 37 = .ok (.aload_n 0, 1) := by decide +kernel
theorem dSear_init_38 : decode bSear_init 38 = .ok (.aload_n 2, 1) := by decide +kernel
theorem dSear_init_39 : decode bSear_init 39 = .ok (.putfield 31, 3) := by decide +kernel
theorem dSear_init_42 : decode bSear_init 42 = .ok (.return_, 1) := by decide +kernel
theorem dSear_goThrough_0 : decode bSear_goThrough 0 = .ok (.aload_n 0, 1) := by decide +kernel
theorem dSear_goThrough_1 : decode bSear_goThrough 1 = .ok (.getfield 14, 3) := by decide +kernel
theorem dSear_goThrough_4 : decode bSear_goThrough 4 = .ok (.aload_n 1, 1) := by decide +kernel
theorem dSear_goThrough_5 : decode bSear_goThrough 5 = .ok (.invokevirtual 35, 3) := by decide +kernel
theorem dSear_goThrough_8 : decode bSear_goThrough 8 = .ok (.aload_n 0, 1) := by decide +kernel
theorem dSear_goThrough_9 : decode bSear_goThrough 9 = .ok (.getfield 24, 3) := by decide +kernel
theorem dSear_goThrough_12 : decode bSear_goThrough 12 = .ok (.iconst 0, 1) := by decide +kernel
theorem dSear_goThrough_13 : decode bSear_goThrough 13 = .ok (.aload_n 0, 1) := by decide +kernel
theorem dSear_goThrough_14 : decode bSear_goThrough 14 = .ok (.getfield 31, 3) := by decide +kernel
theorem dSear_goThrough_17 : decode bSear_goThrough 17 = .ok (.getfield 39, 3) := by decide +kernel
theorem dSear_goThrough_20 : decode bSear_goThrough 20 = .ok (.invokevirtual 44, 3) := by decide +kernel
theorem dSear_goThrough_23 : decode bSear_goThrough 23 = .ok (.iastore, 1) := by decide +kernel
theorem dSear_goThrough_24 : decode bSear_goThrough 24 = .ok (.aload_n 0, 1) := by decide +kernel
theorem dSear_goThrough_25 : decode bSear_goThrough 25 = .ok (.iconst 0, 1) := by decide +kernel
theorem dSear_goThrough_26 : decode bSear_goThrough 26 = .ok (.iconst 0, 1) := by decide +kernel
theorem dSear_goThrough_27 : decode bSear_goThrough 27 = .ok (.iconst 0, 1) := by decide +kernel
theorem dSear_goThrough_28 : decode bSear_goThrough 28 = .ok (.invokevirtual 50, 3) := by decide +kernel
theorem dSear_goThrough_31 : decode bSear_goThrough 31 = .ok (.return_, 1) := by decide +kernel
theorem dSear_upperAt_0 : decode bSear_upperAt 0 = .ok (.aload_n 0, 1) := by decide +kernel
theorem dSear_upperAt_1 : decode bSear_upperAt 1 = .ok (.getfield 27, 3) := by decide +kernel
theorem dSear_upperAt_4 : decode bSear_upperAt 4 = .ok (.aload_n 0, 1) := by decide +kernel
theorem dSear_upperAt_5 : decode bSear_upperAt 5 = .ok (.getfield 20, 3) := by decide +kernel
theorem dSear_upperAt_8 : decode bSear_upperAt 8 = .ok (.iload_n 1, 1) := by decide +kernel
theorem dSear_upperAt_9 : decode bSear_upperAt 9 = .ok (.iaload, 1) := by decide +kernel
theorem dSear_upperAt_10 : decode bSear_upperAt 10 = .ok (.invokevirtual 54, 3) := by decide +kernel
theorem dSear_upperAt_13 : decode bSear_upperAt 13 = .ok (.ireturn, 1) := by decide +kernel
theorem dSear_extend_0 : decode bSear_extend 0 = .ok (.iload_n 2, 1) := by decide +kernel
theorem dSear_extend_1 : decode bSear_extend 1 = .ok (.aload_n 0, 1) := by decide +kernel
theorem dSear_extend_2 : decode bSear_extend 2 = .ok (.getfield 14, 3) := by decide +kernel
theorem dSear_extend_5 : decode bSear_extend 5 = .ok (.invokevirtual 60, 3) := by decide +kernel
theorem dSear_extend_8 : decode bSear_extend 8 = .ok (.if_icmp .ne 21, 3) := by decide +kernel
theorem dSear_extend_11 : decode bSear_extend 11 = .ok (.aload_n 0, 1) := by decide +kernel
theorem dSear_extend_12 : decode bSear_extend 12 = .ok (.iload_n 3, 1) := by decide +kernel
theorem dSear_extend_13 : decode bSear_extend 13 = .ok (.invokevirtual 63, 3) := by decide +kernel
theorem dSear_extend_16 : decode bSear_extend 16 = .ok (.ifCond .eq 13, 3) := by decide +kernel
theorem dSear_extend_19 : decode bSear_extend 19 = .ok (.aload_n 0, 1) := by decide +kernel
theorem dSear_extend_20 : decode bSear_extend 20 = .ok (.iload_n 1, 1) := by decide +kernel
theorem dSear_extend_21 : decode bSear_extend 21 = .ok (.aload_n 0, 1) := by decide +kernel
theorem dSear_extend_22 : decode bSear_extend 22 = .ok (.iload_n 1, 1) := by decide +kernel
theorem dSear_extend_23 : decode bSear_extend 23 = .ok (.invokevirtual 67, 3) := by decide +kernel
theorem dSear_extend_26 : decode bSear_extend 26 = .ok (.invokevirtual 70, 3) := by decide +kernel
theorem dSear_extend_29 : decode bSear_extend 29 = .ok (.iload_n 1, 1) := by decide +kernel
theorem dSear_extend_30 : decode bSear_extend 30 = .ok (.bipush 9, 2) := by decide +kernel
theorem dSear_extend_32 : decode bSear_extend 32 = .ok (.if_icmp .lt 4, 3) := by decide +kernel
theorem dSear_extend_35 : decode bSear_extend 35 = .ok (.return_, 1) := by decide +kernel
theorem dSear_extend_36 : decode bSear_extend 36 = .ok (.iconst 0, 1) := by decide +kernel
theorem dSear_extend_37 : decode bSear_extend 37 = .ok (.istore 4, 2) := by decide +kernel
theorem dSear_extend_39 : decode bSear_extend 39 = .ok (.iload 4, 2) := by decide +kernel
theorem dSear_extend_41 : decode bSear_extend 41 = .ok (.aload_n 0, 1) := by decide +kernel
theorem dSear_extend_42 : decode bSear_extend 42 = .ok (.getfield 27, 3) := by decide +kernel
theorem dSear_extend_45 : decode bSear_extend 45 = .ok (.invokevirtual 74, 3) := by decide +kernel
theorem dSear_extend_48 : decode bSear_extend 48 = .ok (.if_icmp .ge 46, 3) := by decide +kernel
theorem dSear_extend_51 : decode bSear_extend 51 = .ok (.aload_n 0, 1) := by decide +kernel
theorem dSear_extend_52 : decode bSear_extend 52 = .ok (.invokevirtual 77, 3) := by decide +kernel
theorem dSear_extend_55 : decode bSear_extend 55 = .ok (.ifCond .ne 39, 3) := by decide +kernel
theorem dSear_extend_58 : decode bSear_extend 58 = .ok (.aload_n 0, 1) := by decide +kernel
theorem dSear_extend_59 : decode bSear_extend 59 = .ok (.iload 4, 2) := by decide +kernel
theorem dSear_extend_61 : decode bSear_extend 61 = .ok (.iload_n 1, 1) := by decide +kernel
theorem dSear_extend_62 : decode bSear_extend 62 = .ok (.iload_n 2, 1) := by decide +kernel
theorem dSear_extend_63 : decode bSear_extend 63 = .ok (.invokevirtual 81, 3) := by decide +kernel
theorem dSear_extend_66 : decode bSear_extend 66 = .ok (.ifCond .eq 22, 3) := by decide +kernel
theorem dSear_extend_69 : decode bSear_extend 69 = .ok (.aload_n 0, 1) := by decide +kernel
theorem dSear_extend_70 : decode bSear_extend 70 = .ok (.iload 4, 2) := by decide +kernel
theorem dSear_extend_72 : decode bSear_extend 72 = .ok (.iload_n 3, 1) := by decide +kernel
theorem dSear_extend_73 : decode bSear_extend 73 = .ok (.invokevirtual 85, 3) := by decide +kernel
theorem dSear_extend_76 : decode bSear_extend 76 = .ok (.ifCond .eq 12, 3) := by decide +kernel
theorem dSear_extend_79 : decode bSear_extend 79 = .ok (.aload_n 0, 1) := by decide +kernel
theorem dSear_extend_80 : decode bSear_extend 80 = .ok (.iload 4, 2) := by decide +kernel
theorem dSear_extend_82 : decode bSear_extend 82 = .ok (.iload_n 1, 1) := by decide +kernel
theorem dSear_extend_83 : decode bSear_extend 83 = .ok (.iload_n 2, 1) := by decide +kernel
theorem dSear_extend_84 : decode bSear_extend 84 = .ok (.iload_n 3, 1) := by decide +kernel
theorem dSear_extend_85 : decode bSear_extend 85 = .ok (.invokevirtual 89, 3) := by decide +kernel
theorem dSear_extend_88 : decode bSear_extend 88 = .ok (.iinc 4 1, 3) := by decide +kernel
theorem dSear_extend_91 : decode bSear_extend 91 = .ok (.goto (-52), 3) := by decide +kernel
theorem dSear_extend_94 : decode bSear_extend 94 = .ok (.return_, 1) := by decide +kernel
theorem dSear_put_0 : decode bSear_put 0 = .ok (.aload_n 0, 1) := by decide +kernel
theorem dSear_put_1 : decode bSear_put 1 = .ok (.getfield 20, 3) := by decide +kernel
theorem dSear_put_4 : decode bSear_put 4 = .ok (.iload_n 2, 1) := by decide +kernel
theorem dSear_put_5 : decode bSear_put 5 = .ok (.iload_n 1, 1) := by decide +kernel
theorem dSear_put_6 : decode bSear_put 6 = .ok (.iastore, 1) := by decide +kernel
theorem dSear_put_7 : decode bSear_put 7 = .ok (.aload_n 0, 1) := by decide +kernel
theorem dSear_put_8 : decode bSear_put 8 = .ok (.getfield 24, 3) := by decide +kernel
theorem dSear_put_11 : decode bSear_put 11 = .ok (.iload_n 2, 1) := by decide +kernel
theorem dSear_put_12 : decode bSear_put 12 = .ok (.iconst 1, 1) := by decide +kernel
theorem dSear_put_13 : decode bSear_put 13 = .ok (.iadd, 1) := by decide +kernel
theorem dSear_put_14 : decode bSear_put 14 = .ok (.aload_n 0, 1) := by decide +kernel
theorem dSear_put_15 : decode bSear_put 15 = .ok (.getfield 31, 3) := by decide +kernel
theorem dSear_put_18 : decode bSear_put 18 = .ok (.getfield 39, 3) := by decide +kernel
theorem dSear_put_21 : decode bSear_put 21 = .ok (.aload_n 0, 1) := by decide +kernel
theorem dSear_put_22 : decode bSear_put 22 = .ok (.getfield 24, 3) := by decide +kernel
theorem dSear_put_25 : decode bSear_put 25 = .ok (.iload_n 2, 1) := by decide +kernel
theorem dSear_put_26 : decode bSear_put 26 = .ok (.iaload, 1) := by decide +kernel
theorem dSear_put_27 : decode bSear_put 27 = .ok (.iload_n 1, 1) := by decide +kernel
theorem dSear_put_28 : decode bSear_put 28 = .ok (.invokevirtual 93, 3) := by decide +kernel
theorem dSear_put_31 : decode bSear_put 31 = .ok (.iastore, 1) := by decide +kernel
theorem dSear_put_32 : decode bSear_put 32 = .ok (.aload_n 0, 1) := by decide +kernel
theorem dSear_put_33 : decode bSear_put 33 = .ok (.getfield 27, 3) := by decide +kernel
theorem dSear_put_36 : decode bSear_put 36 = .ok (.iload_n 1, 1) := by decide +kernel
theorem dSear_put_37 : decode bSear_put 37 = .ok (.invokevirtual 97, 3) := by decide +kernel
theorem dSear_put_40 : decode bSear_put 40 = .ok (.ifCond .ne 7, 3) := by decide +kernel
theorem dSear_put_43 : decode bSear_put 43 = .ok (.iload_n 3, 1) := by decide +kernel
theorem dSear_put_44 : decode bSear_put 44 = .ok (.goto 6, 3) := by decide +kernel
theorem dSear_put_47 : decode bSear_put 47 = .ok (.iload_n 3, 1) := by decide +kernel
theorem dSear_put_48 : decode bSear_put 48 = .ok (.iconst 1, 1) := by decide +kernel
theorem dSear_put_49 : decode bSear_put 49 = .ok (.iadd, 1) := by decide +kernel
theorem dSear_put_50 : decode bSear_put 50 = .ok (.istore 5, 2) := by decide +kernel
theorem dSear_put_52 : decode bSear_put 52 = .ok (.aload_n 0, 1) := by decide +kernel
theorem dSear_put_53 : decode bSear_put 53 = .ok (.getfield 27, 3) := by decide +kernel
theorem dSear_put_56 : decode bSear_put 56 = .ok (.iload_n 1, 1) := by decide +kernel
theorem dSear_put_57 : decode bSear_put 57 = .ok (.invokevirtual 54, 3) := by decide +kernel
theorem dSear_put_60 : decode bSear_put 60 = .ok (.ifCond .ne 8, 3) := by decide +kernel
theorem dSear_put_63 : decode bSear_put 63 = .ok (.iload 4, 2) := by decide +kernel
theorem dSear_put_65 : decode bSear_put 65 = .ok (.goto 7, 3) := by decide +kernel
theorem dSear_put_68 : decode bSear_put 68 = .ok (.iload 4, 2) := by decide +kernel
theorem dSear_put_70 : decode bSear_put 70 = .ok (.iconst 1, 1) := by decide +kernel
theorem dSear_put_71 : decode bSear_put 71 = .ok (.iadd, 1) := by decide +kernel
theorem dSear_put_72 : decode bSear_put 72 = .ok (.istore 6, 2) := by decide +kernel
theorem dSear_put_74 : decode bSear_put 74 = .ok (.aload_n 0, 1) := by decide +kernel
theorem dSear_put_75 : decode bSear_put 75 = .ok (.iload_n 2, 1) := by decide +kernel
theorem dSear_put_76 : decode bSear_put 76 = .ok (.iconst 1, 1) := by decide +kernel
theorem dSear_put_77 : decode bSear_put 77 = .ok (.iadd, 1) := by decide +kernel
theorem dSear_put_78 : decode bSear_put 78 = .ok (.iload 5, 2) := by decide +kernel
theorem dSear_put_80 : decode bSear_put 80 = .ok (.iload 6, 2) := by decide +kernel
theorem dSear_put_82 : decode bSear_put 82 = .ok (.invokevirtual 50, 3) := by decide +kernel
theorem dSear_put_85 : decode bSear_put 85 = .ok (.return_, 1) := by decide +kernel
theorem dSear_fitsLower_0 : decode bSear_fitsLower 0 = .ok (.aload_n 0, 1) := by decide +kernel
theorem dSear_fitsLower_1 : decode bSear_fitsLower 1 = .ok (.getfield 27, 3) := by decide +kernel
theorem dSear_fitsLower_4 : decode bSear_fitsLower 4 = .ok (.iload_n 1, 1) := by decide +kernel
theorem dSear_fitsLower_5 : decode bSear_fitsLower 5 = .ok (.invokevirtual 97, 3) := by decide +kernel
theorem dSear_fitsLower_8 : decode bSear_fitsLower 8 = .ok (.istore 4, 2) := by decide +kernel
theorem dSear_fitsLower_10 : decode bSear_fitsLower 10 = .ok (.iload 4, 2) := by decide +kernel
theorem dSear_fitsLower_12 : decode bSear_fitsLower 12 = .ok (.ifCond .ne 31, 3) := by decide +kernel
theorem dSear_fitsLower_15 : decode bSear_fitsLower 15 = .ok (.iload_n 2, 1) := by decide +kernel
theorem dSear_fitsLower_16 : decode bSear_fitsLower 16 = .ok (.ifCond .eq 21, 3) := by decide +kernel
theorem dSear_fitsLower_19 : decode bSear_fitsLower 19 = .ok (.aload_n 0, 1) := by decide +kernel
theorem dSear_fitsLower_20 : decode bSear_fitsLower 20 = .ok (.getfield 27, 3) := by decide +kernel
theorem dSear_fitsLower_23 : decode bSear_fitsLower 23 = .ok (.aload_n 0, 1) := by decide +kernel
theorem dSear_fitsLower_24 : decode bSear_fitsLower 24 = .ok (.getfield 20, 3) := by decide +kernel
theorem dSear_fitsLower_27 : decode bSear_fitsLower 27 = .ok (.iload_n 2, 1) := by decide +kernel
theorem dSear_fitsLower_28 : decode bSear_fitsLower 28 = .ok (.iconst 1, 1) := by decide +kernel
theorem dSear_fitsLower_29 : decode bSear_fitsLower 29 = .ok (.isub, 1) := by decide +kernel
theorem dSear_fitsLower_30 : decode bSear_fitsLower 30 = .ok (.iaload, 1) := by decide +kernel
theorem dSear_fitsLower_31 : decode bSear_fitsLower 31 = .ok (.invokevirtual 97, 3) := by decide +kernel
theorem dSear_fitsLower_34 : decode bSear_fitsLower 34 = .ok (.ifCond .eq 7, 3) := by decide +kernel
theorem dSear_fitsLower_37 : decode bSear_fitsLower 37 = .ok (.iconst 1, 1) := by decide +kernel
theorem dSear_fitsLower_38 : decode bSear_fitsLower 38 = .ok (.goto 4, 3) := by decide +kernel
theorem dSear_fitsLower_41 : decode bSear_fitsLower 41 = .ok (.iconst 0, 1) := by decide +kernel
theorem dSear_fitsLower_42 : decode bSear_fitsLower 42 = .ok (.ireturn, 1) := by decide +kernel
theorem dSear_fitsLower_43 : decode bSear_fitsLower 43 = .ok (.aload_n 0, 1) := by decide +kernel
theorem dSear_fitsLower_44 : decode bSear_fitsLower 44 = .ok (.getfield 14, 3) := by decide +kernel
theorem dSear_fitsLower_47 : decode bSear_fitsLower 47 = .ok (.iload_n 3, 1) := by decide +kernel
theorem dSear_fitsLower_48 : decode bSear_fitsLower 48 = .ok (.invokevirtual 100, 3) := by decide +kernel
theorem dSear_fitsLower_51 : decode bSear_fitsLower 51 = .ok (.iload 4, 2) := by decide +kernel
theorem dSear_fitsLower_53 : decode bSear_fitsLower 53 = .ok (.if_icmp .ne 7, 3) := by decide +kernel
theorem dSear_fitsLower_56 : decode bSear_fitsLower 56 = .ok (.iconst 1, 1) := by decide +kernel
theorem dSear_fitsLower_57 : decode bSear_fitsLower 57 = .ok (.goto 4, 3) := by decide +kernel
theorem dSear_fitsLower_60 : decode bSear_fitsLower 60 = .ok (.iconst 0, 1) := by decide +kernel
theorem dSear_fitsLower_61 : decode bSear_fitsLower 61 = .ok (.ireturn, 1) := by decide +kernel
theorem dSear_fitsUpper_0 : decode bSear_fitsUpper 0 = .ok (.aload_n 0, 1) := by decide +kernel
theorem dSear_fitsUpper_1 : decode bSear_fitsUpper 1 = .ok (.getfield 27, 3) := by decide +kernel
theorem dSear_fitsUpper_4 : decode bSear_fitsUpper 4 = .ok (.iload_n 1, 1) := by decide +kernel
theorem dSear_fitsUpper_5 : decode bSear_fitsUpper 5 = .ok (.invokevirtual 54, 3) := by decide +kernel
theorem dSear_fitsUpper_8 : decode bSear_fitsUpper 8 = .ok (.istore_n 3, 1) := by decide +kernel
theorem dSear_fitsUpper_9 : decode bSear_fitsUpper 9 = .ok (.iload_n 3, 1) := by decide +kernel
theorem dSear_fitsUpper_10 : decode bSear_fitsUpper 10 = .ok (.ifCond .eq 12, 3) := by decide +kernel
theorem dSear_fitsUpper_13 : decode bSear_fitsUpper 13 = .ok (.aload_n 0, 1) := by decide +kernel
theorem dSear_fitsUpper_14 : decode bSear_fitsUpper 14 = .ok (.iload_n 2, 1) := by decide +kernel
theorem dSear_fitsUpper_15 : decode bSear_fitsUpper 15 = .ok (.iload_n 3, 1) := by decide +kernel
theorem dSear_fitsUpper_16 : decode bSear_fitsUpper 16 = .ok (.invokevirtual 103, 3) := by decide +kernel
theorem dSear_fitsUpper_19 : decode bSear_fitsUpper 19 = .ok (.ifCond .eq 7, 3) := by decide +kernel
theorem dSear_fitsUpper_22 : decode bSear_fitsUpper 22 = .ok (.iconst 1, 1) := by decide +kernel
theorem dSear_fitsUpper_23 : decode bSear_fitsUpper 23 = .ok (.goto 4, 3) := by decide +kernel
theorem dSear_fitsUpper_26 : decode bSear_fitsUpper 26 = .ok (.iconst 0, 1) := by decide +kernel
theorem dSear_fitsUpper_27 : decode bSear_fitsUpper 27 = .ok (.ireturn, 1) := by decide +kernel
theorem dSear_brokenRules_0 : decode bSear_brokenRules 0 = .ok (.iconst 0, 1) := by decide +kernel
theorem dSear_brokenRules_1 : decode bSear_brokenRules 1 = .ok (.istore_n 2, 1) := by decide +kernel
theorem dSear_brokenRules_2 : decode bSear_brokenRules 2 = .ok (.aload_n 0, 1) := by decide +kernel
theorem dSear_brokenRules_3 : decode bSear_brokenRules 3 = .ok (.getfield 31, 3) := by decide +kernel
theorem dSear_brokenRules_6 : decode bSear_brokenRules 6 = .ok (.getfield 106, 3) := by decide +kernel
theorem dSear_brokenRules_9 : decode bSear_brokenRules 9 = .ok (.invokevirtual 44, 3) := by decide +kernel
theorem dSear_brokenRules_12 : decode bSear_brokenRules 12 = .ok (.istore_n 3, 1) := by decide +kernel
theorem dSear_brokenRules_13 : decode bSear_brokenRules 13 = .ok (.iload_n 1, 1) := by decide +kernel
theorem dSear_brokenRules_14 : decode bSear_brokenRules 14 = .ok (.iconst 1, 1) := by decide +kernel
theorem dSear_brokenRules_15 : decode bSear_brokenRules 15 = .ok (.isub, 1) := by decide +kernel
theorem dSear_brokenRules_16 : decode bSear_brokenRules 16 = .ok (.istore 4, 2) := by decide +kernel
theorem dSear_brokenRules_18 : decode bSear_brokenRules 18 = .ok (.iload 4, 2) := by decide +kernel
theorem dSear_brokenRules_20 : decode bSear_brokenRules 20 = .ok (.ifCond .lt 53, 3) := by decide +kernel
theorem dSear_brokenRules_23 : decode bSear_brokenRules 23 = .ok (.iload_n 2, 1) := by decide +kernel
theorem dSear_brokenRules_24 : decode bSear_brokenRules 24 = .ok (.aload_n 0, 1) := by decide +kernel
theorem dSear_brokenRules_25 : decode bSear_brokenRules 25 = .ok (.getfield 31, 3) := by decide +kernel
theorem dSear_brokenRules_28 : decode bSear_brokenRules 28 = .ok (.aload_n 0, 1) := by decide +kernel
theorem dSear_brokenRules_29 : decode bSear_brokenRules 29 = .ok (.getfield 20, 3) := by decide +kernel
theorem dSear_brokenRules_32 : decode bSear_brokenRules 32 = .ok (.iload 4, 2) := by decide +kernel
theorem dSear_brokenRules_34 : decode bSear_brokenRules 34 = .ok (.iaload, 1) := by decide +kernel
theorem dSear_brokenRules_35 : decode bSear_brokenRules 35 = .ok (.aload_n 0, 1) := by decide +kernel
theorem dSear_brokenRules_36 : decode bSear_brokenRules 36 = .ok (.getfield 24, 3) := by decide +kernel
theorem dSear_brokenRules_39 : decode bSear_brokenRules 39 = .ok (.iload 4, 2) := by decide +kernel
theorem dSear_brokenRules_41 : decode bSear_brokenRules 41 = .ok (.iaload, 1) := by decide +kernel
theorem dSear_brokenRules_42 : decode bSear_brokenRules 42 = .ok (.iload_n 3, 1) := by decide +kernel
theorem dSear_brokenRules_43 : decode bSear_brokenRules 43 = .ok (.invokevirtual 109, 3) := by decide +kernel
theorem dSear_brokenRules_46 : decode bSear_brokenRules 46 = .ok (.ior, 1) := by decide +kernel
theorem dSear_brokenRules_47 : decode bSear_brokenRules 47 = .ok (.istore_n 2, 1) := by decide +kernel
theorem dSear_brokenRules_48 : decode bSear_brokenRules 48 = .ok (.aload_n 0, 1) := by decide +kernel
theorem dSear_brokenRules_49 : decode bSear_brokenRules 49 = .ok (.getfield 31, 3) := by decide +kernel
theorem dSear_brokenRules_52 : decode bSear_brokenRules 52 = .ok (.getfield 106, 3) := by decide +kernel
theorem dSear_brokenRules_55 : decode bSear_brokenRules 55 = .ok (.iload_n 3, 1) := by decide +kernel
theorem dSear_brokenRules_56 : decode bSear_brokenRules 56 = .ok (.aload_n 0, 1) := by decide +kernel
theorem dSear_brokenRules_57 : decode bSear_brokenRules 57 = .ok (.getfield 20, 3) := by decide +kernel
theorem dSear_brokenRules_60 : decode bSear_brokenRules 60 = .ok (.iload 4, 2) := by decide +kernel
theorem dSear_brokenRules_62 : decode bSear_brokenRules 62 = .ok (.iaload, 1) := by decide +kernel
theorem dSear_brokenRules_63 : decode bSear_brokenRules 63 = .ok (.invokevirtual 93, 3) := by decide +kernel
theorem dSear_brokenRules_66 : decode bSear_brokenRules 66 = .ok (.istore_n 3, 1) := by decide +kernel
theorem dSear_brokenRules_67 : decode bSear_brokenRules 67 = .ok (.iinc 4 (-1), 3) := by decide +kernel
theorem dSear_brokenRules_70 : decode bSear_brokenRules 70 = .ok (.goto (-52), 3) := by decide +kernel
theorem dSear_brokenRules_73 : decode bSear_brokenRules 73 = .ok (.iload_n 2, 1) := by decide +kernel
theorem dSear_brokenRules_74 : decode bSear_brokenRules 74 = .ok (.ireturn, 1) := by decide +kernel
theorem dComp_init_0 : decode bComp_init 0 = .ok (.aload_n 0, 1) := by decide +kernel
theorem dComp_init_1 : decode bComp_init 1 = .ok (.aload_n 1, 1) := by decide +kernel
theorem dComp_init_2 : decode bComp_init 2 = .ok (.aload_n 2, 1) := by decide +kernel
theorem dComp_init_3 : decode bComp_init 3 = .ok (.invokespecial 3, 3) := by decide +kernel
theorem dComp_init_6 : decode bComp_init 6 = .ok (.aload_n 0, 1) := by decide +kernel
theorem dComp_init_7 : decode bComp_init 7 = .ok (.new 9, 3) := by decide +kernel
theorem dComp_init_10 : decode bComp_init 10 = .ok (.dup, 1) := by decide +kernel
theorem dComp_init_11 : decode bComp_init 11 = .ok (.iconst 5, 1) := by decide +kernel
theorem dComp_init_12 : decode bComp_init 12 = .ok (.invokespecial 11, 3) := by decide +kernel
theorem dComp_init_15 : decode bComp_init 15 = .ok (.putfield 14, 3) := by decide +kernel
theorem dComp_init_18 : decode bComp_init 18 = .ok (.return_, 1) := by decide +kernel
theorem dComp_finds_0 : decode bComp_finds 0 = .ok (.aload_n 0, 1) := by decide +kernel
theorem dComp_finds_1 : decode bComp_finds 1 = .ok (.getfield 14, 3) := by decide +kernel
theorem dComp_finds_4 : decode bComp_finds 4 = .ok (.aload_n 2, 1) := by decide +kernel
theorem dComp_finds_5 : decode bComp_finds 5 = .ok (.invokevirtual 20, 3) := by decide +kernel
theorem dComp_finds_8 : decode bComp_finds 8 = .ok (.aload_n 0, 1) := by decide +kernel
theorem dComp_finds_9 : decode bComp_finds 9 = .ok (.iconst 0, 1) := by decide +kernel
theorem dComp_finds_10 : decode bComp_finds 10 = .ok (.putfield 24, 3) := by decide +kernel
theorem dComp_finds_13 : decode bComp_finds 13 = .ok (.aload_n 0, 1) := by decide +kernel
theorem dComp_finds_14 : decode bComp_finds 14 = .ok (.iconst 0, 1) := by decide +kernel
theorem dComp_finds_15 : decode bComp_finds 15 = .ok (.putfield 28, 3) := by decide +kernel
theorem dComp_finds_18 : decode bComp_finds 18 = .ok (.aload_n 0, 1) := by decide +kernel
theorem dComp_finds_19 : decode bComp_finds 19 = .ok (.bipush 15, 2) := by decide +kernel
theorem dComp_finds_21 : decode bComp_finds 21 = .ok (.putfield 31, 3) := by decide +kernel
theorem dComp_finds_24 : decode bComp_finds 24 = .ok (.aload_n 0, 1) := by decide +kernel
theorem dComp_finds_25 : decode bComp_finds 25 = .ok (.aload_n 1, 1) := by decide +kernel
theorem dComp_finds_26 : decode bComp_finds 26 = .ok (.invokevirtual 35, 3) := by decide +kernel
theorem dComp_finds_29 : decode bComp_finds 29 = .ok (.aload_n 0, 1) := by decide +kernel
theorem dComp_finds_30 : decode bComp_finds 30 = .ok (.getfield 28, 3) := by decide +kernel
theorem dComp_finds_33 : decode bComp_finds 33 = .ok (.ireturn, 1) := by decide +kernel
theorem dComp_culprit_0 : decode bComp_culprit 0 = .ok (.aload_n 0, 1) := by decide +kernel
theorem dComp_culprit_1 : decode bComp_culprit 1 = .ok (.getfield 24, 3) := by decide +kernel
theorem dComp_culprit_4 : decode bComp_culprit 4 = .ok (.ifCond .ne 6, 3) := by decide +kernel
theorem dComp_culprit_7 : decode bComp_culprit 7 = .ok (.bipush (-2), 2) := by decide +kernel
theorem dComp_culprit_9 : decode bComp_culprit 9 = .ok (.ireturn, 1) := by decide +kernel
theorem dComp_culprit_10 : decode bComp_culprit 10 = .ok (.iconst 0, 1) := by decide +kernel
theorem dComp_culprit_11 : decode bComp_culprit 11 = .ok (.istore_n 1, 1) := by decide +kernel
theorem dComp_culprit_12 : decode bComp_culprit 12 = .ok (.iload_n 1, 1) := by decide +kernel
theorem dComp_culprit_13 : decode bComp_culprit 13 = .ok (.iconst 4, 1) := by decide +kernel
theorem dComp_culprit_14 : decode bComp_culprit 14 = .ok (.if_icmp .ge 23, 3) := by decide +kernel
theorem dComp_culprit_17 : decode bComp_culprit 17 = .ok (.aload_n 0, 1) := by decide +kernel
theorem dComp_culprit_18 : decode bComp_culprit 18 = .ok (.getfield 31, 3) := by decide +kernel
theorem dComp_culprit_21 : decode bComp_culprit 21 = .ok (.iload_n 1, 1) := by decide +kernel
theorem dComp_culprit_22 : decode bComp_culprit 22 = .ok (.ishr, 1) := by decide +kernel
theorem dComp_culprit_23 : decode bComp_culprit 23 = .ok (.iconst 1, 1) := by decide +kernel
theorem dComp_culprit_24 : decode bComp_culprit 24 = .ok (.iand, 1) := by decide +kernel
theorem dComp_culprit_25 : decode bComp_culprit 25 = .ok (.iconst 1, 1) := by decide +kernel
theorem dComp_culprit_26 : decode bComp_culprit 26 = .ok (.if_icmp .ne 5, 3) := by decide +kernel
theorem dComp_culprit_29 : decode bComp_culprit 29 = .ok (.iload_n 1, 1) := by decide +kernel
theorem dComp_culprit_30 : decode bComp_culprit 30 = .ok (.ireturn, 1) := by decide +kernel
theorem dComp_culprit_31 : decode bComp_culprit 31 = .ok (.iinc 1 1, 3) := by decide +kernel
theorem dComp_culprit_34 : decode bComp_culprit 34 = .ok (.goto (-22), 3) := by decide +kernel
theorem dComp_culprit_37 : decode bComp_culprit 37 = .ok (.iconst (-1), 1) := by decide +kernel
theorem dComp_culprit_38 : decode bComp_culprit 38 = .ok (.ireturn, 1) := by decide +kernel
theorem dComp_takesUpper_0 : decode bComp_takesUpper 0 = .ok (.aload_n 0, 1) := by decide +kernel
theorem dComp_takesUpper_1 : decode bComp_takesUpper 1 = .ok (.getfield 14, 3) := by decide +kernel
theorem dComp_takesUpper_4 : decode bComp_takesUpper 4 = .ok (.iload_n 1, 1) := by decide +kernel
theorem dComp_takesUpper_5 : decode bComp_takesUpper 5 = .ok (.invokevirtual 38, 3) := by decide +kernel
theorem dComp_takesUpper_8 : decode bComp_takesUpper 8 = .ok (.iload_n 2, 1) := by decide +kernel
theorem dComp_takesUpper_9 : decode bComp_takesUpper 9 = .ok (.if_icmp .ne 7, 3) := by decide +kernel
theorem dComp_takesUpper_12 : decode bComp_takesUpper 12 = .ok (.iconst 1, 1) := by decide +kernel
theorem dComp_takesUpper_13 : decode bComp_takesUpper 13 = .ok (.goto 4, 3) := by decide +kernel
theorem dComp_takesUpper_16 : decode bComp_takesUpper 16 = .ok (.iconst 0, 1) := by decide +kernel
theorem dComp_takesUpper_17 : decode bComp_takesUpper 17 = .ok (.ireturn, 1) := by decide +kernel
theorem dComp_mayEnd_0 : decode bComp_mayEnd 0 = .ok (.iload_n 1, 1) := by decide +kernel
theorem dComp_mayEnd_1 : decode bComp_mayEnd 1 = .ok (.aload_n 0, 1) := by decide +kernel
theorem dComp_mayEnd_2 : decode bComp_mayEnd 2 = .ok (.getfield 14, 3) := by decide +kernel
theorem dComp_mayEnd_5 : decode bComp_mayEnd 5 = .ok (.invokevirtual 42, 3) := by decide +kernel
theorem dComp_mayEnd_8 : decode bComp_mayEnd 8 = .ok (.if_icmp .ne 7, 3) := by decide +kernel
theorem dComp_mayEnd_11 : decode bComp_mayEnd 11 = .ok (.iconst 1, 1) := by decide +kernel
theorem dComp_mayEnd_12 : decode bComp_mayEnd 12 = .ok (.goto 4, 3) := by decide +kernel
theorem dComp_mayEnd_15 : decode bComp_mayEnd 15 = .ok (.iconst 0, 1) := by decide +kernel
theorem dComp_mayEnd_16 : decode bComp_mayEnd 16 = .ok (.ireturn, 1) := by decide +kernel
theorem dComp_meet_0 : decode bComp_meet 0 = .ok (.aload_n 0, 1) := by decide +kernel
theorem dComp_meet_1 : decode bComp_meet 1 = .ok (.iconst 1, 1) := by decide +kernel
theorem dComp_meet_2 : decode bComp_meet 2 = .ok (.putfield 24, 3) := by decide +kernel
theorem dComp_meet_5 : decode bComp_meet 5 = .ok (.aload_n 0, 1) := by decide +kernel
theorem dComp_meet_6 : decode bComp_meet 6 = .ok (.dup, 1) := by decide +kernel
theorem dComp_meet_7 : decode bComp_meet 7 = .ok (.getfield 31, 3) := by decide +kernel
theorem dComp_meet_10 : decode bComp_meet 10 = .ok (.iload_n 2, 1) := by decide +kernel
theorem dComp_meet_11 : decode bComp_meet 11 = .ok (.iand, 1) := by decide +kernel
theorem dComp_meet_12 : decode bComp_meet 12 = .ok (.putfield 31, 3) := by decide +kernel
theorem dComp_meet_15 : decode bComp_meet 15 = .ok (.iload_n 2, 1) := by decide +kernel
theorem dComp_meet_16 : decode bComp_meet 16 = .ok (.ifCond .ne 8, 3) := by decide +kernel
theorem dComp_meet_19 : decode bComp_meet 19 = .ok (.aload_n 0, 1) := by decide +kernel
theorem dComp_meet_20 : decode bComp_meet 20 = .ok (.iconst 1, 1) := by decide +kernel
theorem dComp_meet_21 : decode bComp_meet 21 = .ok (.putfield 28, 3) := by decide +kernel
theorem dComp_meet_24 : decode bComp_meet 24 = .ok (.return_, 1) := by decide +kernel
theorem dComp_isDone_0 : decode bComp_isDone 0 = .ok (.aload_n 0, 1) := by decide +kernel
theorem dComp_isDone_1 : decode bComp_isDone 1 = .ok (.getfield 28, 3) := by decide +kernel
theorem dComp_isDone_4 : decode bComp_isDone 4 = .ok (.ireturn, 1) := by decide +kernel
theorem dWrit_init_0 : decode bWrit_init 0 = .ok (.aload_n 0, 1) := by decide +kernel
theorem dWrit_init_1 : decode bWrit_init 1 = .ok (.aload_n 1, 1) := by decide +kernel
theorem dWrit_init_2 : decode bWrit_init 2 = .ok (.aload_n 2, 1) := by decide +kernel
theorem dWrit_init_3 : decode bWrit_init 3 = .ok (.invokespecial 3, 3) := by decide +kernel
theorem dWrit_init_6 : decode bWrit_init 6 = .ok (.aload_n 0, 1) := by decide +kernel
theorem dWrit_init_7 : decode bWrit_init 7 = .ok (.new 9, 3) := by decide +kernel
theorem dWrit_init_10 : decode bWrit_init 10 = .ok (.dup, 1) := by decide +kernel
theorem dWrit_init_11 : decode bWrit_init 11 = .ok (.iconst 5, 1) := by decide +kernel
theorem dWrit_init_12 : decode bWrit_init 12 = .ok (.invokespecial 11, 3) := by decide +kernel
theorem dWrit_init_15 : decode bWrit_init 15 = .ok (.putfield 14, 3) := by decide +kernel
theorem dWrit_init_18 : decode bWrit_init 18 = .ok (.aload_n 0, 1) := by decide +kernel
theorem dWrit_init_19 : decode bWrit_init 19 = .ok (.aload_n 3, 1) := by decide +kernel
theorem dWrit_init_20 : decode bWrit_init 20 = .ok (.putfield 20, 3) := by decide +kernel
theorem dWrit_init_23 : decode bWrit_init 23 = .ok (.return_, 1) := by decide +kernel
theorem dWrit_takesUpper_0 : decode bWrit_takesUpper 0 = .ok (.iload_n 1, 1) := by decide +kernel
theorem dWrit_takesUpper_1 : decode bWrit_takesUpper 1 = .ok (.iconst 5, 1) := by decide +kernel
theorem dWrit_takesUpper_2 : decode bWrit_takesUpper 2 = .ok (.if_icmp .ge 7, 3) := by decide +kernel
theorem dWrit_takesUpper_5 : decode bWrit_takesUpper 5 = .ok (.iconst 1, 1) := by decide +kernel
theorem dWrit_takesUpper_6 : decode bWrit_takesUpper 6 = .ok (.goto 4, 3) := by decide +kernel
theorem dWrit_takesUpper_9 : decode bWrit_takesUpper 9 = .ok (.iconst 0, 1) := by decide +kernel
theorem dWrit_takesUpper_10 : decode bWrit_takesUpper 10 = .ok (.ireturn, 1) := by decide +kernel
theorem dWrit_mayEnd_0 : decode bWrit_mayEnd 0 = .ok (.iconst 1, 1) := by decide +kernel
theorem dWrit_mayEnd_1 : decode bWrit_mayEnd 1 = .ok (.ireturn, 1) := by decide +kernel
theorem dWrit_meet_0 : decode bWrit_meet 0 = .ok (.iload_n 2, 1) := by decide +kernel
theorem dWrit_meet_1 : decode bWrit_meet 1 = .ok (.ifCond .eq 4, 3) := by decide +kernel
theorem dWrit_meet_4 : decode bWrit_meet 4 = .ok (.return_, 1) := by decide +kernel
theorem dWrit_meet_5 : decode bWrit_meet 5 = .ok (.aload_n 0, 1) := by decide +kernel
theorem dWrit_meet_6 : decode bWrit_meet 6 = .ok (.getfield 14, 3) := by decide +kernel
theorem dWrit_meet_9 : decode bWrit_meet 9 = .ok (.iconst 0, 1) := by decide +kernel
theorem dWrit_meet_10 : decode bWrit_meet 10 = .ok (.invokevirtual 24, 3) := by decide +kernel
theorem dWrit_meet_13 : decode bWrit_meet 13 = .ok (.iconst 0, 1) := by decide +kernel
theorem dWrit_meet_14 : decode bWrit_meet 14 = .ok (.istore_n 3, 1) := by decide +kernel
theorem dWrit_meet_15 : decode bWrit_meet 15 = .ok (.iload_n 3, 1) := by decide +kernel
theorem dWrit_meet_16 : decode bWrit_meet 16 = .ok (.iload_n 1, 1) := by decide +kernel
theorem dWrit_meet_17 : decode bWrit_meet 17 = .ok (.if_icmp .ge 30, 3) := by decide +kernel
theorem dWrit_meet_20 : decode bWrit_meet 20 = .ok (.aload_n 0, 1) := by decide +kernel
theorem dWrit_meet_21 : decode bWrit_meet 21 = .ok (.iload_n 3, 1) := by decide +kernel
theorem dWrit_meet_22 : decode bWrit_meet 22 = .ok (.invokevirtual 27, 3) := by decide +kernel
theorem dWrit_meet_25 : decode bWrit_meet 25 = .ok (.ifCond .eq 16, 3) := by decide +kernel
theorem dWrit_meet_28 : decode bWrit_meet 28 = .ok (.aload_n 0, 1) := by decide +kernel
theorem dWrit_meet_29 : decode bWrit_meet 29 = .ok (.getfield 14, 3) := by decide +kernel
theorem dWrit_meet_32 : decode bWrit_meet 32 = .ok (.aload_n 0, 1) := by decide +kernel
theorem dWrit_meet_33 : decode bWrit_meet 33 = .ok (.iload_n 3, 1) := by decide +kernel
theorem dWrit_meet_34 : decode bWrit_meet 34 = .ok (.invokevirtual 27, 3) := by decide +kernel
theorem dWrit_meet_37 : decode bWrit_meet 37 = .ok (.invokevirtual 31, 3) := by decide +kernel
theorem dWrit_meet_40 : decode bWrit_meet 40 = .ok (.pop, 1) := by decide +kernel
theorem dWrit_meet_41 : decode bWrit_meet 41 = .ok (.iinc 3 1, 3) := by decide +kernel
theorem dWrit_meet_44 : decode bWrit_meet 44 = .ok (.goto (-29), 3) := by decide +kernel
theorem dWrit_meet_47 : decode bWrit_meet 47 = .ok (.aload_n 0, 1) := by decide +kernel
theorem dWrit_meet_48 : decode bWrit_meet 48 = .ok (.getfield 20, 3) := by decide +kernel
theorem dWrit_meet_51 : decode bWrit_meet 51 = .ok (.aload_n 0, 1) := by decide +kernel
theorem dWrit_meet_52 : decode bWrit_meet 52 = .ok (.getfield 14, 3) := by decide +kernel
theorem dWrit_meet_55 : decode bWrit_meet 55 = .ok (.getstatic 34, 3) := by decide +kernel
theorem dWrit_meet_58 : decode bWrit_meet 58 = .ok (.iconst 0, 1) := by decide +kernel
theorem dWrit_meet_59 : decode bWrit_meet 59 = .ok (.invokestatic 38, 3) := by decide +kernel
theorem dWrit_meet_62 : decode bWrit_meet 62 = .ok (.invokevirtual 44, 3) := by decide +kernel
theorem dWrit_meet_65 : decode bWrit_meet 65 = .ok (.return_, 1) := by decide +kernel
theorem dWrit_isDone_0 : decode bWrit_isDone 0 = .ok (.aload_n 0, 1) := by decide +kernel
theorem dWrit_isDone_1 : decode bWrit_isDone 1 = .ok (.getfield 20, 3) := by decide +kernel
theorem dWrit_isDone_4 : decode bWrit_isDone 4 = .ok (.invokevirtual 47, 3) := by decide +kernel
theorem dWrit_isDone_7 : decode bWrit_isDone 7 = .ok (.ireturn, 1) := by decide +kernel
theorem dLexi_init_0 : decode bLexi_init 0 = .ok (.aload_n 0, 1) := by decide +kernel
theorem dLexi_init_1 : decode bLexi_init 1 = .ok (.invokespecial 3, 3) := by decide +kernel
theorem dLexi_init_4 : decode bLexi_init 4 = .ok (.aload_n 0, 1) := by decide +kernel
theorem dLexi_init_5 : decode bLexi_init 5 = .ok (.bipush 8, 2) := by decide +kernel
theorem dLexi_init_7 : decode bLexi_init 7 = .ok (.newarray .int, 2) := by decide +kernel
theorem dLexi_init_9 : decode bLexi_init 9 = .ok (.putfield 9, 3) := by decide +kernel
theorem dLexi_init_12 : decode bLexi_init 12 = .ok (.aload_n 0, 1) := by decide +kernel
theorem dLexi_init_13 : decode bLexi_init 13 = .ok (.bipush 8, 2) := by decide +kernel
theorem dLexi_init_15 : decode bLexi_init 15 = .ok (.newarray .int, 2) := by decide +kernel
theorem dLexi_init_17 : decode bLexi_init 17 = .ok (.putfield 15, 3) := by decide +kernel
theorem dLexi_init_20 : decode bLexi_init 20 = .ok (.aload_n 0, 1) := by decide +kernel
theorem dLexi_init_21 : decode bLexi_init 21 = .ok (.bipush 8, 2) := by decide +kernel
theorem dLexi_init_23 : decode bLexi_init 23 = .ok (.anewarray 18, 3) := by decide +kernel
theorem dLexi_init_26 : decode bLexi_init 26 = .ok (.putfield 20, 3) := by decide +kernel
theorem dLexi_init_29 : decode bLexi_init 29 = .ok (.aload_n 0, 1) := by decide +kernel
theorem dLexi_init_30 : decode bLexi_init 30 = .ok (.iconst 4, 1) := by decide +kernel
theorem dLexi_init_31 : decode bLexi_init 31 = .ok (.newarray .int, 2) := by decide +kernel
theorem dLexi_init_33 : decode bLexi_init 33 = .ok (.putfield 24, 3) := by decide +kernel
theorem dLexi_init_36 : decode bLexi_init 36 = .ok (.aload_n 0, 1) := by decide +kernel
theorem dLexi_init_37 : decode bLexi_init 37 = .ok (.new 18, 3) := by decide +kernel
theorem dLexi_init_40 : decode bLexi_init 40 = .ok (.dup, 1) := by decide +kernel
theorem dLexi_init_41 : decode bLexi_init 41 = .ok (.iconst 4, 1) := by decide +kernel
theorem dLexi_init_42 : decode bLexi_init 42 = .ok (.invokespecial 27, 3) := by decide +kernel
theorem dLexi_init_45 : decode bLexi_init 45 = .ok (.putfield 30, 3) := by decide +kernel
theorem dLexi_init_48 : decode bLexi_init 48 = .ok (.iconst 0, 1) := by decide +kernel
theorem dLexi_init_49 : decode bLexi_init 49 = .ok (.istore_n 1, 1) := by decide +kernel
theorem dLexi_init_50 : decode bLexi_init 50 = .ok (.iload_n 1, 1) := by decide +kernel
theorem dLexi_init_51 : decode bLexi_init 51 = .ok (.bipush 8, 2) := by decide +kernel
theorem dLexi_init_53 : decode bLexi_init 53 = .ok (.if_icmp .ge 23, 3) := by decide +kernel
theorem dLexi_init_56 : decode bLexi_init 56 = .ok (.aload_n 0, 1) := by decide +kernel
theorem dLexi_init_57 : decode bLexi_init 57 = .ok (.getfield 20, 3) := by decide +kernel
theorem dLexi_init_60 : decode bLexi_init 60 = .ok (.iload_n 1, 1) := by decide +kernel
theorem dLexi_init_61 : decode bLexi_init 61 = .ok (.new 18, 3) := by decide +kernel
theorem dLexi_init_64 : decode bLexi_init 64 = .ok (.dup, 1) := by decide +kernel
theorem dLexi_init_65 : decode bLexi_init 65 = .ok (.iconst 3, 1) := by decide +kernel
theorem dLexi_init_66 : decode bLexi_init 66 = .ok (.invokespecial 27, 3) := by decide +kernel
theorem dLexi_init_69 : decode bLexi_init 69 = .ok (.aastore, 1) := by decide +kernel
theorem dLexi_init_70 : decode bLexi_init 70 = .ok (.iinc 1 1, 3) := by decide +kernel
theorem dLexi_init_73 : decode bLexi_init 73 = .ok (.goto (-23), 3) := by decide +kernel
theorem dLexi_init_76 : decode bLexi_init 76 = .ok (.return_, 1) := by decide +kernel
theorem dLexi_count_0 : decode bLexi_count 0 = .ok (.aload_n 0, 1) := by decide +kernel
theorem dLexi_count_1 : decode bLexi_count 1 = .ok (.getfield 34, 3) := by decide +kernel
theorem dLexi_count_4 : decode bLexi_count 4 = .ok (.ireturn, 1) := by decide +kernel
theorem dLexi_signsOf_0 : decode bLexi_signsOf 0 = .ok (.aload_n 0, 1) := by decide +kernel
theorem dLexi_signsOf_1 : decode bLexi_signsOf 1 = .ok (.getfield 20, 3) := by decide +kernel
theorem dLexi_signsOf_4 : decode bLexi_signsOf 4 = .ok (.iload_n 1, 1) := by decide +kernel
theorem dLexi_signsOf_5 : decode bLexi_signsOf 5 = .ok (.aaload, 1) := by decide +kernel
theorem dLexi_signsOf_6 : decode bLexi_signsOf 6 = .ok (.areturn, 1) := by decide +kernel
theorem dLexi_add_0 : decode bLexi_add 0 = .ok (.aload_n 0, 1) := by decide +kernel
theorem dLexi_add_1 : decode bLexi_add 1 = .ok (.getfield 9, 3) := by decide +kernel
theorem dLexi_add_4 : decode bLexi_add 4 = .ok (.aload_n 0, 1) := by decide +kernel
theorem dLexi_add_5 : decode bLexi_add 5 = .ok (.getfield 34, 3) := by decide +kernel
theorem dLexi_add_8 : decode bLexi_add 8 = .ok (.iload_n 1, 1) := by decide +kernel
theorem dLexi_add_9 : decode bLexi_add 9 = .ok (.iastore, 1) := by decide +kernel
theorem dLexi_add_10 : decode bLexi_add 10 = .ok (.aload_n 0, 1) := by decide +kernel
theorem dLexi_add_11 : decode bLexi_add 11 = .ok (.getfield 15, 3) := by decide +kernel
theorem dLexi_add_14 : decode bLexi_add 14 = .ok (.aload_n 0, 1) := by decide +kernel
theorem dLexi_add_15 : decode bLexi_add 15 = .ok (.getfield 34, 3) := by decide +kernel
theorem dLexi_add_18 : decode bLexi_add 18 = .ok (.iload_n 2, 1) := by decide +kernel
theorem dLexi_add_19 : decode bLexi_add 19 = .ok (.iastore, 1) := by decide +kernel
theorem dLexi_add_20 : decode bLexi_add 20 = .ok (.aload_n 0, 1) := by decide +kernel
theorem dLexi_add_21 : decode bLexi_add 21 = .ok (.dup, 1) := by decide +kernel
theorem dLexi_add_22 : decode bLexi_add 22 = .ok (.getfield 34, 3) := by decide +kernel
theorem dLexi_add_25 : decode bLexi_add 25 = .ok (.iconst 1, 1) := by decide +kernel
theorem dLexi_add_26 : decode bLexi_add 26 = .ok (.iadd, 1) := by decide +kernel
theorem dLexi_add_27 : decode bLexi_add 27 = .ok (.putfield 34, 3) := by decide +kernel
theorem dLexi_add_30 : decode bLexi_add 30 = .ok (.aload_n 0, 1) := by decide +kernel
theorem dLexi_add_31 : decode bLexi_add 31 = .ok (.getfield 34, 3) := by decide +kernel
theorem dLexi_add_34 : decode bLexi_add 34 = .ok (.iconst 1, 1) := by decide +kernel
theorem dLexi_add_35 : decode bLexi_add 35 = .ok (.isub, 1) := by decide +kernel
theorem dLexi_add_36 : decode bLexi_add 36 = .ok (.ireturn, 1) := by decide +kernel
theorem dLexi_goOn_0 : decode bLexi_goOn 0 = .ok (.iload_n 2, 1) := by decide +kernel
theorem dLexi_goOn_1 : decode bLexi_goOn 1 = .ok (.iconst 4, 1) := by decide +kernel
theorem dLexi_goOn_2 : decode bLexi_goOn 2 = .ok (.if_icmp .lt 4, 3) := by decide +kernel
theorem dLexi_goOn_5 : decode bLexi_goOn 5 = .ok (.return_, 1) := by decide +kernel
theorem dLexi_goOn_6 : decode bLexi_goOn 6 = .ok (.iconst 0, 1) := by decide +kernel
theorem dLexi_goOn_7 : decode bLexi_goOn 7 = .ok (.istore 6, 2) := by decide +kernel
theorem dLexi_goOn_9 : decode bLexi_goOn 9 = .ok (.iload 6, 2) := by decide +kernel
theorem dLexi_goOn_11 : decode bLexi_goOn 11 = .ok (.aload_n 0, 1) := by decide +kernel
theorem dLexi_goOn_12 : decode bLexi_goOn 12 = .ok (.getfield 34, 3) := by decide +kernel
theorem dLexi_goOn_15 : decode bLexi_goOn 15 = .ok (.if_icmp .ge 57, 3) := by decide +kernel
theorem dLexi_goOn_18 : decode bLexi_goOn 18 = .ok (.aload 5, 2) := by decide +kernel
theorem dLexi_goOn_20 : decode bLexi_goOn 20 = .ok (.invokevirtual 38, 3) := by decide +kernel
theorem dLexi_goOn_23 : decode bLexi_goOn 23 = .ok (.ifCond .ne 49, 3) := by decide +kernel
theorem dLexi_goOn_26 : decode bLexi_goOn 26 = .ok (.aload_n 0, 1) := by decide +kernel
theorem dLexi_goOn_27 : decode bLexi_goOn 27 = .ok (.getfield 9, 3) := by decide +kernel
theorem dLexi_goOn_30 : decode bLexi_goOn 30 = .ok (.iload 6, 2) := by decide +kernel
theorem dLexi_goOn_32 : decode bLexi_goOn 32 = .ok (.iaload, 1) := by decide +kernel
theorem dLexi_goOn_33 : decode bLexi_goOn 33 = .ok (.iload_n 1, 1) := by decide +kernel
theorem dLexi_goOn_34 : decode bLexi_goOn 34 = .ok (.if_icmp .ne 32, 3) := by decide +kernel
theorem dLexi_goOn_37 : decode bLexi_goOn 37 = .ok (.aload_n 0, 1) := by decide +kernel
theorem dLexi_goOn_38 : decode bLexi_goOn 38 = .ok (.getfield 30, 3) := by decide +kernel
theorem dLexi_goOn_41 : decode bLexi_goOn 41 = .ok (.aload_n 0, 1) := by decide +kernel
theorem dLexi_goOn_42 : decode bLexi_goOn 42 = .ok (.getfield 20, 3) := by decide +kernel
theorem dLexi_goOn_45 : decode bLexi_goOn 45 = .ok (.iload 6, 2) := by decide +kernel
theorem dLexi_goOn_47 : decode bLexi_goOn 47 = .ok (.aaload, 1) := by decide +kernel
theorem dLexi_goOn_48 : decode bLexi_goOn 48 = .ok (.invokevirtual 44, 3) := by decide +kernel
theorem dLexi_goOn_51 : decode bLexi_goOn 51 = .ok (.ifCond .eq 15, 3) := by decide +kernel
theorem dLexi_goOn_54 : decode bLexi_goOn 54 = .ok (.aload_n 0, 1) := by decide +kernel
theorem dLexi_goOn_55 : decode bLexi_goOn 55 = .ok (.iload 6, 2) := by decide +kernel
theorem dLexi_goOn_57 : decode bLexi_goOn 57 = .ok (.iload_n 2, 1) := by decide +kernel
theorem dLexi_goOn_58 : decode bLexi_goOn 58 = .ok (.aload_n 3, 1) := by decide +kernel
theorem dLexi_goOn_59 : decode bLexi_goOn 59 = .ok (.aload 4, 2) := by decide +kernel
theorem dLexi_goOn_61 : decode bLexi_goOn 61 = .ok (.aload 5, 2) := by decide +kernel
theorem dLexi_goOn_63 : decode bLexi_goOn 63 = .ok (.invokevirtual 48, 3) := by decide +kernel
theorem dLexi_goOn_66 : decode bLexi_goOn 66 = .ok (.iinc 6 1, 3) := by decide +kernel
theorem dLexi_goOn_69 : decode bLexi_goOn 69 = .ok (.goto (-60), 3) := by decide +kernel
theorem dLexi_goOn_72 : decode bLexi_goOn 72 = .ok (.return_, 1) := by decide +kernel
theorem dLexi_put_0 : decode bLexi_put 0 = .ok (.aload_n 0, 1) := by decide +kernel
theorem dLexi_put_1 : decode bLexi_put 1 = .ok (.getfield 30, 3) := by decide +kernel
theorem dLexi_put_4 : decode bLexi_put 4 = .ok (.invokevirtual 52, 3) := by decide +kernel
theorem dLexi_put_7 : decode bLexi_put 7 = .ok (.istore 6, 2) := by decide +kernel
theorem dLexi_put_9 : decode bLexi_put 9 = .ok (.aload_n 0, 1) := by decide +kernel
theorem dLexi_put_10 : decode bLexi_put 10 = .ok (.getfield 24, 3) := by decide +kernel
theorem dLexi_put_13 : decode bLexi_put 13 = .ok (.iload_n 2, 1) := by decide +kernel
theorem dLexi_put_14 : decode bLexi_put 14 = .ok (.iload_n 1, 1) := by decide +kernel
theorem dLexi_put_15 : decode bLexi_put 15 = .ok (.iastore, 1) := by decide +kernel
theorem dLexi_put_16 : decode bLexi_put 16 = .ok (.aload_n 0, 1) := by decide +kernel
theorem dLexi_put_17 : decode bLexi_put 17 = .ok (.getfield 30, 3) := by decide +kernel
theorem dLexi_put_20 : decode bLexi_put 20 = .ok (.aload_n 0, 1) := by decide +kernel
theorem dLexi_put_21 : decode bLexi_put 21 = .ok (.getfield 20, 3) := by decide +kernel
theorem dLexi_put_24 : decode bLexi_put 24 = .ok (.iload_n 1, 1) := by decide +kernel
theorem dLexi_put_25 : decode bLexi_put 25 = .ok (.aaload, 1) := by decide +kernel
theorem dLexi_put_26 : decode bLexi_put 26 = .ok (.invokevirtual 56, 3) := by decide +kernel
theorem dLexi_put_29 : decode bLexi_put 29 = .ok (.aload_n 0, 1) := by decide +kernel
theorem dLexi_put_30 : decode bLexi_put 30 = .ok (.getfield 15, 3) := by decide +kernel
theorem dLexi_put_33 : decode bLexi_put 33 = .ok (.iload_n 1, 1) := by decide +kernel
theorem dLexi_put_34 : decode bLexi_put 34 = .ok (.iaload, 1) := by decide +kernel
theorem dLexi_put_35 : decode bLexi_put 35 = .ok (.iconst (-1), 1) := by decide +kernel
theorem dLexi_put_36 : decode bLexi_put 36 = .ok (.if_icmp .eq 24, 3) := by decide +kernel
theorem dLexi_put_39 : decode bLexi_put 39 = .ok (.aload_n 0, 1) := by decide +kernel
theorem dLexi_put_40 : decode bLexi_put 40 = .ok (.aload_n 0, 1) := by decide +kernel
theorem dLexi_put_41 : decode bLexi_put 41 = .ok (.getfield 15, 3) := by decide +kernel
theorem dLexi_put_44 : decode bLexi_put 44 = .ok (.iload_n 1, 1) := by decide +kernel
theorem dLexi_put_45 : decode bLexi_put 45 = .ok (.iaload, 1) := by decide +kernel
theorem dLexi_put_46 : decode bLexi_put 46 = .ok (.iload_n 2, 1) := by decide +kernel
theorem dLexi_put_47 : decode bLexi_put 47 = .ok (.iconst 1, 1) := by decide +kernel
theorem dLexi_put_48 : decode bLexi_put 48 = .ok (.iadd, 1) := by decide +kernel
theorem dLexi_put_49 : decode bLexi_put 49 = .ok (.aload_n 3, 1) := by decide +kernel
theorem dLexi_put_50 : decode bLexi_put 50 = .ok (.aload 4, 2) := by decide +kernel
theorem dLexi_put_52 : decode bLexi_put 52 = .ok (.aload 5, 2) := by decide +kernel
theorem dLexi_put_54 : decode bLexi_put 54 = .ok (.invokevirtual 60, 3) := by decide +kernel
theorem dLexi_put_57 : decode bLexi_put 57 = .ok (.goto 35, 3) := by decide +kernel
theorem dLexi_put_60 : decode bLexi_put 60 = .ok (.aload 4, 2) := by decide +kernel
theorem dLexi_put_62 : decode bLexi_put 62 = .ok (.aload_n 0, 1) := by decide +kernel
theorem dLexi_put_63 : decode bLexi_put 63 = .ok (.getfield 30, 3) := by decide +kernel
theorem dLexi_put_66 : decode bLexi_put 66 = .ok (.aload_n 3, 1) := by decide +kernel
theorem dLexi_put_67 : decode bLexi_put 67 = .ok (.invokevirtual 63, 3) := by decide +kernel
theorem dLexi_put_70 : decode bLexi_put 70 = .ok (.ifCond .eq 22, 3) := by decide +kernel
theorem dLexi_put_73 : decode bLexi_put 73 = .ok (.aload 5, 2) := by decide +kernel
theorem dLexi_put_75 : decode bLexi_put 75 = .ok (.aload_n 0, 1) := by decide +kernel
theorem dLexi_put_76 : decode bLexi_put 76 = .ok (.getfield 30, 3) := by decide +kernel
theorem dLexi_put_79 : decode bLexi_put 79 = .ok (.aload_n 0, 1) := by decide +kernel
theorem dLexi_put_80 : decode bLexi_put 80 = .ok (.getfield 24, 3) := by decide +kernel
theorem dLexi_put_83 : decode bLexi_put 83 = .ok (.iload_n 2, 1) := by decide +kernel
theorem dLexi_put_84 : decode bLexi_put 84 = .ok (.iconst 1, 1) := by decide +kernel
theorem dLexi_put_85 : decode bLexi_put 85 = .ok (.iadd, 1) := by decide +kernel
theorem dLexi_put_86 : decode bLexi_put 86 = .ok (.invokestatic 69, 3) := by decide +kernel
theorem dLexi_put_89 : decode bLexi_put 89 = .ok (.invokevirtual 73, 3) := by decide +kernel
theorem dLexi_put_92 : decode bLexi_put 92 = .ok (.aload_n 0, 1) := by decide +kernel
theorem dLexi_put_93 : decode bLexi_put 93 = .ok (.getfield 30, 3) := by decide +kernel
theorem dLexi_put_96 : decode bLexi_put 96 = .ok (.iload 6, 2) := by decide +kernel
theorem dLexi_put_98 : decode bLexi_put 98 = .ok (.invokevirtual 77, 3) := by decide +kernel
theorem dLexi_put_101 : decode bLexi_put 101 = .ok (.return_, 1) := by decide +kernel
