theorem dLine_init_0 : decode bLine_init 0 = .ok (.aload_n 0, 1) := by decide +kernel
theorem dLine_init_1 : decode bLine_init 1 = .ok (.invokespecial 3, 3) := by decide +kernel
theorem dLine_init_4 : decode bLine_init 4 = .ok (.aload_n 0, 1) := by decide +kernel
theorem dLine_init_5 : decode bLine_init 5 = .ok (.iload_n 1, 1) := by decide +kernel
theorem dLine_init_6 : decode bLine_init 6 = .ok (.newarray .int, 2) := by decide +kernel
theorem dLine_init_8 : decode bLine_init 8 = .ok (.putfield 9, 3) := by decide +kernel
theorem dLine_init_11 : decode bLine_init 11 = .ok (.return_, 1) := by decide +kernel
theorem dLine_size_0 : decode bLine_size 0 = .ok (.aload_n 0, 1) := by decide +kernel
theorem dLine_size_1 : decode bLine_size 1 = .ok (.getfield 15, 3) := by decide +kernel
theorem dLine_size_4 : decode bLine_size 4 = .ok (.ireturn, 1) := by decide +kernel
theorem dLine_isFull_0 : decode bLine_isFull 0 = .ok (.aload_n 0, 1) := by decide +kernel
theorem dLine_isFull_1 : decode bLine_isFull 1 = .ok (.getfield 15, 3) := by decide +kernel
theorem dLine_isFull_4 : decode bLine_isFull 4 = .ok (.aload_n 0, 1) := by decide +kernel
theorem dLine_isFull_5 : decode bLine_isFull 5 = .ok (.getfield 9, 3) := by decide +kernel
theorem dLine_isFull_8 : decode bLine_isFull 8 = .ok (.arraylength, 1) := by decide +kernel
theorem dLine_isFull_9 : decode bLine_isFull 9 = .ok (.if_icmp .lt 7, 3) := by decide +kernel
theorem dLine_isFull_12 : decode bLine_isFull 12 = .ok (.iconst 1, 1) := by decide +kernel
theorem dLine_isFull_13 : decode bLine_isFull 13 = .ok (.goto 4, 3) := by decide +kernel
theorem dLine_isFull_16 : decode bLine_isFull 16 = .ok (.iconst 0, 1) := by decide +kernel
theorem dLine_isFull_17 : decode bLine_isFull 17 = .ok (.ireturn, 1) := by decide +kernel
theorem dLine_hasRoomFor_0 : decode bLine_hasRoomFor 0 = .ok (.aload_n 1, 1) := by decide +kernel
theorem dLine_hasRoomFor_1 : decode bLine_hasRoomFor 1 = .ok (.getfield 15, 3) := by decide +kernel
theorem dLine_hasRoomFor_4 : decode bLine_hasRoomFor 4 = .ok (.aload_n 0, 1) := by decide +kernel
theorem dLine_hasRoomFor_5 : decode bLine_hasRoomFor 5 = .ok (.getfield 9, 3) := by decide +kernel
theorem dLine_hasRoomFor_8 : decode bLine_hasRoomFor 8 = .ok (.arraylength, 1) := by decide +kernel
theorem dLine_hasRoomFor_9 : decode bLine_hasRoomFor 9 = .ok (.aload_n 0, 1) := by decide +kernel
theorem dLine_hasRoomFor_10 : decode bLine_hasRoomFor 10 = .ok (.getfield 15, 3) := by decide +kernel
theorem dLine_hasRoomFor_13 : decode bLine_hasRoomFor 13 = .ok (.isub, 1) := by decide +kernel
theorem dLine_hasRoomFor_14 : decode bLine_hasRoomFor 14 = .ok (.if_icmp .gt 7, 3) := by decide +kernel
theorem dLine_hasRoomFor_17 : decode bLine_hasRoomFor 17 = .ok (.iconst 1, 1) := by decide +kernel
theorem dLine_hasRoomFor_18 : decode bLine_hasRoomFor 18 = .ok (.goto 4, 3) := by decide +kernel
theorem dLine_hasRoomFor_21 : decode bLine_hasRoomFor 21 = .ok (.iconst 0, 1) := by decide +kernel
theorem dLine_hasRoomFor_22 : decode bLine_hasRoomFor 22 = .ok (.ireturn, 1) := by decide +kernel
theorem dLine_signAt_0 : decode bLine_signAt 0 = .ok (.iload_n 1, 1) := by decide +kernel
theorem dLine_signAt_1 : decode bLine_signAt 1 = .ok (.ifCond .lt 20, 3) := by decide +kernel
theorem dLine_signAt_4 : decode bLine_signAt 4 = .ok (.iload_n 1, 1) := by decide +kernel
theorem dLine_signAt_5 : decode bLine_signAt 5 = .ok (.aload_n 0, 1) := by decide +kernel
theorem dLine_signAt_6 : decode bLine_signAt 6 = .ok (.getfield 15, 3) := by decide +kernel
theorem dLine_signAt_9 : decode bLine_signAt 9 = .ok (.if_icmp .ge 12, 3) := by decide +kernel
theorem dLine_signAt_12 : decode bLine_signAt 12 = .ok (.aload_n 0, 1) := by decide +kernel
theorem dLine_signAt_13 : decode bLine_signAt 13 = .ok (.getfield 9, 3) := by decide +kernel
theorem dLine_signAt_16 : decode bLine_signAt 16 = .ok (.iload_n 1, 1) := by decide +kernel
theorem dLine_signAt_17 : decode bLine_signAt 17 = .ok (.iaload, 1) := by decide +kernel
theorem dLine_signAt_18 : decode bLine_signAt 18 = .ok (.goto 4, 3) := by decide +kernel
theorem dLine_signAt_21 : decode bLine_signAt 21 = .ok (.iconst 0, 1) := by decide +kernel
theorem dLine_signAt_22 : decode bLine_signAt 22 = .ok (.ireturn, 1) := by decide +kernel
theorem dLine_add_0 : decode bLine_add 0 = .ok (.aload_n 0, 1) := by decide +kernel
theorem dLine_add_1 : decode bLine_add 1 = .ok (.invokevirtual 19, 3) := by decide +kernel
theorem dLine_add_4 : decode bLine_add 4 = .ok (.ifCond .ne 23, 3) := by decide +kernel
theorem dLine_add_7 : decode bLine_add 7 = .ok (.aload_n 0, 1) := by decide +kernel
theorem dLine_add_8 : decode bLine_add 8 = .ok (.getfield 9, 3) := by decide +kernel
theorem dLine_add_11 : decode bLine_add 11 = .ok (.aload_n 0, 1) := by decide +kernel
theorem dLine_add_12 : decode bLine_add 12 = .ok (.getfield 15, 3) := by decide +kernel
theorem dLine_add_15 : decode bLine_add 15 = .ok (.iload_n 1, 1) := by decide +kernel
theorem dLine_add_16 : decode bLine_add 16 = .ok (.iastore, 1) := by decide +kernel
theorem dLine_add_17 : decode bLine_add 17 = .ok (.aload_n 0, 1) := by decide +kernel
theorem dLine_add_18 : decode bLine_add 18 = .ok (.dup, 1) := by decide +kernel
theorem dLine_add_19 : decode bLine_add 19 = .ok (.getfield 15, 3) := by decide +kernel
theorem dLine_add_22 : decode bLine_add 22 = .ok (.iconst 1, 1) := by decide +kernel
theorem dLine_add_23 : decode bLine_add 23 = .ok (.iadd, 1) := by decide +kernel
theorem dLine_add_24 : decode bLine_add 24 = .ok (.putfield 15, 3) := by decide +kernel
theorem dLine_add_27 : decode bLine_add 27 = .ok (.aload_n 0, 1) := by decide +kernel
theorem dLine_add_28 : decode bLine_add 28 = .ok (.getfield 15, 3) := by decide +kernel
theorem dLine_add_31 : decode bLine_add 31 = .ok (.ireturn, 1) := by decide +kernel
theorem dLine_addAll_0 : decode bLine_addAll 0 = .ok (.iconst 0, 1) := by decide +kernel
theorem dLine_addAll_1 : decode bLine_addAll 1 = .ok (.istore_n 2, 1) := by decide +kernel
theorem dLine_addAll_2 : decode bLine_addAll 2 = .ok (.iload_n 2, 1) := by decide +kernel
theorem dLine_addAll_3 : decode bLine_addAll 3 = .ok (.aload_n 1, 1) := by decide +kernel
theorem dLine_addAll_4 : decode bLine_addAll 4 = .ok (.getfield 15, 3) := by decide +kernel
theorem dLine_addAll_7 : decode bLine_addAll 7 = .ok (.if_icmp .ge 20, 3) := by decide +kernel
theorem dLine_addAll_10 : decode bLine_addAll 10 = .ok (.aload_n 0, 1) := by decide +kernel
theorem dLine_addAll_11 : decode bLine_addAll 11 = .ok (.aload_n 1, 1) := by decide +kernel
theorem dLine_addAll_12 : decode bLine_addAll 12 = .ok (.getfield 9, 3) := by decide +kernel
theorem dLine_addAll_15 : decode bLine_addAll 15 = .ok (.iload_n 2, 1) := by decide +kernel
theorem dLine_addAll_16 : decode bLine_addAll 16 = .ok (.iaload, 1) := by decide +kernel
theorem dLine_addAll_17 : decode bLine_addAll 17 = .ok (.invokevirtual 23, 3) := by decide +kernel
theorem dLine_addAll_20 : decode bLine_addAll 20 = .ok (.pop, 1) := by decide +kernel
theorem dLine_addAll_21 : decode bLine_addAll 21 = .ok (.iinc 2 1, 3) := by decide +kernel
theorem dLine_addAll_24 : decode bLine_addAll 24 = .ok (.goto (-22), 3) := by decide +kernel
theorem dLine_addAll_27 : decode bLine_addAll 27 = .ok (.return_, 1) := by decide +kernel
theorem dLine_cutTo_0 : decode bLine_cutTo 0 = .ok (.iload_n 1, 1) := by decide +kernel
theorem dLine_cutTo_1 : decode bLine_cutTo 1 = .ok (.ifCond .lt 16, 3) := by decide +kernel
theorem dLine_cutTo_4 : decode bLine_cutTo 4 = .ok (.iload_n 1, 1) := by decide +kernel
theorem dLine_cutTo_5 : decode bLine_cutTo 5 = .ok (.aload_n 0, 1) := by decide +kernel
theorem dLine_cutTo_6 : decode bLine_cutTo 6 = .ok (.getfield 15, 3) := by decide +kernel
theorem dLine_cutTo_9 : decode bLine_cutTo 9 = .ok (.if_icmp .ge 8, 3) := by decide +kernel
theorem dLine_cutTo_12 : decode bLine_cutTo 12 = .ok (.aload_n 0, 1) := by decide +kernel
theorem dLine_cutTo_13 : decode bLine_cutTo 13 = .ok (.iload_n 1, 1) := by decide +kernel
theorem dLine_cutTo_14 : decode bLine_cutTo 14 = .ok (.putfield 15, 3) := by decide +kernel
theorem dLine_cutTo_17 : decode bLine_cutTo 17 = .ok (.return_, 1) := by decide +kernel
theorem dLine_copy_0 : decode bLine_copy 0 = .ok (.aload_n 0, 1) := by decide +kernel
theorem dLine_copy_1 : decode bLine_copy 1 = .ok (.iconst 0, 1) := by decide +kernel
theorem dLine_copy_2 : decode bLine_copy 2 = .ok (.invokevirtual 27, 3) := by decide +kernel
theorem dLine_copy_5 : decode bLine_copy 5 = .ok (.aload_n 0, 1) := by decide +kernel
theorem dLine_copy_6 : decode bLine_copy 6 = .ok (.aload_n 1, 1) := by decide +kernel
theorem dLine_copy_7 : decode bLine_copy 7 = .ok (.invokevirtual 31, 3) := by decide +kernel
theorem dLine_copy_10 : decode bLine_copy 10 = .ok (.return_, 1) := by decide +kernel
theorem dPairs_init_0 : decode bPairs_init 0 = .ok (.aload_n 0, 1) := by decide +kernel
theorem dPairs_init_1 : decode bPairs_init 1 = .ok (.invokespecial 3, 3) := by decide +kernel
theorem dPairs_init_4 : decode bPairs_init 4 = .ok (.aload_n 0, 1) := by decide +kernel
theorem dPairs_init_5 : decode bPairs_init 5 = .ok (.bipush 10, 2) := by decide +kernel
theorem dPairs_init_7 : decode bPairs_init 7 = .ok (.newarray .int, 2) := by decide +kernel
theorem dPairs_init_9 : decode bPairs_init 9 = .ok (.putfield 9, 3) := by decide +kernel
theorem dPairs_init_12 : decode bPairs_init 12 = .ok (.aload_n 0, 1) := by decide +kernel
theorem dPairs_init_13 : decode bPairs_init 13 = .ok (.bipush 10, 2) := by decide +kernel
theorem dPairs_init_15 : decode bPairs_init 15 = .ok (.newarray .int, 2) := by decide +kernel
theorem dPairs_init_17 : decode bPairs_init 17 = .ok (.putfield 15, 3) := by decide +kernel
theorem dPairs_init_20 : decode bPairs_init 20 = .ok (.return_, 1) := by decide +kernel
theorem dPairs_count_0 : decode bPairs_count 0 = .ok (.aload_n 0, 1) := by decide +kernel
theorem dPairs_count_1 : decode bPairs_count 1 = .ok (.getfield 18, 3) := by decide +kernel
theorem dPairs_count_4 : decode bPairs_count 4 = .ok (.ireturn, 1) := by decide +kernel
theorem dPairs_lowerOf_0 : decode bPairs_lowerOf 0 = .ok (.aload_n 0, 1) := by decide +kernel
theorem dPairs_lowerOf_1 : decode bPairs_lowerOf 1 = .ok (.getfield 9, 3) := by decide +kernel
theorem dPairs_lowerOf_4 : decode bPairs_lowerOf 4 = .ok (.iload_n 1, 1) := by decide +kernel
theorem dPairs_lowerOf_5 : decode bPairs_lowerOf 5 = .ok (.iaload, 1) := by decide +kernel
theorem dPairs_lowerOf_6 : decode bPairs_lowerOf 6 = .ok (.ireturn, 1) := by decide +kernel
theorem dPairs_upperOf_0 : decode bPairs_upperOf 0 = .ok (.aload_n 0, 1) := by decide +kernel
theorem dPairs_upperOf_1 : decode bPairs_upperOf 1 = .ok (.getfield 15, 3) := by decide +kernel
theorem dPairs_upperOf_4 : decode bPairs_upperOf 4 = .ok (.iload_n 1, 1) := by decide +kernel
theorem dPairs_upperOf_5 : decode bPairs_upperOf 5 = .ok (.iaload, 1) := by decide +kernel
theorem dPairs_upperOf_6 : decode bPairs_upperOf 6 = .ok (.ireturn, 1) := by decide +kernel
theorem dPairs_has_0 : decode bPairs_has 0 = .ok (.iconst 0, 1) := by decide +kernel
theorem dPairs_has_1 : decode bPairs_has 1 = .ok (.istore_n 3, 1) := by decide +kernel
theorem dPairs_has_2 : decode bPairs_has 2 = .ok (.iload_n 3, 1) := by decide +kernel
theorem dPairs_has_3 : decode bPairs_has 3 = .ok (.aload_n 0, 1) := by decide +kernel
theorem dPairs_has_4 : decode bPairs_has 4 = .ok (.getfield 18, 3) := by decide +kernel
theorem dPairs_has_7 : decode bPairs_has 7 = .ok (.if_icmp .ge 31, 3) := by decide +kernel
theorem dPairs_has_10 : decode bPairs_has 10 = .ok (.aload_n 0, 1) := by decide +kernel
theorem dPairs_has_11 : decode bPairs_has 11 = .ok (.getfield 9, 3) := by decide +kernel
theorem dPairs_has_14 : decode bPairs_has 14 = .ok (.iload_n 3, 1) := by decide +kernel
theorem dPairs_has_15 : decode bPairs_has 15 = .ok (.iaload, 1) := by decide +kernel
theorem dPairs_has_16 : decode bPairs_has 16 = .ok (.iload_n 1, 1) := by decide +kernel
theorem dPairs_has_17 : decode bPairs_has 17 = .ok (.if_icmp .ne 15, 3) := by decide +kernel
theorem dPairs_has_20 : decode bPairs_has 20 = .ok (.aload_n 0, 1) := by decide +kernel
theorem dPairs_has_21 : decode bPairs_has 21 = .ok (.getfield 15, 3) := by decide +kernel
theorem dPairs_has_24 : decode bPairs_has 24 = .ok (.iload_n 3, 1) := by decide +kernel
theorem dPairs_has_25 : decode bPairs_has 25 = .ok (.iaload, 1) := by decide +kernel
theorem dPairs_has_26 : decode bPairs_has 26 = .ok (.iload_n 2, 1) := by decide +kernel
theorem dPairs_has_27 : decode bPairs_has 27 = .ok (.if_icmp .ne 5, 3) := by decide +kernel
theorem dPairs_has_30 : decode bPairs_has 30 = .ok (.iconst 1, 1) := by decide +kernel
theorem dPairs_has_31 : decode bPairs_has 31 = .ok (.ireturn, 1) := by decide +kernel
theorem dPairs_has_32 : decode bPairs_has 32 = .ok (.iinc 3 1, 3) := by decide +kernel
theorem dPairs_has_35 : decode bPairs_has 35 = .ok (.goto (-33), 3) := by decide +kernel
theorem dPairs_has_38 : decode bPairs_has 38 = .ok (.iconst 0, 1) := by decide +kernel
theorem dPairs_has_39 : decode bPairs_has 39 = .ok (.ireturn, 1) := by decide +kernel
theorem dPairs_hasRoomFor_0 : decode bPairs_hasRoomFor 0 = .ok (.iconst 0, 1) := by decide +kernel
theorem dPairs_hasRoomFor_1 : decode bPairs_hasRoomFor 1 = .ok (.istore_n 2, 1) := by decide +kernel
theorem dPairs_hasRoomFor_2 : decode bPairs_hasRoomFor 2 = .ok (.iconst 0, 1) := by decide +kernel
theorem dPairs_hasRoomFor_3 : decode bPairs_hasRoomFor 3 = .ok (.istore_n 3, 1) := by decide +kernel
theorem dPairs_hasRoomFor_4 : decode bPairs_hasRoomFor 4 = .ok (.iload_n 3, 1) := by decide +kernel
theorem dPairs_hasRoomFor_5 : decode bPairs_hasRoomFor 5 = .ok (.aload_n 0, 1) := by decide +kernel
theorem dPairs_hasRoomFor_6 : decode bPairs_hasRoomFor 6 = .ok (.getfield 18, 3) := by decide +kernel
theorem dPairs_hasRoomFor_9 : decode bPairs_hasRoomFor 9 = .ok (.if_icmp .ge 22, 3) := by decide +kernel
theorem dPairs_hasRoomFor_12 : decode bPairs_hasRoomFor 12 = .ok (.aload_n 0, 1) := by decide +kernel
theorem dPairs_hasRoomFor_13 : decode bPairs_hasRoomFor 13 = .ok (.getfield 9, 3) := by decide +kernel
theorem dPairs_hasRoomFor_16 : decode bPairs_hasRoomFor 16 = .ok (.iload_n 3, 1) := by decide +kernel
theorem dPairs_hasRoomFor_17 : decode bPairs_hasRoomFor 17 = .ok (.iaload, 1) := by decide +kernel
theorem dPairs_hasRoomFor_18 : decode bPairs_hasRoomFor 18 = .ok (.iload_n 1, 1) := by decide +kernel
theorem dPairs_hasRoomFor_19 : decode bPairs_hasRoomFor 19 = .ok (.if_icmp .ne 6, 3) := by decide +kernel
theorem dPairs_hasRoomFor_22 : decode bPairs_hasRoomFor 22 = .ok (.iinc 2 1, 3) := by decide +kernel
theorem dPairs_hasRoomFor_25 : decode bPairs_hasRoomFor 25 = .ok (.iinc 3 1, 3) := by decide +kernel
theorem dPairs_hasRoomFor_28 : decode bPairs_hasRoomFor 28 = .ok (.goto (-24), 3) := by decide +kernel
theorem dPairs_hasRoomFor_31 : decode bPairs_hasRoomFor 31 = .ok (.iload_n 1, 1) := by decide +kernel
theorem dPairs_hasRoomFor_32 : decode bPairs_hasRoomFor 32 = .ok (.ifCond .ne 7, 3) := by decide +kernel
theorem dPairs_hasRoomFor_35 : decode bPairs_hasRoomFor 35 = .ok (.iconst 2, 1) := by decide +kernel
theorem dPairs_hasRoomFor_36 : decode bPairs_hasRoomFor 36 = .ok (.goto 4, 3) := by decide +kernel
theorem dPairs_hasRoomFor_39 : decode bPairs_hasRoomFor 39 = .ok (.iconst 3, 1) := by decide +kernel
theorem dPairs_hasRoomFor_40 : decode bPairs_hasRoomFor 40 = .ok (.istore_n 3, 1) := by decide +kernel
theorem dPairs_hasRoomFor_41 : decode bPairs_hasRoomFor 41 = .ok (.aload_n 0, 1) := by decide +kernel
theorem dPairs_hasRoomFor_42 : decode bPairs_hasRoomFor 42 = .ok (.getfield 18, 3) := by decide +kernel
theorem dPairs_hasRoomFor_45 : decode bPairs_hasRoomFor 45 = .ok (.bipush 10, 2) := by decide +kernel
theorem dPairs_hasRoomFor_47 : decode bPairs_hasRoomFor 47 = .ok (.if_icmp .ge 12, 3) := by decide +kernel
theorem dPairs_hasRoomFor_50 : decode bPairs_hasRoomFor 50 = .ok (.iload_n 2, 1) := by decide +kernel
theorem dPairs_hasRoomFor_51 : decode bPairs_hasRoomFor 51 = .ok (.iload_n 3, 1) := by decide +kernel
theorem dPairs_hasRoomFor_52 : decode bPairs_hasRoomFor 52 = .ok (.if_icmp .ge 7, 3) := by decide +kernel
theorem dPairs_hasRoomFor_55 : decode bPairs_hasRoomFor 55 = .ok (.iconst 1, 1) := by decide +kernel
theorem dPairs_hasRoomFor_56 : decode bPairs_hasRoomFor 56 = .ok (.goto 4, 3) := by decide +kernel
theorem dPairs_hasRoomFor_59 : decode bPairs_hasRoomFor 59 = .ok (.iconst 0, 1) := by decide +kernel
theorem dPairs_hasRoomFor_60 : decode bPairs_hasRoomFor 60 = .ok (.ireturn, 1) := by decide +kernel
theorem dPairs_add_0 : decode bPairs_add 0 = .ok (.aload_n 0, 1) := by decide +kernel
theorem dPairs_add_1 : decode bPairs_add 1 = .ok (.getfield 9, 3) := by decide +kernel
theorem dPairs_add_4 : decode bPairs_add 4 = .ok (.aload_n 0, 1) := by decide +kernel
theorem dPairs_add_5 : decode bPairs_add 5 = .ok (.getfield 18, 3) := by decide +kernel
theorem dPairs_add_8 : decode bPairs_add 8 = .ok (.iload_n 1, 1) := by decide +kernel
theorem dPairs_add_9 : decode bPairs_add 9 = .ok (.iastore, 1) := by decide +kernel
theorem dPairs_add_10 : decode bPairs_add 10 = .ok (.aload_n 0, 1) := by decide +kernel
theorem dPairs_add_11 : decode bPairs_add 11 = .ok (.getfield 15, 3) := by decide +kernel
theorem dPairs_add_14 : decode bPairs_add 14 = .ok (.aload_n 0, 1) := by decide +kernel
theorem dPairs_add_15 : decode bPairs_add 15 = .ok (.getfield 18, 3) := by decide +kernel
theorem dPairs_add_18 : decode bPairs_add 18 = .ok (.iload_n 2, 1) := by decide +kernel
theorem dPairs_add_19 : decode bPairs_add 19 = .ok (.iastore, 1) := by decide +kernel
theorem dPairs_add_20 : decode bPairs_add 20 = .ok (.aload_n 0, 1) := by decide +kernel
theorem dPairs_add_21 : decode bPairs_add 21 = .ok (.dup, 1) := by decide +kernel
theorem dPairs_add_22 : decode bPairs_add 22 = .ok (.getfield 18, 3) := by decide +kernel
theorem dPairs_add_25 : decode bPairs_add 25 = .ok (.iconst 1, 1) := by decide +kernel
theorem dPairs_add_26 : decode bPairs_add 26 = .ok (.iadd, 1) := by decide +kernel
theorem dPairs_add_27 : decode bPairs_add 27 = .ok (.putfield 18, 3) := by decide +kernel
theorem dPairs_add_30 : decode bPairs_add 30 = .ok (.aload_n 0, 1) := by decide +kernel
theorem dPairs_add_31 : decode bPairs_add 31 = .ok (.getfield 18, 3) := by decide +kernel
theorem dPairs_add_34 : decode bPairs_add 34 = .ok (.iconst 1, 1) := by decide +kernel
theorem dPairs_add_35 : decode bPairs_add 35 = .ok (.isub, 1) := by decide +kernel
theorem dPairs_add_36 : decode bPairs_add 36 = .ok (.ireturn, 1) := by decide +kernel
theorem dPatt_init_0 : decode bPatt_init 0 = .ok (.aload_n 0, 1) := by decide +kernel
theorem dPatt_init_1 : decode bPatt_init 1 = .ok (.invokespecial 5, 3) := by decide +kernel
theorem dPatt_init_4 : decode bPatt_init 4 = .ok (.aload_n 0, 1) := by decide +kernel
theorem dPatt_init_5 : decode bPatt_init 5 = .ok (.bipush 8, 2) := by decide +kernel
theorem dPatt_init_7 : decode bPatt_init 7 = .ok (.newarray .int, 2) := by decide +kernel
theorem dPatt_init_9 : decode bPatt_init 9 = .ok (.putfield 11, 3) := by decide +kernel
theorem dPatt_init_12 : decode bPatt_init 12 = .ok (.aload_n 0, 1) := by decide +kernel
theorem dPatt_init_13 : decode bPatt_init 13 = .ok (.bipush 10, 2) := by decide +kernel
theorem dPatt_init_15 : decode bPatt_init 15 = .ok (.newarray .int, 2) := by decide +kernel
theorem dPatt_init_17 : decode bPatt_init 17 = .ok (.putfield 15, 3) := by decide +kernel
theorem dPatt_init_20 : decode bPatt_init 20 = .ok (.aload_n 0, 1) := by decide +kernel
theorem dPatt_init_21 : decode bPatt_init 21 = .ok (.iload_n 1, 1) := by decide +kernel
theorem dPatt_init_22 : decode bPatt_init 22 = .ok (.putfield 18, 3) := by decide +kernel
theorem dPatt_init_25 : decode bPatt_init 25 = .ok (.return_, 1) := by decide +kernel
theorem dPatt_goalOf_0 : decode bPatt_goalOf 0 = .ok (.iconst 1, 1) := by decide +kernel
theorem dPatt_goalOf_1 : decode bPatt_goalOf 1 = .ok (.iconst 3, 1) := by decide +kernel
theorem dPatt_goalOf_2 : decode bPatt_goalOf 2 = .ok (.iload_n 0, 1) := by decide +kernel
theorem dPatt_goalOf_3 : decode bPatt_goalOf 3 = .ok (.imul, 1) := by decide +kernel
theorem dPatt_goalOf_4 : decode bPatt_goalOf 4 = .ok (.iconst 2, 1) := by decide +kernel
theorem dPatt_goalOf_5 : decode bPatt_goalOf 5 = .ok (.iadd, 1) := by decide +kernel
theorem dPatt_goalOf_6 : decode bPatt_goalOf 6 = .ok (.ishl, 1) := by decide +kernel
theorem dPatt_goalOf_7 : decode bPatt_goalOf 7 = .ok (.ireturn, 1) := by decide +kernel
theorem dPatt_open_0 : decode bPatt_open 0 = .ok (.aload_n 0, 1) := by decide +kernel
theorem dPatt_open_1 : decode bPatt_open 1 = .ok (.dup, 1) := by decide +kernel
theorem dPatt_open_2 : decode bPatt_open 2 = .ok (.getfield 22, 3) := by decide +kernel
theorem dPatt_open_5 : decode bPatt_open 5 = .ok (.iload_n 1, 1) := by decide +kernel
theorem dPatt_open_6 : decode bPatt_open 6 = .ok (.invokestatic 26, 3) := by decide +kernel
theorem dPatt_open_9 : decode bPatt_open 9 = .ok (.ior, 1) := by decide +kernel
theorem dPatt_open_10 : decode bPatt_open 10 = .ok (.putfield 22, 3) := by decide +kernel
theorem dPatt_open_13 : decode bPatt_open 13 = .ok (.iload_n 2, 1) := by decide +kernel
theorem dPatt_open_14 : decode bPatt_open 14 = .ok (.ifCond .ne 16, 3) := by decide +kernel
theorem dPatt_open_17 : decode bPatt_open 17 = .ok (.aload_n 0, 1) := by decide +kernel
theorem dPatt_open_18 : decode bPatt_open 18 = .ok (.dup, 1) := by decide +kernel
theorem dPatt_open_19 : decode bPatt_open 19 = .ok (.getfield 30, 3) := by decide +kernel
theorem dPatt_open_22 : decode bPatt_open 22 = .ok (.iload_n 1, 1) := by decide +kernel
theorem dPatt_open_23 : decode bPatt_open 23 = .ok (.invokestatic 26, 3) := by decide +kernel
theorem dPatt_open_26 : decode bPatt_open 26 = .ok (.ior, 1) := by decide +kernel
theorem dPatt_open_27 : decode bPatt_open 27 = .ok (.putfield 30, 3) := by decide +kernel
theorem dPatt_open_30 : decode bPatt_open 30 = .ok (.return_, 1) := by decide +kernel
theorem dPatt_elementsOf_0 : decode bPatt_elementsOf 0 = .ok (.aload_n 0, 1) := by decide +kernel
theorem dPatt_elementsOf_1 : decode bPatt_elementsOf 1 = .ok (.getfield 11, 3) := by decide +kernel
theorem dPatt_elementsOf_4 : decode bPatt_elementsOf 4 = .ok (.iload_n 1, 1) := by decide +kernel
theorem dPatt_elementsOf_5 : decode bPatt_elementsOf 5 = .ok (.iaload, 1) := by decide +kernel
theorem dPatt_elementsOf_6 : decode bPatt_elementsOf 6 = .ok (.ireturn, 1) := by decide +kernel
theorem dPatt_addElement_0 : decode bPatt_addElement 0 = .ok (.aload_n 0, 1) := by decide +kernel
theorem dPatt_addElement_1 : decode bPatt_addElement 1 = .ok (.aload_n 0, 1) := by decide +kernel
theorem dPatt_addElement_2 : decode bPatt_addElement 2 = .ok (.getfield 22, 3) := by decide +kernel
theorem dPatt_addElement_5 : decode bPatt_addElement 5 = .ok (.iload_n 1, 1) := by decide +kernel
theorem dPatt_addElement_6 : decode bPatt_addElement 6 = .ok (.invokestatic 33, 3) := by decide +kernel
theorem dPatt_addElement_9 : decode bPatt_addElement 9 = .ok (.putfield 22, 3) := by decide +kernel
theorem dPatt_addElement_12 : decode bPatt_addElement 12 = .ok (.aload_n 0, 1) := by decide +kernel
theorem dPatt_addElement_13 : decode bPatt_addElement 13 = .ok (.aload_n 0, 1) := by decide +kernel
theorem dPatt_addElement_14 : decode bPatt_addElement 14 = .ok (.getfield 30, 3) := by decide +kernel
theorem dPatt_addElement_17 : decode bPatt_addElement 17 = .ok (.iload_n 1, 1) := by decide +kernel
theorem dPatt_addElement_18 : decode bPatt_addElement 18 = .ok (.invokestatic 33, 3) := by decide +kernel
theorem dPatt_addElement_21 : decode bPatt_addElement 21 = .ok (.putfield 30, 3) := by decide +kernel
theorem dPatt_addElement_24 : decode bPatt_addElement 24 = .ok (.aload_n 0, 1) := by decide +kernel
theorem dPatt_addElement_25 : decode bPatt_addElement 25 = .ok (.getfield 18, 3) := by decide +kernel
theorem dPatt_addElement_28 : decode bPatt_addElement 28 = .ok (.ifCond .eq 8, 3) := by decide +kernel
theorem dPatt_addElement_31 : decode bPatt_addElement 31 = .ok (.aload_n 0, 1) := by decide +kernel
theorem dPatt_addElement_32 : decode bPatt_addElement 32 = .ok (.iload_n 1, 1) := by decide +kernel
theorem dPatt_addElement_33 : decode bPatt_addElement 33 = .ok (.invokevirtual 37, 3) := by decide +kernel
theorem dPatt_addElement_36 : decode bPatt_addElement 36 = .ok (.aload_n 0, 1) := by decide +kernel
theorem dPatt_addElement_37 : decode bPatt_addElement 37 = .ok (.getfield 11, 3) := by decide +kernel
theorem dPatt_addElement_40 : decode bPatt_addElement 40 = .ok (.iload_n 1, 1) := by decide +kernel
theorem dPatt_addElement_41 : decode bPatt_addElement 41 = .ok (.dup2, 1) := by decide +kernel
theorem dPatt_addElement_42 : decode bPatt_addElement 42 = .ok (.iaload, 1) := by decide +kernel
theorem dPatt_addElement_43 : decode bPatt_addElement 43 = .ok (.iconst 1, 1) := by decide +kernel
theorem dPatt_addElement_44 : decode bPatt_addElement 44 = .ok (.iadd, 1) := by decide +kernel
theorem dPatt_addElement_45 : decode bPatt_addElement 45 = .ok (.iastore, 1) := by decide +kernel
theorem dPatt_addElement_46 : decode bPatt_addElement 46 = .ok (.iload_n 1, 1) := by decide +kernel
theorem dPatt_addElement_47 : decode bPatt_addElement 47 = .ok (.invokestatic 26, 3) := by decide +kernel
theorem dPatt_addElement_50 : decode bPatt_addElement 50 = .ok (.aload_n 0, 1) := by decide +kernel
theorem dPatt_addElement_51 : decode bPatt_addElement 51 = .ok (.getfield 18, 3) := by decide +kernel
theorem dPatt_addElement_54 : decode bPatt_addElement 54 = .ok (.ifCond .eq 7, 3) := by decide +kernel
theorem dPatt_addElement_57 : decode bPatt_addElement 57 = .ok (.iconst 1, 1) := by decide +kernel
theorem dPatt_addElement_58 : decode bPatt_addElement 58 = .ok (.goto 9, 3) := by decide +kernel
theorem dPatt_addElement_61 : decode bPatt_addElement 61 = .ok (.aload_n 0, 1) := by decide +kernel
theorem dPatt_addElement_62 : decode bPatt_addElement 62 = .ok (.getfield 11, 3) := by decide +kernel
theorem dPatt_addElement_65 : decode bPatt_addElement 65 = .ok (.iload_n 1, 1) := by decide +kernel
theorem dPatt_addElement_66 : decode bPatt_addElement 66 = .ok (.iaload, 1) := by decide +kernel
theorem dPatt_addElement_67 : decode bPatt_addElement 67 = .ok (.ishr, 1) := by decide +kernel
theorem dPatt_addElement_68 : decode bPatt_addElement 68 = .ok (.istore 4, 2) := by decide +kernel
theorem dPatt_addElement_70 : decode bPatt_addElement 70 = .ok (.iconst 0, 1) := by decide +kernel
theorem dPatt_addElement_71 : decode bPatt_addElement 71 = .ok (.istore 5, 2) := by decide +kernel
theorem dPatt_addElement_73 : decode bPatt_addElement 73 = .ok (.iload 5, 2) := by decide +kernel
theorem dPatt_addElement_75 : decode bPatt_addElement 75 = .ok (.bipush 10, 2) := by decide +kernel
theorem dPatt_addElement_77 : decode bPatt_addElement 77 = .ok (.if_icmp .ge 31, 3) := by decide +kernel
theorem dPatt_addElement_80 : decode bPatt_addElement 80 = .ok (.iload_n 2, 1) := by decide +kernel
theorem dPatt_addElement_81 : decode bPatt_addElement 81 = .ok (.iload 5, 2) := by decide +kernel
theorem dPatt_addElement_83 : decode bPatt_addElement 83 = .ok (.ishr, 1) := by decide +kernel
theorem dPatt_addElement_84 : decode bPatt_addElement 84 = .ok (.iconst 1, 1) := by decide +kernel
theorem dPatt_addElement_85 : decode bPatt_addElement 85 = .ok (.iand, 1) := by decide +kernel
theorem dPatt_addElement_86 : decode bPatt_addElement 86 = .ok (.iconst 1, 1) := by decide +kernel
theorem dPatt_addElement_87 : decode bPatt_addElement 87 = .ok (.if_icmp .ne 15, 3) := by decide +kernel
theorem dPatt_addElement_90 : decode bPatt_addElement 90 = .ok (.aload_n 0, 1) := by decide +kernel
theorem dPatt_addElement_91 : decode bPatt_addElement 91 = .ok (.getfield 15, 3) := by decide +kernel
theorem dPatt_addElement_94 : decode bPatt_addElement 94 = .ok (.iload 5, 2) := by decide +kernel
theorem dPatt_addElement_96 : decode bPatt_addElement 96 = .ok (.dup2, 1) := by decide +kernel
theorem dPatt_addElement_97 : decode bPatt_addElement 97 = .ok (.iaload, 1) := by decide +kernel
theorem dPatt_addElement_98 : decode bPatt_addElement 98 = .ok (.iload 4, 2) := by decide +kernel
theorem dPatt_addElement_100 : decode bPatt_addElement 100 = .ok (.ior, 1) := by decide +kernel
theorem dPatt_addElement_101 : decode bPatt_addElement 101 = .ok (.iastore, 1) := by decide +kernel
theorem dPatt_addElement_102 : decode bPatt_addElement 102 = .ok (.iinc 5 1, 3) := by decide +kernel
theorem dPatt_addElement_105 : decode bPatt_addElement 105 = .ok (.goto (-32), 3) := by decide +kernel
theorem dPatt_addElement_108 : decode bPatt_addElement 108 = .ok (.iload_n 3, 1) := by decide +kernel
theorem dPatt_addElement_109 : decode bPatt_addElement 109 = .ok (.ifCond .eq 14, 3) := by decide +kernel
theorem dPatt_addElement_112 : decode bPatt_addElement 112 = .ok (.aload_n 0, 1) := by decide +kernel
theorem dPatt_addElement_113 : decode bPatt_addElement 113 = .ok (.dup, 1) := by decide +kernel
theorem dPatt_addElement_114 : decode bPatt_addElement 114 = .ok (.getfield 41, 3) := by decide +kernel
theorem dPatt_addElement_117 : decode bPatt_addElement 117 = .ok (.iload 4, 2) := by decide +kernel
theorem dPatt_addElement_119 : decode bPatt_addElement 119 = .ok (.ior, 1) := by decide +kernel
theorem dPatt_addElement_120 : decode bPatt_addElement 120 = .ok (.putfield 41, 3) := by decide +kernel
theorem dPatt_addElement_123 : decode bPatt_addElement 123 = .ok (.aload_n 0, 1) := by decide +kernel
theorem dPatt_addElement_124 : decode bPatt_addElement 124 = .ok (.getfield 11, 3) := by decide +kernel
theorem dPatt_addElement_127 : decode bPatt_addElement 127 = .ok (.iload_n 1, 1) := by decide +kernel
theorem dPatt_addElement_128 : decode bPatt_addElement 128 = .ok (.iaload, 1) := by decide +kernel
theorem dPatt_addElement_129 : decode bPatt_addElement 129 = .ok (.ireturn, 1) := by decide +kernel
theorem dPatt_lowerElements_0 : decode bPatt_lowerElements 0 = .ok (.aload_n 0, 1) := by decide +kernel
theorem dPatt_lowerElements_1 : decode bPatt_lowerElements 1 = .ok (.aload_n 0, 1) := by decide +kernel
theorem dPatt_lowerElements_2 : decode bPatt_lowerElements 2 = .ok (.getfield 41, 3) := by decide +kernel
theorem dPatt_lowerElements_5 : decode bPatt_lowerElements 5 = .ok (.iload_n 1, 1) := by decide +kernel
theorem dPatt_lowerElements_6 : decode bPatt_lowerElements 6 = .ok (.invokestatic 33, 3) := by decide +kernel
theorem dPatt_lowerElements_9 : decode bPatt_lowerElements 9 = .ok (.putfield 41, 3) := by decide +kernel
theorem dPatt_lowerElements_12 : decode bPatt_lowerElements 12 = .ok (.iconst 0, 1) := by decide +kernel
theorem dPatt_lowerElements_13 : decode bPatt_lowerElements 13 = .ok (.istore_n 2, 1) := by decide +kernel
theorem dPatt_lowerElements_14 : decode bPatt_lowerElements 14 = .ok (.iload_n 2, 1) := by decide +kernel
theorem dPatt_lowerElements_15 : decode bPatt_lowerElements 15 = .ok (.bipush 10, 2) := by decide +kernel
theorem dPatt_lowerElements_17 : decode bPatt_lowerElements 17 = .ok (.if_icmp .ge 25, 3) := by decide +kernel
theorem dPatt_lowerElements_20 : decode bPatt_lowerElements 20 = .ok (.aload_n 0, 1) := by decide +kernel
theorem dPatt_lowerElements_21 : decode bPatt_lowerElements 21 = .ok (.getfield 15, 3) := by decide +kernel
theorem dPatt_lowerElements_24 : decode bPatt_lowerElements 24 = .ok (.iload_n 2, 1) := by decide +kernel
theorem dPatt_lowerElements_25 : decode bPatt_lowerElements 25 = .ok (.aload_n 0, 1) := by decide +kernel
theorem dPatt_lowerElements_26 : decode bPatt_lowerElements 26 = .ok (.getfield 15, 3) := by decide +kernel
theorem dPatt_lowerElements_29 : decode bPatt_lowerElements 29 = .ok (.iload_n 2, 1) := by decide +kernel
theorem dPatt_lowerElements_30 : decode bPatt_lowerElements 30 = .ok (.iaload, 1) := by decide +kernel
theorem dPatt_lowerElements_31 : decode bPatt_lowerElements 31 = .ok (.iload_n 1, 1) := by decide +kernel
theorem dPatt_lowerElements_32 : decode bPatt_lowerElements 32 = .ok (.invokestatic 33, 3) := by decide +kernel
theorem dPatt_lowerElements_35 : decode bPatt_lowerElements 35 = .ok (.iastore, 1) := by decide +kernel
theorem dPatt_lowerElements_36 : decode bPatt_lowerElements 36 = .ok (.iinc 2 1, 3) := by decide +kernel
theorem dPatt_lowerElements_39 : decode bPatt_lowerElements 39 = .ok (.goto (-25), 3) := by decide +kernel
theorem dPatt_lowerElements_42 : decode bPatt_lowerElements 42 = .ok (.return_, 1) := by decide +kernel
theorem dPatt_lowered_0 : decode bPatt_lowered 0 = .ok (.bipush 7, 2) := by decide +kernel
theorem dPatt_lowered_2 : decode bPatt_lowered 2 = .ok (.iconst 3, 1) := by decide +kernel
theorem dPatt_lowered_3 : decode bPatt_lowered 3 = .ok (.iload_n 1, 1) := by decide +kernel
theorem dPatt_lowered_4 : decode bPatt_lowered 4 = .ok (.imul, 1) := by decide +kernel
theorem dPatt_lowered_5 : decode bPatt_lowered 5 = .ok (.ishl, 1) := by decide +kernel
theorem dPatt_lowered_6 : decode bPatt_lowered 6 = .ok (.istore_n 2, 1) := by decide +kernel
theorem dPatt_lowered_7 : decode bPatt_lowered 7 = .ok (.iload_n 0, 1) := by decide +kernel
theorem dPatt_lowered_8 : decode bPatt_lowered 8 = .ok (.iload_n 2, 1) := by decide +kernel
theorem dPatt_lowered_9 : decode bPatt_lowered 9 = .ok (.iconst (-1), 1) := by decide +kernel
theorem dPatt_lowered_10 : decode bPatt_lowered 10 = .ok (.ixor, 1) := by decide +kernel
theorem dPatt_lowered_11 : decode bPatt_lowered 11 = .ok (.iand, 1) := by decide +kernel
theorem dPatt_lowered_12 : decode bPatt_lowered 12 = .ok (.iload_n 0, 1) := by decide +kernel
theorem dPatt_lowered_13 : decode bPatt_lowered 13 = .ok (.iload_n 2, 1) := by decide +kernel
theorem dPatt_lowered_14 : decode bPatt_lowered 14 = .ok (.iand, 1) := by decide +kernel
theorem dPatt_lowered_15 : decode bPatt_lowered 15 = .ok (.iconst 1, 1) := by decide +kernel
theorem dPatt_lowered_16 : decode bPatt_lowered 16 = .ok (.ishr, 1) := by decide +kernel
theorem dPatt_lowered_17 : decode bPatt_lowered 17 = .ok (.ior, 1) := by decide +kernel
theorem dPatt_lowered_18 : decode bPatt_lowered 18 = .ok (.ireturn, 1) := by decide +kernel
theorem dPatt_first_0 : decode bPatt_first 0 = .ok (.aload_n 0, 1) := by decide +kernel
theorem dPatt_first_1 : decode bPatt_first 1 = .ok (.aload_n 0, 1) := by decide +kernel
theorem dPatt_first_2 : decode bPatt_first 2 = .ok (.getfield 22, 3) := by decide +kernel
theorem dPatt_first_5 : decode bPatt_first 5 = .ok (.invokevirtual 44, 3) := by decide +kernel
theorem dPatt_first_8 : decode bPatt_first 8 = .ok (.ireturn, 1) := by decide +kernel
theorem dPatt_next_0 : decode bPatt_next 0 = .ok (.iload_n 1, 1) := by decide +kernel
theorem dPatt_next_1 : decode bPatt_next 1 = .ok (.aload_n 0, 1) := by decide +kernel
theorem dPatt_next_2 : decode bPatt_next 2 = .ok (.getfield 15, 3) := by decide +kernel
theorem dPatt_next_5 : decode bPatt_next 5 = .ok (.iload_n 2, 1) := by decide +kernel
theorem dPatt_next_6 : decode bPatt_next 6 = .ok (.iaload, 1) := by decide +kernel
theorem dPatt_next_7 : decode bPatt_next 7 = .ok (.iand, 1) := by decide +kernel
theorem dPatt_next_8 : decode bPatt_next 8 = .ok (.istore_n 3, 1) := by decide +kernel
theorem dPatt_next_9 : decode bPatt_next 9 = .ok (.iload_n 3, 1) := by decide +kernel
theorem dPatt_next_10 : decode bPatt_next 10 = .ok (.aload_n 0, 1) := by decide +kernel
theorem dPatt_next_11 : decode bPatt_next 11 = .ok (.getfield 41, 3) := by decide +kernel
theorem dPatt_next_14 : decode bPatt_next 14 = .ok (.iand, 1) := by decide +kernel
theorem dPatt_next_15 : decode bPatt_next 15 = .ok (.iload_n 3, 1) := by decide +kernel
theorem dPatt_next_16 : decode bPatt_next 16 = .ok (.aload_n 0, 1) := by decide +kernel
theorem dPatt_next_17 : decode bPatt_next 17 = .ok (.getfield 41, 3) := by decide +kernel
theorem dPatt_next_20 : decode bPatt_next 20 = .ok (.iconst (-1), 1) := by decide +kernel
theorem dPatt_next_21 : decode bPatt_next 21 = .ok (.ixor, 1) := by decide +kernel
theorem dPatt_next_22 : decode bPatt_next 22 = .ok (.iand, 1) := by decide +kernel
theorem dPatt_next_23 : decode bPatt_next 23 = .ok (.iconst 1, 1) := by decide +kernel
theorem dPatt_next_24 : decode bPatt_next 24 = .ok (.ishl, 1) := by decide +kernel
theorem dPatt_next_25 : decode bPatt_next 25 = .ok (.ior, 1) := by decide +kernel
theorem dPatt_next_26 : decode bPatt_next 26 = .ok (.istore 4, 2) := by decide +kernel
theorem dPatt_next_28 : decode bPatt_next 28 = .ok (.aload_n 0, 1) := by decide +kernel
theorem dPatt_next_29 : decode bPatt_next 29 = .ok (.iload 4, 2) := by decide +kernel
theorem dPatt_next_31 : decode bPatt_next 31 = .ok (.aload_n 0, 1) := by decide +kernel
theorem dPatt_next_32 : decode bPatt_next 32 = .ok (.getfield 30, 3) := by decide +kernel
theorem dPatt_next_35 : decode bPatt_next 35 = .ok (.ior, 1) := by decide +kernel
theorem dPatt_next_36 : decode bPatt_next 36 = .ok (.invokevirtual 44, 3) := by decide +kernel
theorem dPatt_next_39 : decode bPatt_next 39 = .ok (.ireturn, 1) := by decide +kernel
theorem dPatt_skipStarred_0 : decode bPatt_skipStarred 0 = .ok (.iload_n 1, 1) := by decide +kernel
theorem dPatt_skipStarred_1 : decode bPatt_skipStarred 1 = .ok (.istore_n 2, 1) := by decide +kernel
theorem dPatt_skipStarred_2 : decode bPatt_skipStarred 2 = .ok (.iconst 0, 1) := by decide +kernel
theorem dPatt_skipStarred_3 : decode bPatt_skipStarred 3 = .ok (.istore_n 3, 1) := by decide +kernel
theorem dPatt_skipStarred_4 : decode bPatt_skipStarred 4 = .ok (.iload_n 3, 1) := by decide +kernel
theorem dPatt_skipStarred_5 : decode bPatt_skipStarred 5 = .ok (.iconst 2, 1) := by decide +kernel
theorem dPatt_skipStarred_6 : decode bPatt_skipStarred 6 = .ok (.if_icmp .ge 20, 3) := by decide +kernel
theorem dPatt_skipStarred_9 : decode bPatt_skipStarred 9 = .ok (.iload_n 2, 1) := by decide +kernel
theorem dPatt_skipStarred_10 : decode bPatt_skipStarred 10 = .ok (.iload_n 2, 1) := by decide +kernel
theorem dPatt_skipStarred_11 : decode bPatt_skipStarred 11 = .ok (.aload_n 0, 1) := by decide +kernel
theorem dPatt_skipStarred_12 : decode bPatt_skipStarred 12 = .ok (.getfield 41, 3) := by decide +kernel
theorem dPatt_skipStarred_15 : decode bPatt_skipStarred 15 = .ok (.iand, 1) := by decide +kernel
theorem dPatt_skipStarred_16 : decode bPatt_skipStarred 16 = .ok (.iconst 1, 1) := by decide +kernel
theorem dPatt_skipStarred_17 : decode bPatt_skipStarred 17 = .ok (.ishl, 1) := by decide +kernel
theorem dPatt_skipStarred_18 : decode bPatt_skipStarred 18 = .ok (.ior, 1) := by decide +kernel
theorem dPatt_skipStarred_19 : decode bPatt_skipStarred 19 = .ok (.istore_n 2, 1) := by decide +kernel
theorem dPatt_skipStarred_20 : decode bPatt_skipStarred 20 = .ok (.iinc 3 1, 3) := by decide +kernel
theorem dPatt_skipStarred_23 : decode bPatt_skipStarred 23 = .ok (.goto (-19), 3) := by decide +kernel
theorem dPatt_skipStarred_26 : decode bPatt_skipStarred 26 = .ok (.iload_n 2, 1) := by decide +kernel
theorem dPatt_skipStarred_27 : decode bPatt_skipStarred 27 = .ok (.ireturn, 1) := by decide +kernel
