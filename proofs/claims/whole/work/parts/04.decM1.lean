theorem dM_init_0 : decode cM_init 0 = .ok (.aload_n 0, 1) := by decide +kernel
theorem dM_init_1 : decode cM_init 1 = .ok (.invokespecial 1, 3) := by decide +kernel
theorem dM_init_4 : decode cM_init 4 = .ok (.aload_n 0, 1) := by decide +kernel
theorem dM_init_5 : decode cM_init 5 = .ok (.sipush 1024, 3) := by decide +kernel
theorem dM_init_8 : decode cM_init 8 = .ok (.newarray .long, 2) := by decide +kernel
theorem dM_init_10 : decode cM_init 10 = .ok (.putfield 7, 3) := by decide +kernel
theorem dM_init_13 : decode cM_init 13 = .ok (.aload_n 0, 1) := by decide +kernel
theorem dM_init_14 : decode cM_init 14 = .ok (.iconst 2, 1) := by decide +kernel
theorem dM_init_15 : decode cM_init 15 = .ok (.newarray .int, 2) := by decide +kernel
theorem dM_init_17 : decode cM_init 17 = .ok (.putfield 13, 3) := by decide +kernel
theorem dM_init_20 : decode cM_init 20 = .ok (.aload_n 0, 1) := by decide +kernel
theorem dM_init_21 : decode cM_init 21 = .ok (.iconst 2, 1) := by decide +kernel
theorem dM_init_22 : decode cM_init 22 = .ok (.newarray .int, 2) := by decide +kernel
theorem dM_init_24 : decode cM_init 24 = .ok (.putfield 17, 3) := by decide +kernel
theorem dM_init_27 : decode cM_init 27 = .ok (.return_, 1) := by decide +kernel
theorem dM_num_0 : decode cM_num 0 = .ok (.lload_n 0, 1) := by decide +kernel
theorem dM_num_1 : decode cM_num 1 = .ok (.ldc2_w 20, 3) := by decide +kernel
theorem dM_num_4 : decode cM_num 4 = .ok (.lcmp, 1) := by decide +kernel
theorem dM_num_5 : decode cM_num 5 = .ok (.ifCond .lt 13, 3) := by decide +kernel
theorem dM_num_8 : decode cM_num 8 = .ok (.lload_n 0, 1) := by decide +kernel
theorem dM_num_9 : decode cM_num 9 = .ok (.ldc2_w 22, 3) := by decide +kernel
theorem dM_num_12 : decode cM_num 12 = .ok (.lsub, 1) := by decide +kernel
theorem dM_num_13 : decode cM_num 13 = .ok (.lconst 1, 1) := by decide +kernel
theorem dM_num_14 : decode cM_num 14 = .ok (.lsub, 1) := by decide +kernel
theorem dM_num_15 : decode cM_num 15 = .ok (.goto 4, 3) := by decide +kernel
theorem dM_num_18 : decode cM_num 18 = .ok (.lload_n 0, 1) := by decide +kernel
theorem dM_num_19 : decode cM_num 19 = .ok (.lreturn, 1) := by decide +kernel
theorem dM_left_0 : decode cM_left 0 = .ok (.lload_n 0, 1) := by decide +kernel
theorem dM_left_1 : decode cM_left 1 = .ok (.ldc2_w 24, 3) := by decide +kernel
theorem dM_left_4 : decode cM_left 4 = .ok (.ldiv, 1) := by decide +kernel
theorem dM_left_5 : decode cM_left 5 = .ok (.l2i, 1) := by decide +kernel
theorem dM_left_6 : decode cM_left 6 = .ok (.ireturn, 1) := by decide +kernel
theorem dM_right_0 : decode cM_right 0 = .ok (.lload_n 0, 1) := by decide +kernel
theorem dM_right_1 : decode cM_right 1 = .ok (.ldc2_w 24, 3) := by decide +kernel
theorem dM_right_4 : decode cM_right 4 = .ok (.lrem, 1) := by decide +kernel
theorem dM_right_5 : decode cM_right 5 = .ok (.l2i, 1) := by decide +kernel
theorem dM_right_6 : decode cM_right 6 = .ok (.ireturn, 1) := by decide +kernel
theorem dM_joined_0 : decode cM_joined 0 = .ok (.ldc2_w 24, 3) := by decide +kernel
theorem dM_joined_3 : decode cM_joined 3 = .ok (.iload_n 0, 1) := by decide +kernel
theorem dM_joined_4 : decode cM_joined 4 = .ok (.ldc 26, 2) := by decide +kernel
theorem dM_joined_6 : decode cM_joined 6 = .ok (.iand, 1) := by decide +kernel
theorem dM_joined_7 : decode cM_joined 7 = .ok (.i2l, 1) := by decide +kernel
theorem dM_joined_8 : decode cM_joined 8 = .ok (.lmul, 1) := by decide +kernel
theorem dM_joined_9 : decode cM_joined 9 = .ok (.iload_n 1, 1) := by decide +kernel
theorem dM_joined_10 : decode cM_joined 10 = .ok (.ldc 26, 2) := by decide +kernel
theorem dM_joined_12 : decode cM_joined 12 = .ok (.iand, 1) := by decide +kernel
theorem dM_joined_13 : decode cM_joined 13 = .ok (.i2l, 1) := by decide +kernel
theorem dM_joined_14 : decode cM_joined 14 = .ok (.ladd, 1) := by decide +kernel
theorem dM_joined_15 : decode cM_joined 15 = .ok (.lreturn, 1) := by decide +kernel
theorem dM_bit_0 : decode cM_bit 0 = .ok (.lload_n 0, 1) := by decide +kernel
theorem dM_bit_1 : decode cM_bit 1 = .ok (.iload_n 2, 1) := by decide +kernel
theorem dM_bit_2 : decode cM_bit 2 = .ok (.lshr, 1) := by decide +kernel
theorem dM_bit_3 : decode cM_bit 3 = .ok (.lconst 1, 1) := by decide +kernel
theorem dM_bit_4 : decode cM_bit 4 = .ok (.land, 1) := by decide +kernel
theorem dM_bit_5 : decode cM_bit 5 = .ok (.l2i, 1) := by decide +kernel
theorem dM_bit_6 : decode cM_bit 6 = .ok (.ireturn, 1) := by decide +kernel
theorem dM_fail_0 : decode cM_fail 0 = .ok (.aload_n 0, 1) := by decide +kernel
theorem dM_fail_1 : decode cM_fail 1 = .ok (.aload_n 0, 1) := by decide +kernel
theorem dM_fail_2 : decode cM_fail 2 = .ok (.getfield 27, 3) := by decide +kernel
theorem dM_fail_5 : decode cM_fail 5 = .ok (.ifCond .ne 7, 3) := by decide +kernel
theorem dM_fail_8 : decode cM_fail 8 = .ok (.iload_n 1, 1) := by decide +kernel
theorem dM_fail_9 : decode cM_fail 9 = .ok (.goto 7, 3) := by decide +kernel
theorem dM_fail_12 : decode cM_fail 12 = .ok (.aload_n 0, 1) := by decide +kernel
theorem dM_fail_13 : decode cM_fail 13 = .ok (.getfield 27, 3) := by decide +kernel
theorem dM_fail_16 : decode cM_fail 16 = .ok (.putfield 27, 3) := by decide +kernel
theorem dM_fail_19 : decode cM_fail 19 = .ok (.return_, 1) := by decide +kernel
theorem dM_where_0 : decode cM_where 0 = .ok (.iload_n 1, 1) := by decide +kernel
theorem dM_where_1 : decode cM_where 1 = .ok (.istore_n 2, 1) := by decide +kernel
theorem dM_where_2 : decode cM_where 2 = .ok (.aload_n 0, 1) := by decide +kernel
theorem dM_where_3 : decode cM_where 3 = .ok (.getfield 31, 3) := by decide +kernel
theorem dM_where_6 : decode cM_where 6 = .ok (.ifCond .eq 57, 3) := by decide +kernel
theorem dM_where_9 : decode cM_where 9 = .ok (.iload_n 1, 1) := by decide +kernel
theorem dM_where_10 : decode cM_where 10 = .ok (.bipush 15, 2) := by decide +kernel
theorem dM_where_12 : decode cM_where 12 = .ok (.if_icmp .le 51, 3) := by decide +kernel
theorem dM_where_15 : decode cM_where 15 = .ok (.iload_n 1, 1) := by decide +kernel
theorem dM_where_16 : decode cM_where 16 = .ok (.ldc 35, 2) := by decide +kernel
theorem dM_where_18 : decode cM_where 18 = .ok (.idiv, 1) := by decide +kernel
theorem dM_where_19 : decode cM_where 19 = .ok (.ifCond .le 7, 3) := by decide +kernel
theorem dM_where_22 : decode cM_where 22 = .ok (.iconst 1, 1) := by decide +kernel
theorem dM_where_23 : decode cM_where 23 = .ok (.goto 4, 3) := by decide +kernel
theorem dM_where_26 : decode cM_where 26 = .ok (.iconst 0, 1) := by decide +kernel
theorem dM_where_27 : decode cM_where 27 = .ok (.istore_n 3, 1) := by decide +kernel
theorem dM_where_28 : decode cM_where 28 = .ok (.iload_n 1, 1) := by decide +kernel
theorem dM_where_29 : decode cM_where 29 = .ok (.ldc 35, 2) := by decide +kernel
theorem dM_where_31 : decode cM_where 31 = .ok (.iload_n 3, 1) := by decide +kernel
theorem dM_where_32 : decode cM_where 32 = .ok (.imul, 1) := by decide +kernel
theorem dM_where_33 : decode cM_where 33 = .ok (.isub, 1) := by decide +kernel
theorem dM_where_34 : decode cM_where 34 = .ok (.istore 4, 2) := by decide +kernel
theorem dM_where_36 : decode cM_where 36 = .ok (.iload 4, 2) := by decide +kernel
theorem dM_where_38 : decode cM_where 38 = .ok (.aload_n 0, 1) := by decide +kernel
theorem dM_where_39 : decode cM_where 39 = .ok (.getfield 17, 3) := by decide +kernel
theorem dM_where_42 : decode cM_where 42 = .ok (.iload_n 3, 1) := by decide +kernel
theorem dM_where_43 : decode cM_where 43 = .ok (.iaload, 1) := by decide +kernel
theorem dM_where_44 : decode cM_where 44 = .ok (.if_icmp .ge 15, 3) := by decide +kernel
theorem dM_where_47 : decode cM_where 47 = .ok (.iload 4, 2) := by decide +kernel
theorem dM_where_49 : decode cM_where 49 = .ok (.aload_n 0, 1) := by decide +kernel
theorem dM_where_50 : decode cM_where 50 = .ok (.getfield 13, 3) := by decide +kernel
theorem dM_where_53 : decode cM_where 53 = .ok (.iload_n 3, 1) := by decide +kernel
theorem dM_where_54 : decode cM_where 54 = .ok (.iaload, 1) := by decide +kernel
theorem dM_where_55 : decode cM_where 55 = .ok (.iadd, 1) := by decide +kernel
theorem dM_where_56 : decode cM_where 56 = .ok (.goto 6, 3) := by decide +kernel
theorem dM_where_59 : decode cM_where 59 = .ok (.sipush 1024, 3) := by decide +kernel
theorem dM_where_62 : decode cM_where 62 = .ok (.istore_n 2, 1) := by decide +kernel
theorem dM_where_63 : decode cM_where 63 = .ok (.iload_n 2, 1) := by decide +kernel
theorem dM_where_64 : decode cM_where 64 = .ok (.sipush 1023, 3) := by decide +kernel
theorem dM_where_67 : decode cM_where 67 = .ok (.if_icmp .le 8, 3) := by decide +kernel
theorem dM_where_70 : decode cM_where 70 = .ok (.aload_n 0, 1) := by decide +kernel
theorem dM_where_71 : decode cM_where 71 = .ok (.iconst 1, 1) := by decide +kernel
theorem dM_where_72 : decode cM_where 72 = .ok (.invokevirtual 36, 3) := by decide +kernel
theorem dM_where_75 : decode cM_where 75 = .ok (.aload_n 0, 1) := by decide +kernel
theorem dM_where_76 : decode cM_where 76 = .ok (.getfield 27, 3) := by decide +kernel
theorem dM_where_79 : decode cM_where 79 = .ok (.ifCond .le 7, 3) := by decide +kernel
theorem dM_where_82 : decode cM_where 82 = .ok (.iconst (-1), 1) := by decide +kernel
theorem dM_where_83 : decode cM_where 83 = .ok (.goto 4, 3) := by decide +kernel
theorem dM_where_86 : decode cM_where 86 = .ok (.iload_n 2, 1) := by decide +kernel
theorem dM_where_87 : decode cM_where 87 = .ok (.ireturn, 1) := by decide +kernel
theorem dM_get_0 : decode cM_get 0 = .ok (.aload_n 0, 1) := by decide +kernel
theorem dM_get_1 : decode cM_get 1 = .ok (.iload_n 1, 1) := by decide +kernel
theorem dM_get_2 : decode cM_get 2 = .ok (.invokevirtual 40, 3) := by decide +kernel
theorem dM_get_5 : decode cM_get 5 = .ok (.istore_n 2, 1) := by decide +kernel
theorem dM_get_6 : decode cM_get 6 = .ok (.iload_n 2, 1) := by decide +kernel
theorem dM_get_7 : decode cM_get 7 = .ok (.ifCond .ge 7, 3) := by decide +kernel
theorem dM_get_10 : decode cM_get 10 = .ok (.lconst 0, 1) := by decide +kernel
theorem dM_get_11 : decode cM_get 11 = .ok (.goto 9, 3) := by decide +kernel
theorem dM_get_14 : decode cM_get 14 = .ok (.aload_n 0, 1) := by decide +kernel
theorem dM_get_15 : decode cM_get 15 = .ok (.getfield 7, 3) := by decide +kernel
theorem dM_get_18 : decode cM_get 18 = .ok (.iload_n 2, 1) := by decide +kernel
theorem dM_get_19 : decode cM_get 19 = .ok (.laload, 1) := by decide +kernel
theorem dM_get_20 : decode cM_get 20 = .ok (.lreturn, 1) := by decide +kernel
theorem dM_set_0 : decode cM_set 0 = .ok (.aload_n 0, 1) := by decide +kernel
theorem dM_set_1 : decode cM_set 1 = .ok (.iload_n 1, 1) := by decide +kernel
theorem dM_set_2 : decode cM_set 2 = .ok (.invokevirtual 40, 3) := by decide +kernel
theorem dM_set_5 : decode cM_set 5 = .ok (.istore 4, 2) := by decide +kernel
theorem dM_set_7 : decode cM_set 7 = .ok (.iload 4, 2) := by decide +kernel
theorem dM_set_9 : decode cM_set 9 = .ok (.ifCond .lt 15, 3) := by decide +kernel
theorem dM_set_12 : decode cM_set 12 = .ok (.aload_n 0, 1) := by decide +kernel
theorem dM_set_13 : decode cM_set 13 = .ok (.getfield 7, 3) := by decide +kernel
theorem dM_set_16 : decode cM_set 16 = .ok (.iload 4, 2) := by decide +kernel
theorem dM_set_18 : decode cM_set 18 = .ok (.lload_n 2, 1) := by decide +kernel
theorem dM_set_19 : decode cM_set 19 = .ok (.ldc2_w 22, 3) := by decide +kernel
theorem dM_set_22 : decode cM_set 22 = .ok (.land, 1) := by decide +kernel
theorem dM_set_23 : decode cM_set 23 = .ok (.lastore, 1) := by decide +kernel
theorem dM_set_24 : decode cM_set 24 = .ok (.return_, 1) := by decide +kernel
theorem dM_setAc_0 : decode cM_setAc 0 = .ok (.aload_n 0, 1) := by decide +kernel
theorem dM_setAc_1 : decode cM_setAc 1 = .ok (.getfield 27, 3) := by decide +kernel
theorem dM_setAc_4 : decode cM_setAc 4 = .ok (.ifCond .ne 14, 3) := by decide +kernel
theorem dM_setAc_7 : decode cM_setAc 7 = .ok (.aload_n 0, 1) := by decide +kernel
theorem dM_setAc_8 : decode cM_setAc 8 = .ok (.getfield 7, 3) := by decide +kernel
theorem dM_setAc_11 : decode cM_setAc 11 = .ok (.iload_n 1, 1) := by decide +kernel
theorem dM_setAc_12 : decode cM_setAc 12 = .ok (.lload_n 2, 1) := by decide +kernel
theorem dM_setAc_13 : decode cM_setAc 13 = .ok (.ldc2_w 22, 3) := by decide +kernel
theorem dM_setAc_16 : decode cM_setAc 16 = .ok (.land, 1) := by decide +kernel
theorem dM_setAc_17 : decode cM_setAc 17 = .ok (.lastore, 1) := by decide +kernel
theorem dM_setAc_18 : decode cM_setAc 18 = .ok (.return_, 1) := by decide +kernel
theorem dM_over_0 : decode cM_over 0 = .ok (.iload_n 1, 1) := by decide +kernel
theorem dM_over_1 : decode cM_over 1 = .ok (.ifCond .eq 15, 3) := by decide +kernel
theorem dM_over_4 : decode cM_over 4 = .ok (.aload_n 0, 1) := by decide +kernel
theorem dM_over_5 : decode cM_over 5 = .ok (.getfield 27, 3) := by decide +kernel
theorem dM_over_8 : decode cM_over 8 = .ok (.ifCond .ne 8, 3) := by decide +kernel
theorem dM_over_11 : decode cM_over 11 = .ok (.aload_n 0, 1) := by decide +kernel
theorem dM_over_12 : decode cM_over 12 = .ok (.iconst 1, 1) := by decide +kernel
theorem dM_over_13 : decode cM_over 13 = .ok (.putfield 44, 3) := by decide +kernel
theorem dM_over_16 : decode cM_over 16 = .ok (.return_, 1) := by decide +kernel
theorem dM_go_0 : decode cM_go 0 = .ok (.aload_n 0, 1) := by decide +kernel
theorem dM_go_1 : decode cM_go 1 = .ok (.getfield 27, 3) := by decide +kernel
theorem dM_go_4 : decode cM_go 4 = .ok (.ifCond .ne 11, 3) := by decide +kernel
theorem dM_go_7 : decode cM_go 7 = .ok (.aload_n 0, 1) := by decide +kernel
theorem dM_go_8 : decode cM_go 8 = .ok (.iload_n 1, 1) := by decide +kernel
theorem dM_go_9 : decode cM_go 9 = .ok (.ldc 26, 2) := by decide +kernel
theorem dM_go_11 : decode cM_go 11 = .ok (.iand, 1) := by decide +kernel
theorem dM_go_12 : decode cM_go 12 = .ok (.putfield 47, 3) := by decide +kernel
theorem dM_go_15 : decode cM_go 15 = .ok (.return_, 1) := by decide +kernel
theorem dM_skipIf_0 : decode cM_skipIf 0 = .ok (.iload_n 1, 1) := by decide +kernel
theorem dM_skipIf_1 : decode cM_skipIf 1 = .ok (.ifCond .eq 13, 3) := by decide +kernel
theorem dM_skipIf_4 : decode cM_skipIf 4 = .ok (.aload_n 0, 1) := by decide +kernel
theorem dM_skipIf_5 : decode cM_skipIf 5 = .ok (.aload_n 0, 1) := by decide +kernel
theorem dM_skipIf_6 : decode cM_skipIf 6 = .ok (.getfield 47, 3) := by decide +kernel
theorem dM_skipIf_9 : decode cM_skipIf 9 = .ok (.iconst 1, 1) := by decide +kernel
theorem dM_skipIf_10 : decode cM_skipIf 10 = .ok (.iadd, 1) := by decide +kernel
theorem dM_skipIf_11 : decode cM_skipIf 11 = .ok (.invokevirtual 50, 3) := by decide +kernel
theorem dM_skipIf_14 : decode cM_skipIf 14 = .ok (.return_, 1) := by decide +kernel
theorem dM_goIf_0 : decode cM_goIf 0 = .ok (.iload_n 1, 1) := by decide +kernel
theorem dM_goIf_1 : decode cM_goIf 1 = .ok (.ifCond .eq 8, 3) := by decide +kernel
theorem dM_goIf_4 : decode cM_goIf 4 = .ok (.aload_n 0, 1) := by decide +kernel
theorem dM_goIf_5 : decode cM_goIf 5 = .ok (.iload_n 2, 1) := by decide +kernel
theorem dM_goIf_6 : decode cM_goIf 6 = .ok (.invokevirtual 50, 3) := by decide +kernel
theorem dM_goIf_9 : decode cM_goIf 9 = .ok (.return_, 1) := by decide +kernel
theorem dM_count_0 : decode cM_count 0 = .ok (.aload_n 0, 1) := by decide +kernel
theorem dM_count_1 : decode cM_count 1 = .ok (.dup, 1) := by decide +kernel
theorem dM_count_2 : decode cM_count 2 = .ok (.getfield 53, 3) := by decide +kernel
theorem dM_count_5 : decode cM_count 5 = .ok (.iconst 1, 1) := by decide +kernel
theorem dM_count_6 : decode cM_count 6 = .ok (.iadd, 1) := by decide +kernel
theorem dM_count_7 : decode cM_count 7 = .ok (.putfield 53, 3) := by decide +kernel
theorem dM_count_10 : decode cM_count 10 = .ok (.aload_n 0, 1) := by decide +kernel
theorem dM_count_11 : decode cM_count 11 = .ok (.getfield 53, 3) := by decide +kernel
theorem dM_count_14 : decode cM_count 14 = .ok (.bipush 8, 2) := by decide +kernel
theorem dM_count_16 : decode cM_count 16 = .ok (.if_icmp .le 8, 3) := by decide +kernel
theorem dM_count_19 : decode cM_count 19 = .ok (.aload_n 0, 1) := by decide +kernel
theorem dM_count_20 : decode cM_count 20 = .ok (.iconst 4, 1) := by decide +kernel
theorem dM_count_21 : decode cM_count 21 = .ok (.invokevirtual 36, 3) := by decide +kernel
theorem dM_count_24 : decode cM_count 24 = .ok (.return_, 1) := by decide +kernel
theorem dM_effective_0 : decode cM_effective 0 = .ok (.lload_n 1, 1) := by decide +kernel
theorem dM_effective_1 : decode cM_effective 1 = .ok (.lstore_n 3, 1) := by decide +kernel
theorem dM_effective_2 : decode cM_effective 2 = .ok (.iconst 0, 1) := by decide +kernel
theorem dM_effective_3 : decode cM_effective 3 = .ok (.istore 5, 2) := by decide +kernel
theorem dM_effective_5 : decode cM_effective 5 = .ok (.iconst 1, 1) := by decide +kernel
theorem dM_effective_6 : decode cM_effective 6 = .ok (.istore 6, 2) := by decide +kernel
theorem dM_effective_8 : decode cM_effective 8 = .ok (.iload 6, 2) := by decide +kernel
theorem dM_effective_10 : decode cM_effective 10 = .ok (.ifCond .eq 89, 3) := by decide +kernel
theorem dM_effective_13 : decode cM_effective 13 = .ok (.aload_n 0, 1) := by decide +kernel
theorem dM_effective_14 : decode cM_effective 14 = .ok (.getfield 27, 3) := by decide +kernel
theorem dM_effective_17 : decode cM_effective 17 = .ok (.ifCond .ne 82, 3) := by decide +kernel
theorem dM_effective_20 : decode cM_effective 20 = .ok (.lload_n 3, 1) := by decide +kernel
theorem dM_effective_21 : decode cM_effective 21 = .ok (.bipush 18, 2) := by decide +kernel
theorem dM_effective_23 : decode cM_effective 23 = .ok (.lshr, 1) := by decide +kernel
theorem dM_effective_24 : decode cM_effective 24 = .ok (.ldc2_w 56, 3) := by decide +kernel
theorem dM_effective_27 : decode cM_effective 27 = .ok (.land, 1) := by decide +kernel
theorem dM_effective_28 : decode cM_effective 28 = .ok (.l2i, 1) := by decide +kernel
theorem dM_effective_29 : decode cM_effective 29 = .ok (.istore 7, 2) := by decide +kernel
theorem dM_effective_31 : decode cM_effective 31 = .ok (.iload 7, 2) := by decide +kernel
theorem dM_effective_33 : decode cM_effective 33 = .ok (.ifCond .le 15, 3) := by decide +kernel
theorem dM_effective_36 : decode cM_effective 36 = .ok (.aload_n 0, 1) := by decide +kernel
theorem dM_effective_37 : decode cM_effective 37 = .ok (.iload 7, 2) := by decide +kernel
theorem dM_effective_39 : decode cM_effective 39 = .ok (.invokevirtual 58, 3) := by decide +kernel
theorem dM_effective_42 : decode cM_effective 42 = .ok (.invokestatic 62, 3) := by decide +kernel
theorem dM_effective_45 : decode cM_effective 45 = .ok (.goto 4, 3) := by decide +kernel
theorem dM_effective_48 : decode cM_effective 48 = .ok (.iconst 0, 1) := by decide +kernel
theorem dM_effective_49 : decode cM_effective 49 = .ok (.istore 8, 2) := by decide +kernel
theorem dM_effective_51 : decode cM_effective 51 = .ok (.lload_n 3, 1) := by decide +kernel
theorem dM_effective_52 : decode cM_effective 52 = .ok (.invokestatic 62, 3) := by decide +kernel
theorem dM_effective_55 : decode cM_effective 55 = .ok (.iload 8, 2) := by decide +kernel
theorem dM_effective_57 : decode cM_effective 57 = .ok (.iadd, 1) := by decide +kernel
theorem dM_effective_58 : decode cM_effective 58 = .ok (.ldc 26, 2) := by decide +kernel
theorem dM_effective_60 : decode cM_effective 60 = .ok (.iand, 1) := by decide +kernel
theorem dM_effective_61 : decode cM_effective 61 = .ok (.istore 5, 2) := by decide +kernel
theorem dM_effective_63 : decode cM_effective 63 = .ok (.lload_n 3, 1) := by decide +kernel
theorem dM_effective_64 : decode cM_effective 64 = .ok (.bipush 22, 2) := by decide +kernel
theorem dM_effective_66 : decode cM_effective 66 = .ok (.invokestatic 66, 3) := by decide +kernel
theorem dM_effective_69 : decode cM_effective 69 = .ok (.iconst 1, 1) := by decide +kernel
theorem dM_effective_70 : decode cM_effective 70 = .ok (.if_icmp .ne 7, 3) := by decide +kernel
theorem dM_effective_73 : decode cM_effective 73 = .ok (.iconst 1, 1) := by decide +kernel
theorem dM_effective_74 : decode cM_effective 74 = .ok (.goto 4, 3) := by decide +kernel
theorem dM_effective_77 : decode cM_effective 77 = .ok (.iconst 0, 1) := by decide +kernel
theorem dM_effective_78 : decode cM_effective 78 = .ok (.istore 6, 2) := by decide +kernel
theorem dM_effective_80 : decode cM_effective 80 = .ok (.iload 6, 2) := by decide +kernel
theorem dM_effective_82 : decode cM_effective 82 = .ok (.ifCond .eq 14, 3) := by decide +kernel
theorem dM_effective_85 : decode cM_effective 85 = .ok (.aload_n 0, 1) := by decide +kernel
theorem dM_effective_86 : decode cM_effective 86 = .ok (.invokevirtual 70, 3) := by decide +kernel
theorem dM_effective_89 : decode cM_effective 89 = .ok (.aload_n 0, 1) := by decide +kernel
theorem dM_effective_90 : decode cM_effective 90 = .ok (.iload 5, 2) := by decide +kernel
theorem dM_effective_92 : decode cM_effective 92 = .ok (.invokevirtual 58, 3) := by decide +kernel
theorem dM_effective_95 : decode cM_effective 95 = .ok (.lstore_n 3, 1) := by decide +kernel
theorem dM_effective_96 : decode cM_effective 96 = .ok (.goto (-88), 3) := by decide +kernel
theorem dM_effective_99 : decode cM_effective 99 = .ok (.iload 5, 2) := by decide +kernel
theorem dM_effective_101 : decode cM_effective 101 = .ok (.ireturn, 1) := by decide +kernel
theorem dM_flags_0 : decode cM_flags 0 = .ok (.aload_n 0, 1) := by decide +kernel
theorem dM_flags_1 : decode cM_flags 1 = .ok (.getfield 44, 3) := by decide +kernel
theorem dM_flags_4 : decode cM_flags 4 = .ok (.ifCond .eq 8, 3) := by decide +kernel
theorem dM_flags_7 : decode cM_flags 7 = .ok (.ldc 35, 2) := by decide +kernel
theorem dM_flags_9 : decode cM_flags 9 = .ok (.goto 4, 3) := by decide +kernel
theorem dM_flags_12 : decode cM_flags 12 = .ok (.iconst 0, 1) := by decide +kernel
theorem dM_flags_13 : decode cM_flags 13 = .ok (.aload_n 0, 1) := by decide +kernel
theorem dM_flags_14 : decode cM_flags 14 = .ok (.getfield 31, 3) := by decide +kernel
theorem dM_flags_17 : decode cM_flags 17 = .ok (.ifCond .eq 9, 3) := by decide +kernel
theorem dM_flags_20 : decode cM_flags 20 = .ok (.sipush 4096, 3) := by decide +kernel
theorem dM_flags_23 : decode cM_flags 23 = .ok (.goto 4, 3) := by decide +kernel
theorem dM_flags_26 : decode cM_flags 26 = .ok (.iconst 0, 1) := by decide +kernel
theorem dM_flags_27 : decode cM_flags 27 = .ok (.iadd, 1) := by decide +kernel
theorem dM_flags_28 : decode cM_flags 28 = .ok (.aload_n 0, 1) := by decide +kernel
theorem dM_flags_29 : decode cM_flags 29 = .ok (.getfield 47, 3) := by decide +kernel
theorem dM_flags_32 : decode cM_flags 32 = .ok (.invokestatic 73, 3) := by decide +kernel
theorem dM_flags_35 : decode cM_flags 35 = .ok (.lreturn, 1) := by decide +kernel
theorem dM_holds_0 : decode cM_holds 0 = .ok (.iload_n 0, 1) := by decide +kernel
theorem dM_holds_1 : decode cM_holds 1 = .ok (.iconst 3, 1) := by decide +kernel
theorem dM_holds_2 : decode cM_holds 2 = .ok (.if_icmp .le 19, 3) := by decide +kernel
theorem dM_holds_5 : decode cM_holds 5 = .ok (.iload_n 0, 1) := by decide +kernel
theorem dM_holds_6 : decode cM_holds 6 = .ok (.iconst 4, 1) := by decide +kernel
theorem dM_holds_7 : decode cM_holds 7 = .ok (.isub, 1) := by decide +kernel
theorem dM_holds_8 : decode cM_holds 8 = .ok (.lload_n 1, 1) := by decide +kernel
theorem dM_holds_9 : decode cM_holds 9 = .ok (.invokestatic 77, 3) := by decide +kernel
theorem dM_holds_12 : decode cM_holds 12 = .ok (.ifCond .ne 7, 3) := by decide +kernel
theorem dM_holds_15 : decode cM_holds 15 = .ok (.iconst 1, 1) := by decide +kernel
theorem dM_holds_16 : decode cM_holds 16 = .ok (.goto 4, 3) := by decide +kernel
theorem dM_holds_19 : decode cM_holds 19 = .ok (.iconst 0, 1) := by decide +kernel
theorem dM_holds_20 : decode cM_holds 20 = .ok (.ireturn, 1) := by decide +kernel
theorem dM_holds_21 : decode cM_holds 21 = .ok (.iload_n 0, 1) := by decide +kernel
theorem dM_holds_22 : decode cM_holds 22 = .ok (.lload_n 1, 1) := by decide +kernel
theorem dM_holds_23 : decode cM_holds 23 = .ok (.invokestatic 77, 3) := by decide +kernel
theorem dM_holds_26 : decode cM_holds 26 = .ok (.ireturn, 1) := by decide +kernel
theorem dM_holds0_0 : decode cM_holds0 0 = .ok (.iload_n 0, 1) := by decide +kernel
theorem dM_holds0_1 : decode cM_holds0 1 = .ok (.iconst 1, 1) := by decide +kernel
theorem dM_holds0_2 : decode cM_holds0 2 = .ok (.if_icmp .ne 9, 3) := by decide +kernel
theorem dM_holds0_5 : decode cM_holds0 5 = .ok (.lload_n 1, 1) := by decide +kernel
theorem dM_holds0_6 : decode cM_holds0 6 = .ok (.lconst 0, 1) := by decide +kernel
theorem dM_holds0_7 : decode cM_holds0 7 = .ok (.lcmp, 1) := by decide +kernel
theorem dM_holds0_8 : decode cM_holds0 8 = .ok (.ifCond .lt 25, 3) := by decide +kernel
theorem dM_holds0_11 : decode cM_holds0 11 = .ok (.iload_n 0, 1) := by decide +kernel
theorem dM_holds0_12 : decode cM_holds0 12 = .ok (.iconst 2, 1) := by decide +kernel
theorem dM_holds0_13 : decode cM_holds0 13 = .ok (.if_icmp .ne 9, 3) := by decide +kernel
theorem dM_holds0_16 : decode cM_holds0 16 = .ok (.lload_n 1, 1) := by decide +kernel
theorem dM_holds0_17 : decode cM_holds0 17 = .ok (.lconst 0, 1) := by decide +kernel
theorem dM_holds0_18 : decode cM_holds0 18 = .ok (.lcmp, 1) := by decide +kernel
theorem dM_holds0_19 : decode cM_holds0 19 = .ok (.ifCond .eq 14, 3) := by decide +kernel
theorem dM_holds0_22 : decode cM_holds0 22 = .ok (.iload_n 0, 1) := by decide +kernel
theorem dM_holds0_23 : decode cM_holds0 23 = .ok (.iconst 3, 1) := by decide +kernel
theorem dM_holds0_24 : decode cM_holds0 24 = .ok (.if_icmp .ne 13, 3) := by decide +kernel
theorem dM_holds0_27 : decode cM_holds0 27 = .ok (.lload_n 1, 1) := by decide +kernel
theorem dM_holds0_28 : decode cM_holds0 28 = .ok (.lconst 0, 1) := by decide +kernel
theorem dM_holds0_29 : decode cM_holds0 29 = .ok (.lcmp, 1) := by decide +kernel
theorem dM_holds0_30 : decode cM_holds0 30 = .ok (.ifCond .gt 7, 3) := by decide +kernel
theorem dM_holds0_33 : decode cM_holds0 33 = .ok (.iconst 1, 1) := by decide +kernel
theorem dM_holds0_34 : decode cM_holds0 34 = .ok (.goto 4, 3) := by decide +kernel
theorem dM_holds0_37 : decode cM_holds0 37 = .ok (.iconst 0, 1) := by decide +kernel
theorem dM_holds0_38 : decode cM_holds0 38 = .ok (.ireturn, 1) := by decide +kernel
theorem dM_makeStep_0 : decode cM_makeStep 0 = .ok (.aload_n 0, 1) := by decide +kernel
theorem dM_makeStep_1 : decode cM_makeStep 1 = .ok (.getfield 47, 3) := by decide +kernel
theorem dM_makeStep_4 : decode cM_makeStep 4 = .ok (.istore_n 1, 1) := by decide +kernel
theorem dM_makeStep_5 : decode cM_makeStep 5 = .ok (.aload_n 0, 1) := by decide +kernel
theorem dM_makeStep_6 : decode cM_makeStep 6 = .ok (.iconst 0, 1) := by decide +kernel
theorem dM_makeStep_7 : decode cM_makeStep 7 = .ok (.putfield 27, 3) := by decide +kernel
theorem dM_makeStep_10 : decode cM_makeStep 10 = .ok (.aload_n 0, 1) := by decide +kernel
theorem dM_makeStep_11 : decode cM_makeStep 11 = .ok (.iconst 0, 1) := by decide +kernel
theorem dM_makeStep_12 : decode cM_makeStep 12 = .ok (.putfield 53, 3) := by decide +kernel
theorem dM_makeStep_15 : decode cM_makeStep 15 = .ok (.aload_n 0, 1) := by decide +kernel
theorem dM_makeStep_16 : decode cM_makeStep 16 = .ok (.dup, 1) := by decide +kernel
theorem dM_makeStep_17 : decode cM_makeStep 17 = .ok (.getfield 81, 3) := by decide +kernel
theorem dM_makeStep_20 : decode cM_makeStep 20 = .ok (.iconst 1, 1) := by decide +kernel
theorem dM_makeStep_21 : decode cM_makeStep 21 = .ok (.iadd, 1) := by decide +kernel
theorem dM_makeStep_22 : decode cM_makeStep 22 = .ok (.putfield 81, 3) := by decide +kernel
theorem dM_makeStep_25 : decode cM_makeStep 25 = .ok (.aload_n 0, 1) := by decide +kernel
theorem dM_makeStep_26 : decode cM_makeStep 26 = .ok (.aload_n 0, 1) := by decide +kernel
theorem dM_makeStep_27 : decode cM_makeStep 27 = .ok (.getfield 47, 3) := by decide +kernel
theorem dM_makeStep_30 : decode cM_makeStep 30 = .ok (.invokevirtual 58, 3) := by decide +kernel
theorem dM_makeStep_33 : decode cM_makeStep 33 = .ok (.lstore_n 2, 1) := by decide +kernel
theorem dM_makeStep_34 : decode cM_makeStep 34 = .ok (.aload_n 0, 1) := by decide +kernel
theorem dM_makeStep_35 : decode cM_makeStep 35 = .ok (.aload_n 0, 1) := by decide +kernel
theorem dM_makeStep_36 : decode cM_makeStep 36 = .ok (.getfield 47, 3) := by decide +kernel
theorem dM_makeStep_39 : decode cM_makeStep 39 = .ok (.iconst 1, 1) := by decide +kernel
theorem dM_makeStep_40 : decode cM_makeStep 40 = .ok (.iadd, 1) := by decide +kernel
theorem dM_makeStep_41 : decode cM_makeStep 41 = .ok (.invokevirtual 50, 3) := by decide +kernel
theorem dM_makeStep_44 : decode cM_makeStep 44 = .ok (.aload_n 0, 1) := by decide +kernel
theorem dM_makeStep_45 : decode cM_makeStep 45 = .ok (.lload_n 2, 1) := by decide +kernel
theorem dM_makeStep_46 : decode cM_makeStep 46 = .ok (.invokevirtual 84, 3) := by decide +kernel
theorem dM_makeStep_49 : decode cM_makeStep 49 = .ok (.istore 4, 2) := by decide +kernel
theorem dM_makeStep_51 : decode cM_makeStep 51 = .ok (.aload_n 0, 1) := by decide +kernel
theorem dM_makeStep_52 : decode cM_makeStep 52 = .ok (.getfield 27, 3) := by decide +kernel
theorem dM_makeStep_55 : decode cM_makeStep 55 = .ok (.ifCond .ne 35, 3) := by decide +kernel
theorem dM_makeStep_58 : decode cM_makeStep 58 = .ok (.lload_n 2, 1) := by decide +kernel
theorem dM_makeStep_59 : decode cM_makeStep 59 = .ok (.bipush 27, 2) := by decide +kernel
theorem dM_makeStep_61 : decode cM_makeStep 61 = .ok (.lshr, 1) := by decide +kernel
theorem dM_makeStep_62 : decode cM_makeStep 62 = .ok (.ldc2_w 87, 3) := by decide +kernel
theorem dM_makeStep_65 : decode cM_makeStep 65 = .ok (.lcmp, 1) := by decide +kernel
theorem dM_makeStep_66 : decode cM_makeStep 66 = .ok (.ifCond .ne 24, 3) := by decide +kernel
theorem dM_makeStep_69 : decode cM_makeStep 69 = .ok (.aload_n 0, 1) := by decide +kernel
theorem dM_makeStep_70 : decode cM_makeStep 70 = .ok (.invokevirtual 70, 3) := by decide +kernel
theorem dM_makeStep_73 : decode cM_makeStep 73 = .ok (.aload_n 0, 1) := by decide +kernel
theorem dM_makeStep_74 : decode cM_makeStep 74 = .ok (.iload 4, 2) := by decide +kernel
theorem dM_makeStep_76 : decode cM_makeStep 76 = .ok (.invokevirtual 58, 3) := by decide +kernel
theorem dM_makeStep_79 : decode cM_makeStep 79 = .ok (.lstore_n 2, 1) := by decide +kernel
theorem dM_makeStep_80 : decode cM_makeStep 80 = .ok (.aload_n 0, 1) := by decide +kernel
theorem dM_makeStep_81 : decode cM_makeStep 81 = .ok (.lload_n 2, 1) := by decide +kernel
theorem dM_makeStep_82 : decode cM_makeStep 82 = .ok (.invokevirtual 84, 3) := by decide +kernel
theorem dM_makeStep_85 : decode cM_makeStep 85 = .ok (.istore 4, 2) := by decide +kernel
theorem dM_makeStep_87 : decode cM_makeStep 87 = .ok (.goto (-36), 3) := by decide +kernel
theorem dM_makeStep_90 : decode cM_makeStep 90 = .ok (.aload_n 0, 1) := by decide +kernel
theorem dM_makeStep_91 : decode cM_makeStep 91 = .ok (.getfield 27, 3) := by decide +kernel
theorem dM_makeStep_94 : decode cM_makeStep 94 = .ok (.ifCond .ne 23, 3) := by decide +kernel
theorem dM_makeStep_97 : decode cM_makeStep 97 = .ok (.aload_n 0, 1) := by decide +kernel
theorem dM_makeStep_98 : decode cM_makeStep 98 = .ok (.lload_n 2, 1) := by decide +kernel
theorem dM_makeStep_99 : decode cM_makeStep 99 = .ok (.bipush 27, 2) := by decide +kernel
theorem dM_makeStep_101 : decode cM_makeStep 101 = .ok (.lshr, 1) := by decide +kernel
theorem dM_makeStep_102 : decode cM_makeStep 102 = .ok (.l2i, 1) := by decide +kernel
theorem dM_makeStep_103 : decode cM_makeStep 103 = .ok (.lload_n 2, 1) := by decide +kernel
theorem dM_makeStep_104 : decode cM_makeStep 104 = .ok (.bipush 23, 2) := by decide +kernel
theorem dM_makeStep_106 : decode cM_makeStep 106 = .ok (.lshr, 1) := by decide +kernel
theorem dM_makeStep_107 : decode cM_makeStep 107 = .ok (.ldc2_w 56, 3) := by decide +kernel
theorem dM_makeStep_110 : decode cM_makeStep 110 = .ok (.land, 1) := by decide +kernel
theorem dM_makeStep_111 : decode cM_makeStep 111 = .ok (.l2i, 1) := by decide +kernel
theorem dM_makeStep_112 : decode cM_makeStep 112 = .ok (.iload 4, 2) := by decide +kernel
theorem dM_makeStep_114 : decode cM_makeStep 114 = .ok (.invokevirtual 89, 3) := by decide +kernel
theorem dM_makeStep_117 : decode cM_makeStep 117 = .ok (.aload_n 0, 1) := by decide +kernel
theorem dM_makeStep_118 : decode cM_makeStep 118 = .ok (.getfield 27, 3) := by decide +kernel
theorem dM_makeStep_121 : decode cM_makeStep 121 = .ok (.ifCond .le 76, 3) := by decide +kernel
theorem dM_makeStep_124 : decode cM_makeStep 124 = .ok (.aload_n 0, 1) := by decide +kernel
theorem dM_makeStep_125 : decode cM_makeStep 125 = .ok (.getfield 7, 3) := by decide +kernel
theorem dM_makeStep_128 : decode cM_makeStep 128 = .ok (.bipush 32, 2) := by decide +kernel
theorem dM_makeStep_130 : decode cM_makeStep 130 = .ok (.aload_n 0, 1) := by decide +kernel
theorem dM_makeStep_131 : decode cM_makeStep 131 = .ok (.getfield 44, 3) := by decide +kernel
theorem dM_makeStep_134 : decode cM_makeStep 134 = .ok (.ifCond .eq 8, 3) := by decide +kernel
theorem dM_makeStep_137 : decode cM_makeStep 137 = .ok (.ldc 35, 2) := by decide +kernel
theorem dM_makeStep_139 : decode cM_makeStep 139 = .ok (.goto 4, 3) := by decide +kernel
theorem dM_makeStep_142 : decode cM_makeStep 142 = .ok (.iconst 0, 1) := by decide +kernel
theorem dM_makeStep_143 : decode cM_makeStep 143 = .ok (.aload_n 0, 1) := by decide +kernel
theorem dM_makeStep_144 : decode cM_makeStep 144 = .ok (.getfield 31, 3) := by decide +kernel
theorem dM_makeStep_147 : decode cM_makeStep 147 = .ok (.ifCond .eq 9, 3) := by decide +kernel
theorem dM_makeStep_150 : decode cM_makeStep 150 = .ok (.sipush 4096, 3) := by decide +kernel
theorem dM_makeStep_153 : decode cM_makeStep 153 = .ok (.goto 4, 3) := by decide +kernel
theorem dM_makeStep_156 : decode cM_makeStep 156 = .ok (.iconst 0, 1) := by decide +kernel
theorem dM_makeStep_157 : decode cM_makeStep 157 = .ok (.iadd, 1) := by decide +kernel
theorem dM_makeStep_158 : decode cM_makeStep 158 = .ok (.aload_n 0, 1) := by decide +kernel
theorem dM_makeStep_159 : decode cM_makeStep 159 = .ok (.getfield 27, 3) := by decide +kernel
theorem dM_makeStep_162 : decode cM_makeStep 162 = .ok (.iadd, 1) := by decide +kernel
theorem dM_makeStep_163 : decode cM_makeStep 163 = .ok (.iload_n 1, 1) := by decide +kernel
theorem dM_makeStep_164 : decode cM_makeStep 164 = .ok (.invokestatic 73, 3) := by decide +kernel
theorem dM_makeStep_167 : decode cM_makeStep 167 = .ok (.lastore, 1) := by decide +kernel
theorem dM_makeStep_168 : decode cM_makeStep 168 = .ok (.aload_n 0, 1) := by decide +kernel
theorem dM_makeStep_169 : decode cM_makeStep 169 = .ok (.iconst 0, 1) := by decide +kernel
theorem dM_makeStep_170 : decode cM_makeStep 170 = .ok (.putfield 31, 3) := by decide +kernel
theorem dM_makeStep_173 : decode cM_makeStep 173 = .ok (.aload_n 0, 1) := by decide +kernel
theorem dM_makeStep_174 : decode cM_makeStep 174 = .ok (.bipush 33, 2) := by decide +kernel
theorem dM_makeStep_176 : decode cM_makeStep 176 = .ok (.putfield 47, 3) := by decide +kernel
theorem dM_makeStep_179 : decode cM_makeStep 179 = .ok (.aload_n 0, 1) := by decide +kernel
theorem dM_makeStep_180 : decode cM_makeStep 180 = .ok (.dup, 1) := by decide +kernel
theorem dM_makeStep_181 : decode cM_makeStep 181 = .ok (.getfield 93, 3) := by decide +kernel
theorem dM_makeStep_184 : decode cM_makeStep 184 = .ok (.iconst 1, 1) := by decide +kernel
theorem dM_makeStep_185 : decode cM_makeStep 185 = .ok (.iadd, 1) := by decide +kernel
theorem dM_makeStep_186 : decode cM_makeStep 186 = .ok (.putfield 93, 3) := by decide +kernel
theorem dM_makeStep_189 : decode cM_makeStep 189 = .ok (.aload_n 0, 1) := by decide +kernel
theorem dM_makeStep_190 : decode cM_makeStep 190 = .ok (.aload_n 0, 1) := by decide +kernel
theorem dM_makeStep_191 : decode cM_makeStep 191 = .ok (.getfield 27, 3) := by decide +kernel
theorem dM_makeStep_194 : decode cM_makeStep 194 = .ok (.putfield 96, 3) := by decide +kernel
theorem dM_makeStep_197 : decode cM_makeStep 197 = .ok (.return_, 1) := by decide +kernel
theorem dM_obey_0 : decode cM_obey 0 = .ok (.iload_n 1, 1) := by decide +kernel
theorem dM_obey_1 : decode cM_obey 1 = .ok (.bipush 64, 2) := by decide +kernel
theorem dM_obey_3 : decode cM_obey 3 = .ok (.idiv, 1) := by decide +kernel
theorem dM_obey_4 : decode cM_obey 4 = .ok (.istore 4, 2) := by decide +kernel
theorem dM_obey_6 : decode cM_obey 6 = .ok (.iload 4, 2) := by decide +kernel
theorem dM_obey_8 : decode cM_obey 8 = .ok (.iconst 3, 1) := by decide +kernel
theorem dM_obey_9 : decode cM_obey 9 = .ok (.if_icmp .ne 13, 3) := by decide +kernel
theorem dM_obey_12 : decode cM_obey 12 = .ok (.aload_n 0, 1) := by decide +kernel
theorem dM_obey_13 : decode cM_obey 13 = .ok (.iload_n 1, 1) := by decide +kernel
theorem dM_obey_14 : decode cM_obey 14 = .ok (.iload_n 2, 1) := by decide +kernel
theorem dM_obey_15 : decode cM_obey 15 = .ok (.iload_n 3, 1) := by decide +kernel
theorem dM_obey_16 : decode cM_obey 16 = .ok (.invokevirtual 99, 3) := by decide +kernel
theorem dM_obey_19 : decode cM_obey 19 = .ok (.goto 178, 3) := by decide +kernel
theorem dM_obey_22 : decode cM_obey 22 = .ok (.iload 4, 2) := by decide +kernel
theorem dM_obey_24 : decode cM_obey 24 = .ok (.iconst 4, 1) := by decide +kernel
theorem dM_obey_25 : decode cM_obey 25 = .ok (.if_icmp .ne 13, 3) := by decide +kernel
theorem dM_obey_28 : decode cM_obey 28 = .ok (.aload_n 0, 1) := by decide +kernel
theorem dM_obey_29 : decode cM_obey 29 = .ok (.iload_n 1, 1) := by decide +kernel
theorem dM_obey_30 : decode cM_obey 30 = .ok (.iload_n 2, 1) := by decide +kernel
theorem dM_obey_31 : decode cM_obey 31 = .ok (.iload_n 3, 1) := by decide +kernel
theorem dM_obey_32 : decode cM_obey 32 = .ok (.invokevirtual 102, 3) := by decide +kernel
theorem dM_obey_35 : decode cM_obey 35 = .ok (.goto 162, 3) := by decide +kernel
theorem dM_obey_38 : decode cM_obey 38 = .ok (.iload 4, 2) := by decide +kernel
theorem dM_obey_40 : decode cM_obey 40 = .ok (.iconst 5, 1) := by decide +kernel
theorem dM_obey_41 : decode cM_obey 41 = .ok (.if_icmp .ne 13, 3) := by decide +kernel
theorem dM_obey_44 : decode cM_obey 44 = .ok (.aload_n 0, 1) := by decide +kernel
theorem dM_obey_45 : decode cM_obey 45 = .ok (.iload_n 1, 1) := by decide +kernel
theorem dM_obey_46 : decode cM_obey 46 = .ok (.iload_n 2, 1) := by decide +kernel
theorem dM_obey_47 : decode cM_obey 47 = .ok (.iload_n 3, 1) := by decide +kernel
theorem dM_obey_48 : decode cM_obey 48 = .ok (.invokevirtual 105, 3) := by decide +kernel
theorem dM_obey_51 : decode cM_obey 51 = .ok (.goto 146, 3) := by decide +kernel
theorem dM_obey_54 : decode cM_obey 54 = .ok (.iload 4, 2) := by decide +kernel
theorem dM_obey_56 : decode cM_obey 56 = .ok (.bipush 6, 2) := by decide +kernel
theorem dM_obey_58 : decode cM_obey 58 = .ok (.if_icmp .ne 13, 3) := by decide +kernel
theorem dM_obey_61 : decode cM_obey 61 = .ok (.aload_n 0, 1) := by decide +kernel
theorem dM_obey_62 : decode cM_obey 62 = .ok (.iload_n 1, 1) := by decide +kernel
theorem dM_obey_63 : decode cM_obey 63 = .ok (.iload_n 2, 1) := by decide +kernel
theorem dM_obey_64 : decode cM_obey 64 = .ok (.iload_n 3, 1) := by decide +kernel
theorem dM_obey_65 : decode cM_obey 65 = .ok (.invokevirtual 108, 3) := by decide +kernel
theorem dM_obey_68 : decode cM_obey 68 = .ok (.goto 129, 3) := by decide +kernel
theorem dM_obey_71 : decode cM_obey 71 = .ok (.iload_n 1, 1) := by decide +kernel
theorem dM_obey_72 : decode cM_obey 72 = .ok (.bipush 90, 2) := by decide +kernel
theorem dM_obey_74 : decode cM_obey 74 = .ok (.if_icmp .le 19, 3) := by decide +kernel
theorem dM_obey_77 : decode cM_obey 77 = .ok (.iload_n 1, 1) := by decide +kernel
theorem dM_obey_78 : decode cM_obey 78 = .ok (.bipush 96, 2) := by decide +kernel
theorem dM_obey_80 : decode cM_obey 80 = .ok (.if_icmp .ge 13, 3) := by decide +kernel
theorem dM_obey_83 : decode cM_obey 83 = .ok (.aload_n 0, 1) := by decide +kernel
theorem dM_obey_84 : decode cM_obey 84 = .ok (.iload_n 1, 1) := by decide +kernel
theorem dM_obey_85 : decode cM_obey 85 = .ok (.iload_n 2, 1) := by decide +kernel
theorem dM_obey_86 : decode cM_obey 86 = .ok (.iload_n 3, 1) := by decide +kernel
theorem dM_obey_87 : decode cM_obey 87 = .ok (.invokevirtual 111, 3) := by decide +kernel
theorem dM_obey_90 : decode cM_obey 90 = .ok (.goto 107, 3) := by decide +kernel
theorem dM_obey_93 : decode cM_obey 93 = .ok (.iload_n 1, 1) := by decide +kernel
theorem dM_obey_94 : decode cM_obey 94 = .ok (.bipush 127, 2) := by decide +kernel
theorem dM_obey_96 : decode cM_obey 96 = .ok (.if_icmp .le 20, 3) := by decide +kernel
theorem dM_obey_99 : decode cM_obey 99 = .ok (.iload_n 1, 1) := by decide +kernel
theorem dM_obey_100 : decode cM_obey 100 = .ok (.sipush 144, 3) := by decide +kernel
theorem dM_obey_103 : decode cM_obey 103 = .ok (.if_icmp .ge 13, 3) := by decide +kernel
theorem dM_obey_106 : decode cM_obey 106 = .ok (.aload_n 0, 1) := by decide +kernel
theorem dM_obey_107 : decode cM_obey 107 = .ok (.iload_n 1, 1) := by decide +kernel
theorem dM_obey_108 : decode cM_obey 108 = .ok (.iload_n 2, 1) := by decide +kernel
theorem dM_obey_109 : decode cM_obey 109 = .ok (.iload_n 3, 1) := by decide +kernel
theorem dM_obey_110 : decode cM_obey 110 = .ok (.invokevirtual 114, 3) := by decide +kernel
theorem dM_obey_113 : decode cM_obey 113 = .ok (.goto 84, 3) := by decide +kernel
theorem dM_obey_116 : decode cM_obey 116 = .ok (.iload_n 1, 1) := by decide +kernel
theorem dM_obey_117 : decode cM_obey 117 = .ok (.sipush 143, 3) := by decide +kernel
theorem dM_obey_120 : decode cM_obey 120 = .ok (.if_icmp .le 10, 3) := by decide +kernel
theorem dM_obey_123 : decode cM_obey 123 = .ok (.iload_n 1, 1) := by decide +kernel
theorem dM_obey_124 : decode cM_obey 124 = .ok (.sipush 148, 3) := by decide +kernel
theorem dM_obey_127 : decode cM_obey 127 = .ok (.if_icmp .lt 31, 3) := by decide +kernel
theorem dM_obey_130 : decode cM_obey 130 = .ok (.iload_n 1, 1) := by decide +kernel
theorem dM_obey_131 : decode cM_obey 131 = .ok (.sipush 151, 3) := by decide +kernel
theorem dM_obey_134 : decode cM_obey 134 = .ok (.if_icmp .le 10, 3) := by decide +kernel
theorem dM_obey_137 : decode cM_obey 137 = .ok (.iload_n 1, 1) := by decide +kernel
theorem dM_obey_138 : decode cM_obey 138 = .ok (.sipush 156, 3) := by decide +kernel
theorem dM_obey_141 : decode cM_obey 141 = .ok (.if_icmp .lt 17, 3) := by decide +kernel
theorem dM_obey_144 : decode cM_obey 144 = .ok (.iload_n 1, 1) := by decide +kernel
theorem dM_obey_145 : decode cM_obey 145 = .ok (.sipush 183, 3) := by decide +kernel
theorem dM_obey_148 : decode cM_obey 148 = .ok (.if_icmp .le 20, 3) := by decide +kernel
theorem dM_obey_151 : decode cM_obey 151 = .ok (.iload_n 1, 1) := by decide +kernel
theorem dM_obey_152 : decode cM_obey 152 = .ok (.sipush 192, 3) := by decide +kernel
theorem dM_obey_155 : decode cM_obey 155 = .ok (.if_icmp .ge 13, 3) := by decide +kernel
theorem dM_obey_158 : decode cM_obey 158 = .ok (.aload_n 0, 1) := by decide +kernel
theorem dM_obey_159 : decode cM_obey 159 = .ok (.iload_n 1, 1) := by decide +kernel
theorem dM_obey_160 : decode cM_obey 160 = .ok (.iload_n 2, 1) := by decide +kernel
theorem dM_obey_161 : decode cM_obey 161 = .ok (.iload_n 3, 1) := by decide +kernel
theorem dM_obey_162 : decode cM_obey 162 = .ok (.invokevirtual 117, 3) := by decide +kernel
theorem dM_obey_165 : decode cM_obey 165 = .ok (.goto 32, 3) := by decide +kernel
theorem dM_obey_168 : decode cM_obey 168 = .ok (.iload_n 1, 1) := by decide +kernel
theorem dM_obey_169 : decode cM_obey 169 = .ok (.sipush 159, 3) := by decide +kernel
theorem dM_obey_172 : decode cM_obey 172 = .ok (.if_icmp .le 20, 3) := by decide +kernel
theorem dM_obey_175 : decode cM_obey 175 = .ok (.iload_n 1, 1) := by decide +kernel
theorem dM_obey_176 : decode cM_obey 176 = .ok (.sipush 184, 3) := by decide +kernel
theorem dM_obey_179 : decode cM_obey 179 = .ok (.if_icmp .ge 13, 3) := by decide +kernel
theorem dM_obey_182 : decode cM_obey 182 = .ok (.aload_n 0, 1) := by decide +kernel
theorem dM_obey_183 : decode cM_obey 183 = .ok (.iload_n 1, 1) := by decide +kernel
theorem dM_obey_184 : decode cM_obey 184 = .ok (.iload_n 2, 1) := by decide +kernel
theorem dM_obey_185 : decode cM_obey 185 = .ok (.iload_n 3, 1) := by decide +kernel
theorem dM_obey_186 : decode cM_obey 186 = .ok (.invokevirtual 120, 3) := by decide +kernel
theorem dM_obey_189 : decode cM_obey 189 = .ok (.goto 8, 3) := by decide +kernel
theorem dM_obey_192 : decode cM_obey 192 = .ok (.aload_n 0, 1) := by decide +kernel
theorem dM_obey_193 : decode cM_obey 193 = .ok (.iconst 2, 1) := by decide +kernel
theorem dM_obey_194 : decode cM_obey 194 = .ok (.invokevirtual 36, 3) := by decide +kernel
theorem dM_obey_197 : decode cM_obey 197 = .ok (.return_, 1) := by decide +kernel
theorem dM_source_0 : decode cM_source 0 = .ok (.iload_n 1, 1) := by decide +kernel
theorem dM_source_1 : decode cM_source 1 = .ok (.iconst 1, 1) := by decide +kernel
theorem dM_source_2 : decode cM_source 2 = .ok (.if_icmp .ne 8, 3) := by decide +kernel
theorem dM_source_5 : decode cM_source 5 = .ok (.iload_n 2, 1) := by decide +kernel
theorem dM_source_6 : decode cM_source 6 = .ok (.i2l, 1) := by decide +kernel
theorem dM_source_7 : decode cM_source 7 = .ok (.goto 8, 3) := by decide +kernel
theorem dM_source_10 : decode cM_source 10 = .ok (.aload_n 0, 1) := by decide +kernel
theorem dM_source_11 : decode cM_source 11 = .ok (.iload_n 2, 1) := by decide +kernel
theorem dM_source_12 : decode cM_source 12 = .ok (.invokevirtual 58, 3) := by decide +kernel
theorem dM_source_15 : decode cM_source 15 = .ok (.lreturn, 1) := by decide +kernel
theorem dM_place_0 : decode cM_place 0 = .ok (.iload_n 1, 1) := by decide +kernel
theorem dM_place_1 : decode cM_place 1 = .ok (.iconst 2, 1) := by decide +kernel
theorem dM_place_2 : decode cM_place 2 = .ok (.if_icmp .ge 11, 3) := by decide +kernel
theorem dM_place_5 : decode cM_place 5 = .ok (.aload_n 0, 1) := by decide +kernel
theorem dM_place_6 : decode cM_place 6 = .ok (.iload_n 2, 1) := by decide +kernel
theorem dM_place_7 : decode cM_place 7 = .ok (.lload 4, 2) := by decide +kernel
theorem dM_place_9 : decode cM_place 9 = .ok (.invokevirtual 123, 3) := by decide +kernel
theorem dM_place_12 : decode cM_place 12 = .ok (.return_, 1) := by decide +kernel
theorem dM_place_13 : decode cM_place 13 = .ok (.aload_n 0, 1) := by decide +kernel
theorem dM_place_14 : decode cM_place 14 = .ok (.iload_n 3, 1) := by decide +kernel
theorem dM_place_15 : decode cM_place 15 = .ok (.lload 4, 2) := by decide +kernel
theorem dM_place_17 : decode cM_place 17 = .ok (.invokevirtual 127, 3) := by decide +kernel
theorem dM_place_20 : decode cM_place 20 = .ok (.iload_n 1, 1) := by decide +kernel
theorem dM_place_21 : decode cM_place 21 = .ok (.iconst 3, 1) := by decide +kernel
theorem dM_place_22 : decode cM_place 22 = .ok (.if_icmp .ne 14, 3) := by decide +kernel
theorem dM_place_25 : decode cM_place 25 = .ok (.iload_n 2, 1) := by decide +kernel
theorem dM_place_26 : decode cM_place 26 = .ok (.ifCond .le 10, 3) := by decide +kernel
theorem dM_place_29 : decode cM_place 29 = .ok (.aload_n 0, 1) := by decide +kernel
theorem dM_place_30 : decode cM_place 30 = .ok (.iload_n 2, 1) := by decide +kernel
theorem dM_place_31 : decode cM_place 31 = .ok (.lload 4, 2) := by decide +kernel
theorem dM_place_33 : decode cM_place 33 = .ok (.invokevirtual 123, 3) := by decide +kernel
theorem dM_place_36 : decode cM_place 36 = .ok (.return_, 1) := by decide +kernel
theorem dM_keep_0 : decode cM_keep 0 = .ok (.iload_n 1, 1) := by decide +kernel
theorem dM_keep_1 : decode cM_keep 1 = .ok (.iconst 1, 1) := by decide +kernel
theorem dM_keep_2 : decode cM_keep 2 = .ok (.if_icmp .le 10, 3) := by decide +kernel
theorem dM_keep_5 : decode cM_keep 5 = .ok (.aload_n 0, 1) := by decide +kernel
theorem dM_keep_6 : decode cM_keep 6 = .ok (.iload_n 3, 1) := by decide +kernel
theorem dM_keep_7 : decode cM_keep 7 = .ok (.lload 4, 2) := by decide +kernel
theorem dM_keep_9 : decode cM_keep 9 = .ok (.invokevirtual 127, 3) := by decide +kernel
theorem dM_keep_12 : decode cM_keep 12 = .ok (.iload_n 1, 1) := by decide +kernel
theorem dM_keep_13 : decode cM_keep 13 = .ok (.iconst 2, 1) := by decide +kernel
theorem dM_keep_14 : decode cM_keep 14 = .ok (.if_icmp .eq 10, 3) := by decide +kernel
theorem dM_keep_17 : decode cM_keep 17 = .ok (.aload_n 0, 1) := by decide +kernel
theorem dM_keep_18 : decode cM_keep 18 = .ok (.iload_n 2, 1) := by decide +kernel
theorem dM_keep_19 : decode cM_keep 19 = .ok (.lload 4, 2) := by decide +kernel
theorem dM_keep_21 : decode cM_keep 21 = .ok (.invokevirtual 123, 3) := by decide +kernel
theorem dM_keep_24 : decode cM_keep 24 = .ok (.return_, 1) := by decide +kernel
theorem dM_move_0 : decode cM_move 0 = .ok (.iload_n 1, 1) := by decide +kernel
theorem dM_move_1 : decode cM_move 1 = .ok (.iconst 4, 1) := by decide +kernel
theorem dM_move_2 : decode cM_move 2 = .ok (.irem, 1) := by decide +kernel
theorem dM_move_3 : decode cM_move 3 = .ok (.istore 4, 2) := by decide +kernel
theorem dM_move_5 : decode cM_move 5 = .ok (.iload 4, 2) := by decide +kernel
theorem dM_move_7 : decode cM_move 7 = .ok (.iconst 2, 1) := by decide +kernel
theorem dM_move_8 : decode cM_move 8 = .ok (.if_icmp .ne 12, 3) := by decide +kernel
theorem dM_move_11 : decode cM_move 11 = .ok (.aload_n 0, 1) := by decide +kernel
theorem dM_move_12 : decode cM_move 12 = .ok (.getfield 7, 3) := by decide +kernel
theorem dM_move_15 : decode cM_move 15 = .ok (.iload_n 2, 1) := by decide +kernel
theorem dM_move_16 : decode cM_move 16 = .ok (.laload, 1) := by decide +kernel
theorem dM_move_17 : decode cM_move 17 = .ok (.goto 10, 3) := by decide +kernel
theorem dM_move_20 : decode cM_move 20 = .ok (.aload_n 0, 1) := by decide +kernel
theorem dM_move_21 : decode cM_move 21 = .ok (.iload 4, 2) := by decide +kernel
theorem dM_move_23 : decode cM_move 23 = .ok (.iload_n 3, 1) := by decide +kernel
theorem dM_move_24 : decode cM_move 24 = .ok (.invokevirtual 130, 3) := by decide +kernel
theorem dM_move_27 : decode cM_move 27 = .ok (.lstore 5, 2) := by decide +kernel
theorem dM_move_29 : decode cM_move 29 = .ok (.iload_n 1, 1) := by decide +kernel
theorem dM_move_30 : decode cM_move 30 = .ok (.iconst 4, 1) := by decide +kernel
theorem dM_move_31 : decode cM_move 31 = .ok (.idiv, 1) := by decide +kernel
theorem dM_move_32 : decode cM_move 32 = .ok (.iconst 4, 1) := by decide +kernel
theorem dM_move_33 : decode cM_move 33 = .ok (.irem, 1) := by decide +kernel
theorem dM_move_34 : decode cM_move 34 = .ok (.istore 7, 2) := by decide +kernel
theorem dM_move_36 : decode cM_move 36 = .ok (.iload 7, 2) := by decide +kernel
theorem dM_move_38 : decode cM_move 38 = .ok (.iconst 2, 1) := by decide +kernel
theorem dM_move_39 : decode cM_move 39 = .ok (.if_icmp .eq 18, 3) := by decide +kernel
theorem dM_move_42 : decode cM_move 42 = .ok (.iload 7, 2) := by decide +kernel
theorem dM_move_44 : decode cM_move 44 = .ok (.iconst 3, 1) := by decide +kernel
theorem dM_move_45 : decode cM_move 45 = .ok (.if_icmp .ne 16, 3) := by decide +kernel
theorem dM_move_48 : decode cM_move 48 = .ok (.lload 5, 2) := by decide +kernel
theorem dM_move_50 : decode cM_move 50 = .ok (.ldc2_w 20, 3) := by decide +kernel
theorem dM_move_53 : decode cM_move 53 = .ok (.lcmp, 1) := by decide +kernel
theorem dM_move_54 : decode cM_move 54 = .ok (.ifCond .lt 7, 3) := by decide +kernel
theorem dM_move_57 : decode cM_move 57 = .ok (.iconst 1, 1) := by decide +kernel
theorem dM_move_58 : decode cM_move 58 = .ok (.goto 4, 3) := by decide +kernel
theorem dM_move_61 : decode cM_move 61 = .ok (.iconst 0, 1) := by decide +kernel
theorem dM_move_62 : decode cM_move 62 = .ok (.istore 8, 2) := by decide +kernel
theorem dM_move_64 : decode cM_move 64 = .ok (.aload_n 0, 1) := by decide +kernel
theorem dM_move_65 : decode cM_move 65 = .ok (.iload 7, 2) := by decide +kernel
theorem dM_move_67 : decode cM_move 67 = .ok (.iconst 1, 1) := by decide +kernel
theorem dM_move_68 : decode cM_move 68 = .ok (.if_icmp .le 16, 3) := by decide +kernel
theorem dM_move_71 : decode cM_move 71 = .ok (.lload 5, 2) := by decide +kernel
theorem dM_move_73 : decode cM_move 73 = .ok (.ldc2_w 20, 3) := by decide +kernel
theorem dM_move_76 : decode cM_move 76 = .ok (.lcmp, 1) := by decide +kernel
theorem dM_move_77 : decode cM_move 77 = .ok (.ifCond .ne 7, 3) := by decide +kernel
theorem dM_move_80 : decode cM_move 80 = .ok (.iconst 1, 1) := by decide +kernel
theorem dM_move_81 : decode cM_move 81 = .ok (.goto 4, 3) := by decide +kernel
theorem dM_move_84 : decode cM_move 84 = .ok (.iconst 0, 1) := by decide +kernel
theorem dM_move_85 : decode cM_move 85 = .ok (.invokevirtual 133, 3) := by decide +kernel
theorem dM_move_88 : decode cM_move 88 = .ok (.iload 7, 2) := by decide +kernel
theorem dM_move_90 : decode cM_move 90 = .ok (.iconst 1, 1) := by decide +kernel
theorem dM_move_91 : decode cM_move 91 = .ok (.if_icmp .ne 19, 3) := by decide +kernel
theorem dM_move_94 : decode cM_move 94 = .ok (.lload 5, 2) := by decide +kernel
theorem dM_move_96 : decode cM_move 96 = .ok (.invokestatic 62, 3) := by decide +kernel
theorem dM_move_99 : decode cM_move 99 = .ok (.lload 5, 2) := by decide +kernel
theorem dM_move_101 : decode cM_move 101 = .ok (.invokestatic 137, 3) := by decide +kernel
theorem dM_move_104 : decode cM_move 104 = .ok (.invokestatic 73, 3) := by decide +kernel
theorem dM_move_107 : decode cM_move 107 = .ok (.goto 19, 3) := by decide +kernel
theorem dM_move_110 : decode cM_move 110 = .ok (.iload 8, 2) := by decide +kernel
theorem dM_move_112 : decode cM_move 112 = .ok (.ifCond .eq 12, 3) := by decide +kernel
theorem dM_move_115 : decode cM_move 115 = .ok (.ldc2_w 140, 3) := by decide +kernel
theorem dM_move_118 : decode cM_move 118 = .ok (.lload 5, 2) := by decide +kernel
theorem dM_move_120 : decode cM_move 120 = .ok (.lsub, 1) := by decide +kernel
theorem dM_move_121 : decode cM_move 121 = .ok (.goto 5, 3) := by decide +kernel
theorem dM_move_124 : decode cM_move 124 = .ok (.lload 5, 2) := by decide +kernel
theorem dM_move_126 : decode cM_move 126 = .ok (.lstore 9, 2) := by decide +kernel
theorem dM_move_128 : decode cM_move 128 = .ok (.aload_n 0, 1) := by decide +kernel
theorem dM_move_129 : decode cM_move 129 = .ok (.iload 4, 2) := by decide +kernel
theorem dM_move_131 : decode cM_move 131 = .ok (.iload_n 2, 1) := by decide +kernel
theorem dM_move_132 : decode cM_move 132 = .ok (.iload_n 3, 1) := by decide +kernel
theorem dM_move_133 : decode cM_move 133 = .ok (.lload 9, 2) := by decide +kernel
theorem dM_move_135 : decode cM_move 135 = .ok (.invokevirtual 142, 3) := by decide +kernel
theorem dM_move_138 : decode cM_move 138 = .ok (.return_, 1) := by decide +kernel
