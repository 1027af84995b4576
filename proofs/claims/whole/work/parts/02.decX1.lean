theorem dJ_abs_0 : decode cJ_abs 0 = .ok (.lload_n 0, 1) := by decide +kernel
theorem dJ_abs_1 : decode cJ_abs 1 = .ok (.lconst 0, 1) := by decide +kernel
theorem dJ_abs_2 : decode cJ_abs 2 = .ok (.lcmp, 1) := by decide +kernel
theorem dJ_abs_3 : decode cJ_abs 3 = .ok (.ifCond .ge 8, 3) := by decide +kernel
theorem dJ_abs_6 : decode cJ_abs 6 = .ok (.lload_n 0, 1) := by decide +kernel
theorem dJ_abs_7 : decode cJ_abs 7 = .ok (.lneg, 1) := by decide +kernel
theorem dJ_abs_8 : decode cJ_abs 8 = .ok (.goto 4, 3) := by decide +kernel
theorem dJ_abs_11 : decode cJ_abs 11 = .ok (.lload_n 0, 1) := by decide +kernel
theorem dJ_abs_12 : decode cJ_abs 12 = .ok (.lreturn, 1) := by decide +kernel
theorem dJ_floorMod_0 : decode cJ_floorMod 0 = .ok (.iload_n 0, 1) := by decide +kernel
theorem dJ_floorMod_1 : decode cJ_floorMod 1 = .ok (.iload_n 1, 1) := by decide +kernel
theorem dJ_floorMod_2 : decode cJ_floorMod 2 = .ok (.irem, 1) := by decide +kernel
theorem dJ_floorMod_3 : decode cJ_floorMod 3 = .ok (.istore_n 2, 1) := by decide +kernel
theorem dJ_floorMod_4 : decode cJ_floorMod 4 = .ok (.iload_n 0, 1) := by decide +kernel
theorem dJ_floorMod_5 : decode cJ_floorMod 5 = .ok (.iload_n 1, 1) := by decide +kernel
theorem dJ_floorMod_6 : decode cJ_floorMod 6 = .ok (.ixor, 1) := by decide +kernel
theorem dJ_floorMod_7 : decode cJ_floorMod 7 = .ok (.ifCond .ge 11, 3) := by decide +kernel
theorem dJ_floorMod_10 : decode cJ_floorMod 10 = .ok (.iload_n 2, 1) := by decide +kernel
theorem dJ_floorMod_11 : decode cJ_floorMod 11 = .ok (.ifCond .eq 7, 3) := by decide +kernel
theorem dJ_floorMod_14 : decode cJ_floorMod 14 = .ok (.iload_n 2, 1) := by decide +kernel
theorem dJ_floorMod_15 : decode cJ_floorMod 15 = .ok (.iload_n 1, 1) := by decide +kernel
theorem dJ_floorMod_16 : decode cJ_floorMod 16 = .ok (.iadd, 1) := by decide +kernel
theorem dJ_floorMod_17 : decode cJ_floorMod 17 = .ok (.ireturn, 1) := by decide +kernel
theorem dJ_floorMod_18 : decode cJ_floorMod 18 = .ok (.iload_n 2, 1) := by decide +kernel
theorem dJ_floorMod_19 : decode cJ_floorMod 19 = .ok (.ireturn, 1) := by decide +kernel
theorem dJ_max_0 : decode cJ_max 0 = .ok (.iload_n 0, 1) := by decide +kernel
theorem dJ_max_1 : decode cJ_max 1 = .ok (.iload_n 1, 1) := by decide +kernel
theorem dJ_max_2 : decode cJ_max 2 = .ok (.if_icmp .lt 7, 3) := by decide +kernel
theorem dJ_max_5 : decode cJ_max 5 = .ok (.iload_n 0, 1) := by decide +kernel
theorem dJ_max_6 : decode cJ_max 6 = .ok (.goto 4, 3) := by decide +kernel
theorem dJ_max_9 : decode cJ_max 9 = .ok (.iload_n 1, 1) := by decide +kernel
theorem dJ_max_10 : decode cJ_max 10 = .ok (.ireturn, 1) := by decide +kernel
theorem dJ_min_0 : decode cJ_min 0 = .ok (.iload_n 0, 1) := by decide +kernel
theorem dJ_min_1 : decode cJ_min 1 = .ok (.iload_n 1, 1) := by decide +kernel
theorem dJ_min_2 : decode cJ_min 2 = .ok (.if_icmp .gt 7, 3) := by decide +kernel
theorem dJ_min_5 : decode cJ_min 5 = .ok (.iload_n 0, 1) := by decide +kernel
theorem dJ_min_6 : decode cJ_min 6 = .ok (.goto 4, 3) := by decide +kernel
theorem dJ_min_9 : decode cJ_min 9 = .ok (.iload_n 1, 1) := by decide +kernel
theorem dJ_min_10 : decode cJ_min 10 = .ok (.ireturn, 1) := by decide +kernel
theorem dX_init_0 : decode cX_init 0 = .ok (.aload_n 0, 1) := by decide +kernel
theorem dX_init_1 : decode cX_init 1 = .ok (.invokespecial 1, 3) := by decide +kernel
theorem dX_init_4 : decode cX_init 4 = .ok (.aload_n 0, 1) := by decide +kernel
theorem dX_init_5 : decode cX_init 5 = .ok (.sipush 1024, 3) := by decide +kernel
theorem dX_init_8 : decode cX_init 8 = .ok (.newarray .long, 2) := by decide +kernel
theorem dX_init_10 : decode cX_init 10 = .ok (.putfield 9, 3) := by decide +kernel
theorem dX_init_13 : decode cX_init 13 = .ok (.return_, 1) := by decide +kernel
theorem dX_deposit_0 : decode cX_deposit 0 = .ok (.iload_n 1, 1) := by decide +kernel
theorem dX_deposit_1 : decode cX_deposit 1 = .ok (.invokestatic 13, 3) := by decide +kernel
theorem dX_deposit_4 : decode cX_deposit 4 = .ok (.ifCond .ne 5, 3) := by decide +kernel
theorem dX_deposit_7 : decode cX_deposit 7 = .ok (.iconst 0, 1) := by decide +kernel
theorem dX_deposit_8 : decode cX_deposit 8 = .ok (.ireturn, 1) := by decide +kernel
theorem dX_deposit_9 : decode cX_deposit 9 = .ok (.aload_n 0, 1) := by decide +kernel
theorem dX_deposit_10 : decode cX_deposit 10 = .ok (.getfield 9, 3) := by decide +kernel
theorem dX_deposit_13 : decode cX_deposit 13 = .ok (.iload_n 1, 1) := by decide +kernel
theorem dX_deposit_14 : decode cX_deposit 14 = .ok (.lload_n 2, 1) := by decide +kernel
theorem dX_deposit_15 : decode cX_deposit 15 = .ok (.ldc2_w 17, 3) := by decide +kernel
theorem dX_deposit_18 : decode cX_deposit 18 = .ok (.land, 1) := by decide +kernel
theorem dX_deposit_19 : decode cX_deposit 19 = .ok (.lastore, 1) := by decide +kernel
theorem dX_deposit_20 : decode cX_deposit 20 = .ok (.iconst 1, 1) := by decide +kernel
theorem dX_deposit_21 : decode cX_deposit 21 = .ok (.ireturn, 1) := by decide +kernel
theorem dX_examine_0 : decode cX_examine 0 = .ok (.iload_n 1, 1) := by decide +kernel
theorem dX_examine_1 : decode cX_examine 1 = .ok (.invokestatic 13, 3) := by decide +kernel
theorem dX_examine_4 : decode cX_examine 4 = .ok (.ifCond .eq 12, 3) := by decide +kernel
theorem dX_examine_7 : decode cX_examine 7 = .ok (.aload_n 0, 1) := by decide +kernel
theorem dX_examine_8 : decode cX_examine 8 = .ok (.getfield 9, 3) := by decide +kernel
theorem dX_examine_11 : decode cX_examine 11 = .ok (.iload_n 1, 1) := by decide +kernel
theorem dX_examine_12 : decode cX_examine 12 = .ok (.laload, 1) := by decide +kernel
theorem dX_examine_13 : decode cX_examine 13 = .ok (.goto 6, 3) := by decide +kernel
theorem dX_examine_16 : decode cX_examine 16 = .ok (.ldc2_w 19, 3) := by decide +kernel
theorem dX_examine_19 : decode cX_examine 19 = .ok (.lreturn, 1) := by decide +kernel
theorem dX_number_0 : decode cX_number 0 = .ok (.iload_n 1, 1) := by decide +kernel
theorem dX_number_1 : decode cX_number 1 = .ok (.invokestatic 13, 3) := by decide +kernel
theorem dX_number_4 : decode cX_number 4 = .ok (.ifCond .eq 15, 3) := by decide +kernel
theorem dX_number_7 : decode cX_number 7 = .ok (.aload_n 0, 1) := by decide +kernel
theorem dX_number_8 : decode cX_number 8 = .ok (.getfield 9, 3) := by decide +kernel
theorem dX_number_11 : decode cX_number 11 = .ok (.iload_n 1, 1) := by decide +kernel
theorem dX_number_12 : decode cX_number 12 = .ok (.laload, 1) := by decide +kernel
theorem dX_number_13 : decode cX_number 13 = .ok (.invokestatic 21, 3) := by decide +kernel
theorem dX_number_16 : decode cX_number 16 = .ok (.goto 4, 3) := by decide +kernel
theorem dX_number_19 : decode cX_number 19 = .ok (.lconst 0, 1) := by decide +kernel
theorem dX_number_20 : decode cX_number 20 = .ok (.lreturn, 1) := by decide +kernel
theorem dX_segment_0 : decode cX_segment 0 = .ok (.iload_n 1, 1) := by decide +kernel
theorem dX_segment_1 : decode cX_segment 1 = .ok (.ifCond .lt 22, 3) := by decide +kernel
theorem dX_segment_4 : decode cX_segment 4 = .ok (.iload_n 1, 1) := by decide +kernel
theorem dX_segment_5 : decode cX_segment 5 = .ok (.iconst 1, 1) := by decide +kernel
theorem dX_segment_6 : decode cX_segment 6 = .ok (.if_icmp .gt 17, 3) := by decide +kernel
theorem dX_segment_9 : decode cX_segment 9 = .ok (.iload_n 2, 1) := by decide +kernel
theorem dX_segment_10 : decode cX_segment 10 = .ok (.invokestatic 25, 3) := by decide +kernel
theorem dX_segment_13 : decode cX_segment 13 = .ok (.ifCond .eq 10, 3) := by decide +kernel
theorem dX_segment_16 : decode cX_segment 16 = .ok (.iload_n 3, 1) := by decide +kernel
theorem dX_segment_17 : decode cX_segment 17 = .ok (.invokestatic 25, 3) := by decide +kernel
theorem dX_segment_20 : decode cX_segment 20 = .ok (.ifCond .ne 5, 3) := by decide +kernel
theorem dX_segment_23 : decode cX_segment 23 = .ok (.iconst 0, 1) := by decide +kernel
theorem dX_segment_24 : decode cX_segment 24 = .ok (.ireturn, 1) := by decide +kernel
theorem dX_segment_25 : decode cX_segment 25 = .ok (.iload_n 1, 1) := by decide +kernel
theorem dX_segment_26 : decode cX_segment 26 = .ok (.ifCond .ne 16, 3) := by decide +kernel
theorem dX_segment_29 : decode cX_segment 29 = .ok (.aload_n 0, 1) := by decide +kernel
theorem dX_segment_30 : decode cX_segment 30 = .ok (.iload_n 2, 1) := by decide +kernel
theorem dX_segment_31 : decode cX_segment 31 = .ok (.putfield 28, 3) := by decide +kernel
theorem dX_segment_34 : decode cX_segment 34 = .ok (.aload_n 0, 1) := by decide +kernel
theorem dX_segment_35 : decode cX_segment 35 = .ok (.iload_n 3, 1) := by decide +kernel
theorem dX_segment_36 : decode cX_segment 36 = .ok (.putfield 32, 3) := by decide +kernel
theorem dX_segment_39 : decode cX_segment 39 = .ok (.goto 13, 3) := by decide +kernel
theorem dX_segment_42 : decode cX_segment 42 = .ok (.aload_n 0, 1) := by decide +kernel
theorem dX_segment_43 : decode cX_segment 43 = .ok (.iload_n 2, 1) := by decide +kernel
theorem dX_segment_44 : decode cX_segment 44 = .ok (.putfield 35, 3) := by decide +kernel
theorem dX_segment_47 : decode cX_segment 47 = .ok (.aload_n 0, 1) := by decide +kernel
theorem dX_segment_48 : decode cX_segment 48 = .ok (.iload_n 3, 1) := by decide +kernel
theorem dX_segment_49 : decode cX_segment 49 = .ok (.putfield 38, 3) := by decide +kernel
theorem dX_segment_52 : decode cX_segment 52 = .ok (.iconst 1, 1) := by decide +kernel
theorem dX_segment_53 : decode cX_segment 53 = .ok (.ireturn, 1) := by decide +kernel
theorem dX_start_0 : decode cX_start 0 = .ok (.aload_n 0, 1) := by decide +kernel
theorem dX_start_1 : decode cX_start 1 = .ok (.iload_n 1, 1) := by decide +kernel
theorem dX_start_2 : decode cX_start 2 = .ok (.ldc 41, 2) := by decide +kernel
theorem dX_start_4 : decode cX_start 4 = .ok (.iand, 1) := by decide +kernel
theorem dX_start_5 : decode cX_start 5 = .ok (.putfield 42, 3) := by decide +kernel
theorem dX_start_8 : decode cX_start 8 = .ok (.aload_n 0, 1) := by decide +kernel
theorem dX_start_9 : decode cX_start 9 = .ok (.iload_n 2, 1) := by decide +kernel
theorem dX_start_10 : decode cX_start 10 = .ok (.putfield 45, 3) := by decide +kernel
theorem dX_start_13 : decode cX_start 13 = .ok (.aload_n 0, 1) := by decide +kernel
theorem dX_start_14 : decode cX_start 14 = .ok (.iconst 0, 1) := by decide +kernel
theorem dX_start_15 : decode cX_start 15 = .ok (.putfield 49, 3) := by decide +kernel
theorem dX_start_18 : decode cX_start 18 = .ok (.aload_n 0, 1) := by decide +kernel
theorem dX_start_19 : decode cX_start 19 = .ok (.iconst 0, 1) := by decide +kernel
theorem dX_start_20 : decode cX_start 20 = .ok (.putfield 52, 3) := by decide +kernel
theorem dX_start_23 : decode cX_start 23 = .ok (.return_, 1) := by decide +kernel
theorem dX_run_0 : decode cX_run 0 = .ok (.iload_n 1, 1) := by decide +kernel
theorem dX_run_1 : decode cX_run 1 = .ok (.iconst 1, 1) := by decide +kernel
theorem dX_run_2 : decode cX_run 2 = .ok (.if_icmp .lt 9, 3) := by decide +kernel
theorem dX_run_5 : decode cX_run 5 = .ok (.iload_n 1, 1) := by decide +kernel
theorem dX_run_6 : decode cX_run 6 = .ok (.bipush 100, 2) := by decide +kernel
theorem dX_run_8 : decode cX_run 8 = .ok (.if_icmp .le 5, 3) := by decide +kernel
theorem dX_run_11 : decode cX_run 11 = .ok (.iconst (-1), 1) := by decide +kernel
theorem dX_run_12 : decode cX_run 12 = .ok (.ireturn, 1) := by decide +kernel
theorem dX_run_13 : decode cX_run 13 = .ok (.iconst 0, 1) := by decide +kernel
theorem dX_run_14 : decode cX_run 14 = .ok (.istore_n 2, 1) := by decide +kernel
theorem dX_run_15 : decode cX_run 15 = .ok (.iload_n 2, 1) := by decide +kernel
theorem dX_run_16 : decode cX_run 16 = .ok (.iload_n 1, 1) := by decide +kernel
theorem dX_run_17 : decode cX_run 17 = .ok (.if_icmp .ge 20, 3) := by decide +kernel
theorem dX_run_20 : decode cX_run 20 = .ok (.aload_n 0, 1) := by decide +kernel
theorem dX_run_21 : decode cX_run 21 = .ok (.getfield 49, 3) := by decide +kernel
theorem dX_run_24 : decode cX_run 24 = .ok (.ifCond .ne 13, 3) := by decide +kernel
theorem dX_run_27 : decode cX_run 27 = .ok (.aload_n 0, 1) := by decide +kernel
theorem dX_run_28 : decode cX_run 28 = .ok (.invokevirtual 55, 3) := by decide +kernel
theorem dX_run_31 : decode cX_run 31 = .ok (.iinc 2 1, 3) := by decide +kernel
theorem dX_run_34 : decode cX_run 34 = .ok (.goto (-19), 3) := by decide +kernel
theorem dX_run_37 : decode cX_run 37 = .ok (.iload_n 2, 1) := by decide +kernel
theorem dX_run_38 : decode cX_run 38 = .ok (.ireturn, 1) := by decide +kernel
theorem dX_look_0 : decode cX_look 0 = .ok (.iload_n 1, 1) := by decide +kernel
theorem dX_look_1 : decode cX_look 1 = .ok (.tableswitch 102 0 6 #[43, 48, 61, 74, 87, 92, 97], 43) := by decide +kernel
theorem dX_look_44 : decode cX_look 44 = .ok (.aload_n 0, 1) := by decide +kernel
theorem dX_look_45 : decode cX_look 45 = .ok (.getfield 42, 3) := by decide +kernel
theorem dX_look_48 : decode cX_look 48 = .ok (.ireturn, 1) := by decide +kernel
theorem dX_look_49 : decode cX_look 49 = .ok (.aload_n 0, 1) := by decide +kernel
theorem dX_look_50 : decode cX_look 50 = .ok (.getfield 45, 3) := by decide +kernel
theorem dX_look_53 : decode cX_look 53 = .ok (.ifCond .eq 7, 3) := by decide +kernel
theorem dX_look_56 : decode cX_look 56 = .ok (.iconst 1, 1) := by decide +kernel
theorem dX_look_57 : decode cX_look 57 = .ok (.goto 4, 3) := by decide +kernel
theorem dX_look_60 : decode cX_look 60 = .ok (.iconst 0, 1) := by decide +kernel
theorem dX_look_61 : decode cX_look 61 = .ok (.ireturn, 1) := by decide +kernel
theorem dX_look_62 : decode cX_look 62 = .ok (.aload_n 0, 1) := by decide +kernel
theorem dX_look_63 : decode cX_look 63 = .ok (.getfield 52, 3) := by decide +kernel
theorem dX_look_66 : decode cX_look 66 = .ok (.ifCond .eq 7, 3) := by decide +kernel
theorem dX_look_69 : decode cX_look 69 = .ok (.iconst 1, 1) := by decide +kernel
theorem dX_look_70 : decode cX_look 70 = .ok (.goto 4, 3) := by decide +kernel
theorem dX_look_73 : decode cX_look 73 = .ok (.iconst 0, 1) := by decide +kernel
theorem dX_look_74 : decode cX_look 74 = .ok (.ireturn, 1) := by decide +kernel
theorem dX_look_75 : decode cX_look 75 = .ok (.aload_n 0, 1) := by decide +kernel
theorem dX_look_76 : decode cX_look 76 = .ok (.getfield 49, 3) := by decide +kernel
theorem dX_look_79 : decode cX_look 79 = .ok (.ifCond .eq 7, 3) := by decide +kernel
theorem dX_look_82 : decode cX_look 82 = .ok (.iconst 1, 1) := by decide +kernel
theorem dX_look_83 : decode cX_look 83 = .ok (.goto 4, 3) := by decide +kernel
theorem dX_look_86 : decode cX_look 86 = .ok (.iconst 0, 1) := by decide +kernel
theorem dX_look_87 : decode cX_look 87 = .ok (.ireturn, 1) := by decide +kernel
theorem dX_look_88 : decode cX_look 88 = .ok (.aload_n 0, 1) := by decide +kernel
theorem dX_look_89 : decode cX_look 89 = .ok (.getfield 58, 3) := by decide +kernel
theorem dX_look_92 : decode cX_look 92 = .ok (.ireturn, 1) := by decide +kernel
theorem dX_look_93 : decode cX_look 93 = .ok (.aload_n 0, 1) := by decide +kernel
theorem dX_look_94 : decode cX_look 94 = .ok (.getfield 61, 3) := by decide +kernel
theorem dX_look_97 : decode cX_look 97 = .ok (.ireturn, 1) := by decide +kernel
theorem dX_look_98 : decode cX_look 98 = .ok (.aload_n 0, 1) := by decide +kernel
theorem dX_look_99 : decode cX_look 99 = .ok (.getfield 64, 3) := by decide +kernel
theorem dX_look_102 : decode cX_look 102 = .ok (.ireturn, 1) := by decide +kernel
theorem dX_look_103 : decode cX_look 103 = .ok (.iconst (-1), 1) := by decide +kernel
theorem dX_look_104 : decode cX_look 104 = .ok (.ireturn, 1) := by decide +kernel
theorem dX_step_0 : decode cX_step 0 = .ok (.aload_n 0, 1) := by decide +kernel
theorem dX_step_1 : decode cX_step 1 = .ok (.getfield 42, 3) := by decide +kernel
theorem dX_step_4 : decode cX_step 4 = .ok (.istore_n 1, 1) := by decide +kernel
theorem dX_step_5 : decode cX_step 5 = .ok (.aload_n 0, 1) := by decide +kernel
theorem dX_step_6 : decode cX_step 6 = .ok (.dup, 1) := by decide +kernel
theorem dX_step_7 : decode cX_step 7 = .ok (.getfield 58, 3) := by decide +kernel
theorem dX_step_10 : decode cX_step 10 = .ok (.iconst 1, 1) := by decide +kernel
theorem dX_step_11 : decode cX_step 11 = .ok (.iadd, 1) := by decide +kernel
theorem dX_step_12 : decode cX_step 12 = .ok (.putfield 58, 3) := by decide +kernel
theorem dX_step_15 : decode cX_step 15 = .ok (.aload_n 0, 1) := by decide +kernel
theorem dX_step_16 : decode cX_step 16 = .ok (.iconst 0, 1) := by decide +kernel
theorem dX_step_17 : decode cX_step 17 = .ok (.putfield 67, 3) := by decide +kernel
theorem dX_step_20 : decode cX_step 20 = .ok (.aload_n 0, 1) := by decide +kernel
theorem dX_step_21 : decode cX_step 21 = .ok (.iconst 0, 1) := by decide +kernel
theorem dX_step_22 : decode cX_step 22 = .ok (.putfield 70, 3) := by decide +kernel
theorem dX_step_25 : decode cX_step 25 = .ok (.aload_n 0, 1) := by decide +kernel
theorem dX_step_26 : decode cX_step 26 = .ok (.aload_n 0, 1) := by decide +kernel
theorem dX_step_27 : decode cX_step 27 = .ok (.getfield 42, 3) := by decide +kernel
theorem dX_step_30 : decode cX_step 30 = .ok (.invokevirtual 73, 3) := by decide +kernel
theorem dX_step_33 : decode cX_step 33 = .ok (.lstore_n 2, 1) := by decide +kernel
theorem dX_step_34 : decode cX_step 34 = .ok (.aload_n 0, 1) := by decide +kernel
theorem dX_step_35 : decode cX_step 35 = .ok (.aload_n 0, 1) := by decide +kernel
theorem dX_step_36 : decode cX_step 36 = .ok (.getfield 42, 3) := by decide +kernel
theorem dX_step_39 : decode cX_step 39 = .ok (.iconst 1, 1) := by decide +kernel
theorem dX_step_40 : decode cX_step 40 = .ok (.iadd, 1) := by decide +kernel
theorem dX_step_41 : decode cX_step 41 = .ok (.invokestatic 77, 3) := by decide +kernel
theorem dX_step_44 : decode cX_step 44 = .ok (.putfield 42, 3) := by decide +kernel
theorem dX_step_47 : decode cX_step 47 = .ok (.aload_n 0, 1) := by decide +kernel
theorem dX_step_48 : decode cX_step 48 = .ok (.lload_n 2, 1) := by decide +kernel
theorem dX_step_49 : decode cX_step 49 = .ok (.invokevirtual 81, 3) := by decide +kernel
theorem dX_step_52 : decode cX_step 52 = .ok (.istore 4, 2) := by decide +kernel
theorem dX_step_54 : decode cX_step 54 = .ok (.iconst 0, 1) := by decide +kernel
theorem dX_step_55 : decode cX_step 55 = .ok (.istore 5, 2) := by decide +kernel
theorem dX_step_57 : decode cX_step 57 = .ok (.iload 5, 2) := by decide +kernel
theorem dX_step_59 : decode cX_step 59 = .ok (.bipush 8, 2) := by decide +kernel
theorem dX_step_61 : decode cX_step 61 = .ok (.if_icmp .gt 40, 3) := by decide +kernel
theorem dX_step_64 : decode cX_step 64 = .ok (.aload_n 0, 1) := by decide +kernel
theorem dX_step_65 : decode cX_step 65 = .ok (.getfield 67, 3) := by decide +kernel
theorem dX_step_68 : decode cX_step 68 = .ok (.ifCond .ne 33, 3) := by decide +kernel
theorem dX_step_71 : decode cX_step 71 = .ok (.lload_n 2, 1) := by decide +kernel
theorem dX_step_72 : decode cX_step 72 = .ok (.invokestatic 85, 3) := by decide +kernel
theorem dX_step_75 : decode cX_step 75 = .ok (.sipush 174, 3) := by decide +kernel
theorem dX_step_78 : decode cX_step 78 = .ok (.if_icmp .ne 23, 3) := by decide +kernel
theorem dX_step_81 : decode cX_step 81 = .ok (.aload_n 0, 1) := by decide +kernel
theorem dX_step_82 : decode cX_step 82 = .ok (.iload 4, 2) := by decide +kernel
theorem dX_step_84 : decode cX_step 84 = .ok (.invokevirtual 88, 3) := by decide +kernel
theorem dX_step_87 : decode cX_step 87 = .ok (.lstore_n 2, 1) := by decide +kernel
theorem dX_step_88 : decode cX_step 88 = .ok (.aload_n 0, 1) := by decide +kernel
theorem dX_step_89 : decode cX_step 89 = .ok (.lload_n 2, 1) := by decide +kernel
theorem dX_step_90 : decode cX_step 90 = .ok (.invokevirtual 81, 3) := by decide +kernel
theorem dX_step_93 : decode cX_step 93 = .ok (.istore 4, 2) := by decide +kernel
theorem dX_step_95 : decode cX_step 95 = .ok (.iinc 5 1, 3) := by decide +kernel
theorem dX_step_98 : decode cX_step 98 = .ok (.goto (-41), 3) := by decide +kernel
theorem dX_step_101 : decode cX_step 101 = .ok (.aload_n 0, 1) := by decide +kernel
theorem dX_step_102 : decode cX_step 102 = .ok (.getfield 67, 3) := by decide +kernel
theorem dX_step_105 : decode cX_step 105 = .ok (.ifCond .ne 17, 3) := by decide +kernel
theorem dX_step_108 : decode cX_step 108 = .ok (.aload_n 0, 1) := by decide +kernel
theorem dX_step_109 : decode cX_step 109 = .ok (.lload_n 2, 1) := by decide +kernel
theorem dX_step_110 : decode cX_step 110 = .ok (.invokestatic 85, 3) := by decide +kernel
theorem dX_step_113 : decode cX_step 113 = .ok (.lload_n 2, 1) := by decide +kernel
theorem dX_step_114 : decode cX_step 114 = .ok (.invokestatic 91, 3) := by decide +kernel
theorem dX_step_117 : decode cX_step 117 = .ok (.iload 4, 2) := by decide +kernel
theorem dX_step_119 : decode cX_step 119 = .ok (.invokevirtual 94, 3) := by decide +kernel
theorem dX_step_122 : decode cX_step 122 = .ok (.aload_n 0, 1) := by decide +kernel
theorem dX_step_123 : decode cX_step 123 = .ok (.getfield 67, 3) := by decide +kernel
theorem dX_step_126 : decode cX_step 126 = .ok (.ifCond .eq 8, 3) := by decide +kernel
theorem dX_step_129 : decode cX_step 129 = .ok (.aload_n 0, 1) := by decide +kernel
theorem dX_step_130 : decode cX_step 130 = .ok (.iload_n 1, 1) := by decide +kernel
theorem dX_step_131 : decode cX_step 131 = .ok (.invokevirtual 98, 3) := by decide +kernel
theorem dX_step_134 : decode cX_step 134 = .ok (.return_, 1) := by decide +kernel
theorem dX_enterTrap_0 : decode cX_enterTrap 0 = .ok (.aload_n 0, 1) := by decide +kernel
theorem dX_enterTrap_1 : decode cX_enterTrap 1 = .ok (.getfield 9, 3) := by decide +kernel
theorem dX_enterTrap_4 : decode cX_enterTrap 4 = .ok (.bipush 32, 2) := by decide +kernel
theorem dX_enterTrap_6 : decode cX_enterTrap 6 = .ok (.aload_n 0, 1) := by decide +kernel
theorem dX_enterTrap_7 : decode cX_enterTrap 7 = .ok (.invokevirtual 102, 3) := by decide +kernel
theorem dX_enterTrap_10 : decode cX_enterTrap 10 = .ok (.aload_n 0, 1) := by decide +kernel
theorem dX_enterTrap_11 : decode cX_enterTrap 11 = .ok (.getfield 67, 3) := by decide +kernel
theorem dX_enterTrap_14 : decode cX_enterTrap 14 = .ok (.ior, 1) := by decide +kernel
theorem dX_enterTrap_15 : decode cX_enterTrap 15 = .ok (.iload_n 1, 1) := by decide +kernel
theorem dX_enterTrap_16 : decode cX_enterTrap 16 = .ok (.invokestatic 106, 3) := by decide +kernel
theorem dX_enterTrap_19 : decode cX_enterTrap 19 = .ok (.lastore, 1) := by decide +kernel
theorem dX_enterTrap_20 : decode cX_enterTrap 20 = .ok (.aload_n 0, 1) := by decide +kernel
theorem dX_enterTrap_21 : decode cX_enterTrap 21 = .ok (.iconst 0, 1) := by decide +kernel
theorem dX_enterTrap_22 : decode cX_enterTrap 22 = .ok (.putfield 45, 3) := by decide +kernel
theorem dX_enterTrap_25 : decode cX_enterTrap 25 = .ok (.aload_n 0, 1) := by decide +kernel
theorem dX_enterTrap_26 : decode cX_enterTrap 26 = .ok (.bipush 33, 2) := by decide +kernel
theorem dX_enterTrap_28 : decode cX_enterTrap 28 = .ok (.putfield 42, 3) := by decide +kernel
theorem dX_enterTrap_31 : decode cX_enterTrap 31 = .ok (.aload_n 0, 1) := by decide +kernel
theorem dX_enterTrap_32 : decode cX_enterTrap 32 = .ok (.dup, 1) := by decide +kernel
theorem dX_enterTrap_33 : decode cX_enterTrap 33 = .ok (.getfield 61, 3) := by decide +kernel
theorem dX_enterTrap_36 : decode cX_enterTrap 36 = .ok (.iconst 1, 1) := by decide +kernel
theorem dX_enterTrap_37 : decode cX_enterTrap 37 = .ok (.iadd, 1) := by decide +kernel
theorem dX_enterTrap_38 : decode cX_enterTrap 38 = .ok (.putfield 61, 3) := by decide +kernel
theorem dX_enterTrap_41 : decode cX_enterTrap 41 = .ok (.aload_n 0, 1) := by decide +kernel
theorem dX_enterTrap_42 : decode cX_enterTrap 42 = .ok (.aload_n 0, 1) := by decide +kernel
theorem dX_enterTrap_43 : decode cX_enterTrap 43 = .ok (.getfield 67, 3) := by decide +kernel
theorem dX_enterTrap_46 : decode cX_enterTrap 46 = .ok (.putfield 64, 3) := by decide +kernel
theorem dX_enterTrap_49 : decode cX_enterTrap 49 = .ok (.return_, 1) := by decide +kernel
theorem dX_raise_0 : decode cX_raise 0 = .ok (.aload_n 0, 1) := by decide +kernel
theorem dX_raise_1 : decode cX_raise 1 = .ok (.getfield 67, 3) := by decide +kernel
theorem dX_raise_4 : decode cX_raise 4 = .ok (.ifCond .ne 8, 3) := by decide +kernel
theorem dX_raise_7 : decode cX_raise 7 = .ok (.aload_n 0, 1) := by decide +kernel
theorem dX_raise_8 : decode cX_raise 8 = .ok (.iload_n 1, 1) := by decide +kernel
theorem dX_raise_9 : decode cX_raise 9 = .ok (.putfield 67, 3) := by decide +kernel
theorem dX_raise_12 : decode cX_raise 12 = .ok (.return_, 1) := by decide +kernel
theorem dX_flags_0 : decode cX_flags 0 = .ok (.aload_n 0, 1) := by decide +kernel
theorem dX_flags_1 : decode cX_flags 1 = .ok (.getfield 52, 3) := by decide +kernel
theorem dX_flags_4 : decode cX_flags 4 = .ok (.ifCond .eq 8, 3) := by decide +kernel
theorem dX_flags_7 : decode cX_flags 7 = .ok (.ldc 110, 2) := by decide +kernel
theorem dX_flags_9 : decode cX_flags 9 = .ok (.goto 4, 3) := by decide +kernel
theorem dX_flags_12 : decode cX_flags 12 = .ok (.iconst 0, 1) := by decide +kernel
theorem dX_flags_13 : decode cX_flags 13 = .ok (.aload_n 0, 1) := by decide +kernel
theorem dX_flags_14 : decode cX_flags 14 = .ok (.getfield 45, 3) := by decide +kernel
theorem dX_flags_17 : decode cX_flags 17 = .ok (.ifCond .eq 9, 3) := by decide +kernel
theorem dX_flags_20 : decode cX_flags 20 = .ok (.sipush 4096, 3) := by decide +kernel
theorem dX_flags_23 : decode cX_flags 23 = .ok (.goto 4, 3) := by decide +kernel
theorem dX_flags_26 : decode cX_flags 26 = .ok (.iconst 0, 1) := by decide +kernel
theorem dX_flags_27 : decode cX_flags 27 = .ok (.ior, 1) := by decide +kernel
theorem dX_flags_28 : decode cX_flags 28 = .ok (.ireturn, 1) := by decide +kernel
theorem dX_pcWord_0 : decode cX_pcWord 0 = .ok (.aload_n 0, 1) := by decide +kernel
theorem dX_pcWord_1 : decode cX_pcWord 1 = .ok (.invokevirtual 102, 3) := by decide +kernel
theorem dX_pcWord_4 : decode cX_pcWord 4 = .ok (.aload_n 0, 1) := by decide +kernel
theorem dX_pcWord_5 : decode cX_pcWord 5 = .ok (.getfield 42, 3) := by decide +kernel
theorem dX_pcWord_8 : decode cX_pcWord 8 = .ok (.invokestatic 106, 3) := by decide +kernel
theorem dX_pcWord_11 : decode cX_pcWord 11 = .ok (.lreturn, 1) := by decide +kernel
theorem dX_carryOut_0 : decode cX_carryOut 0 = .ok (.iload_n 1, 1) := by decide +kernel
theorem dX_carryOut_1 : decode cX_carryOut 1 = .ok (.iconst 3, 1) := by decide +kernel
theorem dX_carryOut_2 : decode cX_carryOut 2 = .ok (.ishr, 1) := by decide +kernel
theorem dX_carryOut_3 : decode cX_carryOut 3 = .ok (.tableswitch 129 11 23 #[65, 129, 129, 129, 129, 73, 73, 81, 89, 97, 105, 113, 121], 65) := by decide +kernel
theorem dX_carryOut_68 : decode cX_carryOut 68 = .ok (.aload_n 0, 1) := by decide +kernel
theorem dX_carryOut_69 : decode cX_carryOut 69 = .ok (.iload_n 1, 1) := by decide +kernel
theorem dX_carryOut_70 : decode cX_carryOut 70 = .ok (.iload_n 2, 1) := by decide +kernel
theorem dX_carryOut_71 : decode cX_carryOut 71 = .ok (.iload_n 3, 1) := by decide +kernel
theorem dX_carryOut_72 : decode cX_carryOut 72 = .ok (.invokevirtual 111, 3) := by decide +kernel
theorem dX_carryOut_75 : decode cX_carryOut 75 = .ok (.return_, 1) := by decide +kernel
theorem dX_carryOut_76 : decode cX_carryOut 76 = .ok (.aload_n 0, 1) := by decide +kernel
theorem dX_carryOut_77 : decode cX_carryOut 77 = .ok (.iload_n 1, 1) := by decide +kernel
theorem dX_carryOut_78 : decode cX_carryOut 78 = .ok (.iload_n 2, 1) := by decide +kernel
theorem dX_carryOut_79 : decode cX_carryOut 79 = .ok (.iload_n 3, 1) := by decide +kernel
theorem dX_carryOut_80 : decode cX_carryOut 80 = .ok (.invokevirtual 114, 3) := by decide +kernel
theorem dX_carryOut_83 : decode cX_carryOut 83 = .ok (.return_, 1) := by decide +kernel
theorem dX_carryOut_84 : decode cX_carryOut 84 = .ok (.aload_n 0, 1) := by decide +kernel
theorem dX_carryOut_85 : decode cX_carryOut 85 = .ok (.iload_n 1, 1) := by decide +kernel
theorem dX_carryOut_86 : decode cX_carryOut 86 = .ok (.iload_n 2, 1) := by decide +kernel
theorem dX_carryOut_87 : decode cX_carryOut 87 = .ok (.iload_n 3, 1) := by decide +kernel
theorem dX_carryOut_88 : decode cX_carryOut 88 = .ok (.invokevirtual 117, 3) := by decide +kernel
theorem dX_carryOut_91 : decode cX_carryOut 91 = .ok (.return_, 1) := by decide +kernel
theorem dX_carryOut_92 : decode cX_carryOut 92 = .ok (.aload_n 0, 1) := by decide +kernel
theorem dX_carryOut_93 : decode cX_carryOut 93 = .ok (.iload_n 1, 1) := by decide +kernel
theorem dX_carryOut_94 : decode cX_carryOut 94 = .ok (.iload_n 2, 1) := by decide +kernel
theorem dX_carryOut_95 : decode cX_carryOut 95 = .ok (.iload_n 3, 1) := by decide +kernel
theorem dX_carryOut_96 : decode cX_carryOut 96 = .ok (.invokevirtual 120, 3) := by decide +kernel
theorem dX_carryOut_99 : decode cX_carryOut 99 = .ok (.return_, 1) := by decide +kernel
theorem dX_carryOut_100 : decode cX_carryOut 100 = .ok (.aload_n 0, 1) := by decide +kernel
theorem dX_carryOut_101 : decode cX_carryOut 101 = .ok (.iload_n 1, 1) := by decide +kernel
theorem dX_carryOut_102 : decode cX_carryOut 102 = .ok (.iload_n 2, 1) := by decide +kernel
theorem dX_carryOut_103 : decode cX_carryOut 103 = .ok (.iload_n 3, 1) := by decide +kernel
theorem dX_carryOut_104 : decode cX_carryOut 104 = .ok (.invokevirtual 123, 3) := by decide +kernel
theorem dX_carryOut_107 : decode cX_carryOut 107 = .ok (.return_, 1) := by decide +kernel
theorem dX_carryOut_108 : decode cX_carryOut 108 = .ok (.aload_n 0, 1) := by decide +kernel
theorem dX_carryOut_109 : decode cX_carryOut 109 = .ok (.iload_n 1, 1) := by decide +kernel
theorem dX_carryOut_110 : decode cX_carryOut 110 = .ok (.iload_n 2, 1) := by decide +kernel
theorem dX_carryOut_111 : decode cX_carryOut 111 = .ok (.iload_n 3, 1) := by decide +kernel
theorem dX_carryOut_112 : decode cX_carryOut 112 = .ok (.invokevirtual 126, 3) := by decide +kernel
theorem dX_carryOut_115 : decode cX_carryOut 115 = .ok (.return_, 1) := by decide +kernel
theorem dX_carryOut_116 : decode cX_carryOut 116 = .ok (.aload_n 0, 1) := by decide +kernel
theorem dX_carryOut_117 : decode cX_carryOut 117 = .ok (.iload_n 1, 1) := by decide +kernel
theorem dX_carryOut_118 : decode cX_carryOut 118 = .ok (.iload_n 2, 1) := by decide +kernel
theorem dX_carryOut_119 : decode cX_carryOut 119 = .ok (.iload_n 3, 1) := by decide +kernel
theorem dX_carryOut_120 : decode cX_carryOut 120 = .ok (.invokevirtual 129, 3) := by decide +kernel
theorem dX_carryOut_123 : decode cX_carryOut 123 = .ok (.return_, 1) := by decide +kernel
theorem dX_carryOut_124 : decode cX_carryOut 124 = .ok (.aload_n 0, 1) := by decide +kernel
theorem dX_carryOut_125 : decode cX_carryOut 125 = .ok (.iload_n 1, 1) := by decide +kernel
theorem dX_carryOut_126 : decode cX_carryOut 126 = .ok (.iload_n 2, 1) := by decide +kernel
theorem dX_carryOut_127 : decode cX_carryOut 127 = .ok (.iload_n 3, 1) := by decide +kernel
theorem dX_carryOut_128 : decode cX_carryOut 128 = .ok (.invokevirtual 132, 3) := by decide +kernel
theorem dX_carryOut_131 : decode cX_carryOut 131 = .ok (.return_, 1) := by decide +kernel
theorem dX_carryOut_132 : decode cX_carryOut 132 = .ok (.iload_n 1, 1) := by decide +kernel
theorem dX_carryOut_133 : decode cX_carryOut 133 = .ok (.bipush 6, 2) := by decide +kernel
theorem dX_carryOut_135 : decode cX_carryOut 135 = .ok (.ishr, 1) := by decide +kernel
theorem dX_carryOut_136 : decode cX_carryOut 136 = .ok (.tableswitch 64 3 6 #[32, 40, 48, 56], 32) := by decide +kernel
theorem dX_carryOut_168 : decode cX_carryOut 168 = .ok (.aload_n 0, 1) := by decide +kernel
theorem dX_carryOut_169 : decode cX_carryOut 169 = .ok (.iload_n 1, 1) := by decide +kernel
theorem dX_carryOut_170 : decode cX_carryOut 170 = .ok (.iload_n 2, 1) := by decide +kernel
theorem dX_carryOut_171 : decode cX_carryOut 171 = .ok (.iload_n 3, 1) := by decide +kernel
theorem dX_carryOut_172 : decode cX_carryOut 172 = .ok (.invokevirtual 135, 3) := by decide +kernel
theorem dX_carryOut_175 : decode cX_carryOut 175 = .ok (.return_, 1) := by decide +kernel
theorem dX_carryOut_176 : decode cX_carryOut 176 = .ok (.aload_n 0, 1) := by decide +kernel
theorem dX_carryOut_177 : decode cX_carryOut 177 = .ok (.iload_n 1, 1) := by decide +kernel
theorem dX_carryOut_178 : decode cX_carryOut 178 = .ok (.iload_n 2, 1) := by decide +kernel
theorem dX_carryOut_179 : decode cX_carryOut 179 = .ok (.iload_n 3, 1) := by decide +kernel
theorem dX_carryOut_180 : decode cX_carryOut 180 = .ok (.invokevirtual 138, 3) := by decide +kernel
theorem dX_carryOut_183 : decode cX_carryOut 183 = .ok (.return_, 1) := by decide +kernel
theorem dX_carryOut_184 : decode cX_carryOut 184 = .ok (.aload_n 0, 1) := by decide +kernel
theorem dX_carryOut_185 : decode cX_carryOut 185 = .ok (.iload_n 1, 1) := by decide +kernel
theorem dX_carryOut_186 : decode cX_carryOut 186 = .ok (.iload_n 2, 1) := by decide +kernel
theorem dX_carryOut_187 : decode cX_carryOut 187 = .ok (.iload_n 3, 1) := by decide +kernel
theorem dX_carryOut_188 : decode cX_carryOut 188 = .ok (.invokevirtual 141, 3) := by decide +kernel
theorem dX_carryOut_191 : decode cX_carryOut 191 = .ok (.return_, 1) := by decide +kernel
theorem dX_carryOut_192 : decode cX_carryOut 192 = .ok (.aload_n 0, 1) := by decide +kernel
theorem dX_carryOut_193 : decode cX_carryOut 193 = .ok (.iload_n 1, 1) := by decide +kernel
theorem dX_carryOut_194 : decode cX_carryOut 194 = .ok (.iload_n 2, 1) := by decide +kernel
theorem dX_carryOut_195 : decode cX_carryOut 195 = .ok (.iload_n 3, 1) := by decide +kernel
theorem dX_carryOut_196 : decode cX_carryOut 196 = .ok (.invokevirtual 144, 3) := by decide +kernel
theorem dX_carryOut_199 : decode cX_carryOut 199 = .ok (.return_, 1) := by decide +kernel
theorem dX_carryOut_200 : decode cX_carryOut 200 = .ok (.aload_n 0, 1) := by decide +kernel
theorem dX_carryOut_201 : decode cX_carryOut 201 = .ok (.iconst 2, 1) := by decide +kernel
theorem dX_carryOut_202 : decode cX_carryOut 202 = .ok (.invokevirtual 147, 3) := by decide +kernel
theorem dX_carryOut_205 : decode cX_carryOut 205 = .ok (.return_, 1) := by decide +kernel
theorem dX_isPlace_0 : decode cX_isPlace 0 = .ok (.iload_n 0, 1) := by decide +kernel
theorem dX_isPlace_1 : decode cX_isPlace 1 = .ok (.ifCond .lt 14, 3) := by decide +kernel
theorem dX_isPlace_4 : decode cX_isPlace 4 = .ok (.iload_n 0, 1) := by decide +kernel
theorem dX_isPlace_5 : decode cX_isPlace 5 = .ok (.sipush 1024, 3) := by decide +kernel
theorem dX_isPlace_8 : decode cX_isPlace 8 = .ok (.if_icmp .ge 7, 3) := by decide +kernel
theorem dX_isPlace_11 : decode cX_isPlace 11 = .ok (.iconst 1, 1) := by decide +kernel
theorem dX_isPlace_12 : decode cX_isPlace 12 = .ok (.goto 4, 3) := by decide +kernel
theorem dX_isPlace_15 : decode cX_isPlace 15 = .ok (.iconst 0, 1) := by decide +kernel
theorem dX_isPlace_16 : decode cX_isPlace 16 = .ok (.ireturn, 1) := by decide +kernel
theorem dX_isExtent_0 : decode cX_isExtent 0 = .ok (.iload_n 0, 1) := by decide +kernel
theorem dX_isExtent_1 : decode cX_isExtent 1 = .ok (.ifCond .lt 14, 3) := by decide +kernel
theorem dX_isExtent_4 : decode cX_isExtent 4 = .ok (.iload_n 0, 1) := by decide +kernel
theorem dX_isExtent_5 : decode cX_isExtent 5 = .ok (.sipush 1024, 3) := by decide +kernel
theorem dX_isExtent_8 : decode cX_isExtent 8 = .ok (.if_icmp .gt 7, 3) := by decide +kernel
theorem dX_isExtent_11 : decode cX_isExtent 11 = .ok (.iconst 1, 1) := by decide +kernel
theorem dX_isExtent_12 : decode cX_isExtent 12 = .ok (.goto 4, 3) := by decide +kernel
theorem dX_isExtent_15 : decode cX_isExtent 15 = .ok (.iconst 0, 1) := by decide +kernel
theorem dX_isExtent_16 : decode cX_isExtent 16 = .ok (.ireturn, 1) := by decide +kernel
theorem dX_placeOf_0 : decode cX_placeOf 0 = .ok (.aload_n 0, 1) := by decide +kernel
theorem dX_placeOf_1 : decode cX_placeOf 1 = .ok (.getfield 45, 3) := by decide +kernel
theorem dX_placeOf_4 : decode cX_placeOf 4 = .ok (.ifCond .eq 9, 3) := by decide +kernel
theorem dX_placeOf_7 : decode cX_placeOf 7 = .ok (.iload_n 1, 1) := by decide +kernel
theorem dX_placeOf_8 : decode cX_placeOf 8 = .ok (.bipush 16, 2) := by decide +kernel
theorem dX_placeOf_10 : decode cX_placeOf 10 = .ok (.if_icmp .ge 5, 3) := by decide +kernel
theorem dX_placeOf_13 : decode cX_placeOf 13 = .ok (.iload_n 1, 1) := by decide +kernel
theorem dX_placeOf_14 : decode cX_placeOf 14 = .ok (.ireturn, 1) := by decide +kernel
theorem dX_placeOf_15 : decode cX_placeOf 15 = .ok (.iload_n 1, 1) := by decide +kernel
theorem dX_placeOf_16 : decode cX_placeOf 16 = .ok (.aload_n 0, 1) := by decide +kernel
theorem dX_placeOf_17 : decode cX_placeOf 17 = .ok (.getfield 32, 3) := by decide +kernel
theorem dX_placeOf_20 : decode cX_placeOf 20 = .ok (.if_icmp .ge 10, 3) := by decide +kernel
theorem dX_placeOf_23 : decode cX_placeOf 23 = .ok (.iload_n 1, 1) := by decide +kernel
theorem dX_placeOf_24 : decode cX_placeOf 24 = .ok (.aload_n 0, 1) := by decide +kernel
theorem dX_placeOf_25 : decode cX_placeOf 25 = .ok (.getfield 28, 3) := by decide +kernel
theorem dX_placeOf_28 : decode cX_placeOf 28 = .ok (.iadd, 1) := by decide +kernel
theorem dX_placeOf_29 : decode cX_placeOf 29 = .ok (.ireturn, 1) := by decide +kernel
theorem dX_placeOf_30 : decode cX_placeOf 30 = .ok (.iload_n 1, 1) := by decide +kernel
theorem dX_placeOf_31 : decode cX_placeOf 31 = .ok (.ldc 110, 2) := by decide +kernel
theorem dX_placeOf_33 : decode cX_placeOf 33 = .ok (.isub, 1) := by decide +kernel
theorem dX_placeOf_34 : decode cX_placeOf 34 = .ok (.istore_n 2, 1) := by decide +kernel
theorem dX_placeOf_35 : decode cX_placeOf 35 = .ok (.iload_n 2, 1) := by decide +kernel
theorem dX_placeOf_36 : decode cX_placeOf 36 = .ok (.ifCond .lt 20, 3) := by decide +kernel
theorem dX_placeOf_39 : decode cX_placeOf 39 = .ok (.iload_n 2, 1) := by decide +kernel
theorem dX_placeOf_40 : decode cX_placeOf 40 = .ok (.aload_n 0, 1) := by decide +kernel
theorem dX_placeOf_41 : decode cX_placeOf 41 = .ok (.getfield 38, 3) := by decide +kernel
theorem dX_placeOf_44 : decode cX_placeOf 44 = .ok (.if_icmp .ge 12, 3) := by decide +kernel
theorem dX_placeOf_47 : decode cX_placeOf 47 = .ok (.iload_n 2, 1) := by decide +kernel
theorem dX_placeOf_48 : decode cX_placeOf 48 = .ok (.aload_n 0, 1) := by decide +kernel
theorem dX_placeOf_49 : decode cX_placeOf 49 = .ok (.getfield 35, 3) := by decide +kernel
theorem dX_placeOf_52 : decode cX_placeOf 52 = .ok (.iadd, 1) := by decide +kernel
theorem dX_placeOf_53 : decode cX_placeOf 53 = .ok (.goto 4, 3) := by decide +kernel
theorem dX_placeOf_56 : decode cX_placeOf 56 = .ok (.iconst (-1), 1) := by decide +kernel
theorem dX_placeOf_57 : decode cX_placeOf 57 = .ok (.ireturn, 1) := by decide +kernel
theorem dX_read_0 : decode cX_read 0 = .ok (.aload_n 0, 1) := by decide +kernel
theorem dX_read_1 : decode cX_read 1 = .ok (.iload_n 1, 1) := by decide +kernel
theorem dX_read_2 : decode cX_read 2 = .ok (.invokevirtual 150, 3) := by decide +kernel
theorem dX_read_5 : decode cX_read 5 = .ok (.istore_n 2, 1) := by decide +kernel
theorem dX_read_6 : decode cX_read 6 = .ok (.iload_n 2, 1) := by decide +kernel
theorem dX_read_7 : decode cX_read 7 = .ok (.invokestatic 13, 3) := by decide +kernel
theorem dX_read_10 : decode cX_read 10 = .ok (.ifCond .ne 10, 3) := by decide +kernel
theorem dX_read_13 : decode cX_read 13 = .ok (.aload_n 0, 1) := by decide +kernel
theorem dX_read_14 : decode cX_read 14 = .ok (.iconst 1, 1) := by decide +kernel
theorem dX_read_15 : decode cX_read 15 = .ok (.invokevirtual 147, 3) := by decide +kernel
theorem dX_read_18 : decode cX_read 18 = .ok (.lconst 0, 1) := by decide +kernel
theorem dX_read_19 : decode cX_read 19 = .ok (.lreturn, 1) := by decide +kernel
theorem dX_read_20 : decode cX_read 20 = .ok (.aload_n 0, 1) := by decide +kernel
theorem dX_read_21 : decode cX_read 21 = .ok (.getfield 9, 3) := by decide +kernel
theorem dX_read_24 : decode cX_read 24 = .ok (.iload_n 2, 1) := by decide +kernel
theorem dX_read_25 : decode cX_read 25 = .ok (.laload, 1) := by decide +kernel
theorem dX_read_26 : decode cX_read 26 = .ok (.lreturn, 1) := by decide +kernel
theorem dX_write_0 : decode cX_write 0 = .ok (.aload_n 0, 1) := by decide +kernel
theorem dX_write_1 : decode cX_write 1 = .ok (.iload_n 1, 1) := by decide +kernel
theorem dX_write_2 : decode cX_write 2 = .ok (.invokevirtual 150, 3) := by decide +kernel
theorem dX_write_5 : decode cX_write 5 = .ok (.istore 4, 2) := by decide +kernel
theorem dX_write_7 : decode cX_write 7 = .ok (.iload 4, 2) := by decide +kernel
theorem dX_write_9 : decode cX_write 9 = .ok (.invokestatic 13, 3) := by decide +kernel
theorem dX_write_12 : decode cX_write 12 = .ok (.ifCond .ne 11, 3) := by decide +kernel
theorem dX_write_15 : decode cX_write 15 = .ok (.aload_n 0, 1) := by decide +kernel
theorem dX_write_16 : decode cX_write 16 = .ok (.iconst 1, 1) := by decide +kernel
theorem dX_write_17 : decode cX_write 17 = .ok (.invokevirtual 147, 3) := by decide +kernel
theorem dX_write_20 : decode cX_write 20 = .ok (.goto 18, 3) := by decide +kernel
theorem dX_write_23 : decode cX_write 23 = .ok (.aload_n 0, 1) := by decide +kernel
theorem dX_write_24 : decode cX_write 24 = .ok (.getfield 67, 3) := by decide +kernel
theorem dX_write_27 : decode cX_write 27 = .ok (.ifCond .ne 11, 3) := by decide +kernel
theorem dX_write_30 : decode cX_write 30 = .ok (.aload_n 0, 1) := by decide +kernel
theorem dX_write_31 : decode cX_write 31 = .ok (.getfield 9, 3) := by decide +kernel
theorem dX_write_34 : decode cX_write 34 = .ok (.iload 4, 2) := by decide +kernel
theorem dX_write_36 : decode cX_write 36 = .ok (.lload_n 2, 1) := by decide +kernel
theorem dX_write_37 : decode cX_write 37 = .ok (.lastore, 1) := by decide +kernel
theorem dX_write_38 : decode cX_write 38 = .ok (.return_, 1) := by decide +kernel
theorem dX_setAccumulator_0 : decode cX_setAccumulator 0 = .ok (.aload_n 0, 1) := by decide +kernel
theorem dX_setAccumulator_1 : decode cX_setAccumulator 1 = .ok (.getfield 67, 3) := by decide +kernel
theorem dX_setAccumulator_4 : decode cX_setAccumulator 4 = .ok (.ifCond .ne 10, 3) := by decide +kernel
theorem dX_setAccumulator_7 : decode cX_setAccumulator 7 = .ok (.aload_n 0, 1) := by decide +kernel
theorem dX_setAccumulator_8 : decode cX_setAccumulator 8 = .ok (.getfield 9, 3) := by decide +kernel
theorem dX_setAccumulator_11 : decode cX_setAccumulator 11 = .ok (.iload_n 1, 1) := by decide +kernel
theorem dX_setAccumulator_12 : decode cX_setAccumulator 12 = .ok (.lload_n 2, 1) := by decide +kernel
theorem dX_setAccumulator_13 : decode cX_setAccumulator 13 = .ok (.lastore, 1) := by decide +kernel
theorem dX_setAccumulator_14 : decode cX_setAccumulator 14 = .ok (.return_, 1) := by decide +kernel
theorem dX_setAccumulatorButZero_0 : decode cX_setAccumulatorButZero 0 = .ok (.iload_n 1, 1) := by decide +kernel
theorem dX_setAccumulatorButZero_1 : decode cX_setAccumulatorButZero 1 = .ok (.ifCond .eq 9, 3) := by decide +kernel
theorem dX_setAccumulatorButZero_4 : decode cX_setAccumulatorButZero 4 = .ok (.aload_n 0, 1) := by decide +kernel
theorem dX_setAccumulatorButZero_5 : decode cX_setAccumulatorButZero 5 = .ok (.iload_n 1, 1) := by decide +kernel
theorem dX_setAccumulatorButZero_6 : decode cX_setAccumulatorButZero 6 = .ok (.lload_n 2, 1) := by decide +kernel
theorem dX_setAccumulatorButZero_7 : decode cX_setAccumulatorButZero 7 = .ok (.invokevirtual 153, 3) := by decide +kernel
theorem dX_setAccumulatorButZero_10 : decode cX_setAccumulatorButZero 10 = .ok (.return_, 1) := by decide +kernel
theorem dX_setOverflow_0 : decode cX_setOverflow 0 = .ok (.aload_n 0, 1) := by decide +kernel
theorem dX_setOverflow_1 : decode cX_setOverflow 1 = .ok (.getfield 67, 3) := by decide +kernel
theorem dX_setOverflow_4 : decode cX_setOverflow 4 = .ok (.ifCond .ne 8, 3) := by decide +kernel
theorem dX_setOverflow_7 : decode cX_setOverflow 7 = .ok (.aload_n 0, 1) := by decide +kernel
theorem dX_setOverflow_8 : decode cX_setOverflow 8 = .ok (.iconst 1, 1) := by decide +kernel
theorem dX_setOverflow_9 : decode cX_setOverflow 9 = .ok (.putfield 52, 3) := by decide +kernel
theorem dX_setOverflow_12 : decode cX_setOverflow 12 = .ok (.return_, 1) := by decide +kernel
theorem dX_effective_0 : decode cX_effective 0 = .ok (.lload_n 1, 1) := by decide +kernel
theorem dX_effective_1 : decode cX_effective 1 = .ok (.lstore_n 3, 1) := by decide +kernel
theorem dX_effective_2 : decode cX_effective 2 = .ok (.aload_n 0, 1) := by decide +kernel
theorem dX_effective_3 : decode cX_effective 3 = .ok (.lload_n 3, 1) := by decide +kernel
theorem dX_effective_4 : decode cX_effective 4 = .ok (.invokevirtual 157, 3) := by decide +kernel
theorem dX_effective_7 : decode cX_effective 7 = .ok (.istore 5, 2) := by decide +kernel
theorem dX_effective_9 : decode cX_effective 9 = .ok (.iconst 0, 1) := by decide +kernel
theorem dX_effective_10 : decode cX_effective 10 = .ok (.istore 6, 2) := by decide +kernel
theorem dX_effective_12 : decode cX_effective 12 = .ok (.iload 6, 2) := by decide +kernel
theorem dX_effective_14 : decode cX_effective 14 = .ok (.bipush 8, 2) := by decide +kernel
theorem dX_effective_16 : decode cX_effective 16 = .ok (.if_icmp .gt 37, 3) := by decide +kernel
theorem dX_effective_19 : decode cX_effective 19 = .ok (.aload_n 0, 1) := by decide +kernel
theorem dX_effective_20 : decode cX_effective 20 = .ok (.getfield 67, 3) := by decide +kernel
theorem dX_effective_23 : decode cX_effective 23 = .ok (.ifCond .ne 30, 3) := by decide +kernel
theorem dX_effective_26 : decode cX_effective 26 = .ok (.lload_n 3, 1) := by decide +kernel
theorem dX_effective_27 : decode cX_effective 27 = .ok (.invokestatic 160, 3) := by decide +kernel
theorem dX_effective_30 : decode cX_effective 30 = .ok (.ifCond .eq 23, 3) := by decide +kernel
theorem dX_effective_33 : decode cX_effective 33 = .ok (.aload_n 0, 1) := by decide +kernel
theorem dX_effective_34 : decode cX_effective 34 = .ok (.iload 5, 2) := by decide +kernel
theorem dX_effective_36 : decode cX_effective 36 = .ok (.invokevirtual 88, 3) := by decide +kernel
theorem dX_effective_39 : decode cX_effective 39 = .ok (.lstore_n 3, 1) := by decide +kernel
theorem dX_effective_40 : decode cX_effective 40 = .ok (.aload_n 0, 1) := by decide +kernel
theorem dX_effective_41 : decode cX_effective 41 = .ok (.lload_n 3, 1) := by decide +kernel
theorem dX_effective_42 : decode cX_effective 42 = .ok (.invokevirtual 157, 3) := by decide +kernel
theorem dX_effective_45 : decode cX_effective 45 = .ok (.istore 5, 2) := by decide +kernel
theorem dX_effective_47 : decode cX_effective 47 = .ok (.iinc 6 1, 3) := by decide +kernel
theorem dX_effective_50 : decode cX_effective 50 = .ok (.goto (-38), 3) := by decide +kernel
theorem dX_effective_53 : decode cX_effective 53 = .ok (.iload 5, 2) := by decide +kernel
theorem dX_effective_55 : decode cX_effective 55 = .ok (.ireturn, 1) := by decide +kernel
theorem dX_take_0 : decode cX_take 0 = .ok (.aload_n 0, 1) := by decide +kernel
theorem dX_take_1 : decode cX_take 1 = .ok (.getfield 70, 3) := by decide +kernel
theorem dX_take_4 : decode cX_take 4 = .ok (.bipush 8, 2) := by decide +kernel
theorem dX_take_6 : decode cX_take 6 = .ok (.if_icmp .ne 10, 3) := by decide +kernel
theorem dX_take_9 : decode cX_take 9 = .ok (.aload_n 0, 1) := by decide +kernel
theorem dX_take_10 : decode cX_take 10 = .ok (.iconst 4, 1) := by decide +kernel
theorem dX_take_11 : decode cX_take 11 = .ok (.invokevirtual 147, 3) := by decide +kernel
theorem dX_take_14 : decode cX_take 14 = .ok (.lconst 0, 1) := by decide +kernel
theorem dX_take_15 : decode cX_take 15 = .ok (.lreturn, 1) := by decide +kernel
theorem dX_take_16 : decode cX_take 16 = .ok (.aload_n 0, 1) := by decide +kernel
theorem dX_take_17 : decode cX_take 17 = .ok (.dup, 1) := by decide +kernel
theorem dX_take_18 : decode cX_take 18 = .ok (.getfield 70, 3) := by decide +kernel
theorem dX_take_21 : decode cX_take 21 = .ok (.iconst 1, 1) := by decide +kernel
theorem dX_take_22 : decode cX_take 22 = .ok (.iadd, 1) := by decide +kernel
theorem dX_take_23 : decode cX_take 23 = .ok (.putfield 70, 3) := by decide +kernel
theorem dX_take_26 : decode cX_take 26 = .ok (.aload_n 0, 1) := by decide +kernel
theorem dX_take_27 : decode cX_take 27 = .ok (.iload_n 1, 1) := by decide +kernel
theorem dX_take_28 : decode cX_take 28 = .ok (.invokevirtual 73, 3) := by decide +kernel
theorem dX_take_31 : decode cX_take 31 = .ok (.lreturn, 1) := by decide +kernel
theorem dX_indexed_0 : decode cX_indexed 0 = .ok (.lload_n 1, 1) := by decide +kernel
theorem dX_indexed_1 : decode cX_indexed 1 = .ok (.bipush 18, 2) := by decide +kernel
theorem dX_indexed_3 : decode cX_indexed 3 = .ok (.lushr, 1) := by decide +kernel
theorem dX_indexed_4 : decode cX_indexed 4 = .ok (.l2i, 1) := by decide +kernel
theorem dX_indexed_5 : decode cX_indexed 5 = .ok (.bipush 15, 2) := by decide +kernel
theorem dX_indexed_7 : decode cX_indexed 7 = .ok (.iand, 1) := by decide +kernel
theorem dX_indexed_8 : decode cX_indexed 8 = .ok (.istore_n 3, 1) := by decide +kernel
theorem dX_indexed_9 : decode cX_indexed 9 = .ok (.lload_n 1, 1) := by decide +kernel
theorem dX_indexed_10 : decode cX_indexed 10 = .ok (.invokestatic 164, 3) := by decide +kernel
theorem dX_indexed_13 : decode cX_indexed 13 = .ok (.istore 4, 2) := by decide +kernel
theorem dX_indexed_15 : decode cX_indexed 15 = .ok (.iload_n 3, 1) := by decide +kernel
theorem dX_indexed_16 : decode cX_indexed 16 = .ok (.ifCond .ne 8, 3) := by decide +kernel
theorem dX_indexed_19 : decode cX_indexed 19 = .ok (.iload 4, 2) := by decide +kernel
theorem dX_indexed_21 : decode cX_indexed 21 = .ok (.goto 18, 3) := by decide +kernel
theorem dX_indexed_24 : decode cX_indexed 24 = .ok (.iload 4, 2) := by decide +kernel
theorem dX_indexed_26 : decode cX_indexed 26 = .ok (.aload_n 0, 1) := by decide +kernel
theorem dX_indexed_27 : decode cX_indexed 27 = .ok (.getfield 9, 3) := by decide +kernel
theorem dX_indexed_30 : decode cX_indexed 30 = .ok (.iload_n 3, 1) := by decide +kernel
theorem dX_indexed_31 : decode cX_indexed 31 = .ok (.laload, 1) := by decide +kernel
theorem dX_indexed_32 : decode cX_indexed 32 = .ok (.invokestatic 164, 3) := by decide +kernel
theorem dX_indexed_35 : decode cX_indexed 35 = .ok (.iadd, 1) := by decide +kernel
theorem dX_indexed_36 : decode cX_indexed 36 = .ok (.invokestatic 77, 3) := by decide +kernel
theorem dX_indexed_39 : decode cX_indexed 39 = .ok (.ireturn, 1) := by decide +kernel
theorem dX_isIndirect_0 : decode cX_isIndirect 0 = .ok (.lload_n 0, 1) := by decide +kernel
theorem dX_isIndirect_1 : decode cX_isIndirect 1 = .ok (.bipush 22, 2) := by decide +kernel
theorem dX_isIndirect_3 : decode cX_isIndirect 3 = .ok (.lushr, 1) := by decide +kernel
theorem dX_isIndirect_4 : decode cX_isIndirect 4 = .ok (.lconst 1, 1) := by decide +kernel
theorem dX_isIndirect_5 : decode cX_isIndirect 5 = .ok (.land, 1) := by decide +kernel
theorem dX_isIndirect_6 : decode cX_isIndirect 6 = .ok (.lconst 0, 1) := by decide +kernel
theorem dX_isIndirect_7 : decode cX_isIndirect 7 = .ok (.lcmp, 1) := by decide +kernel
theorem dX_isIndirect_8 : decode cX_isIndirect 8 = .ok (.ifCond .eq 7, 3) := by decide +kernel
theorem dX_isIndirect_11 : decode cX_isIndirect 11 = .ok (.iconst 1, 1) := by decide +kernel
theorem dX_isIndirect_12 : decode cX_isIndirect 12 = .ok (.goto 4, 3) := by decide +kernel
theorem dX_isIndirect_15 : decode cX_isIndirect 15 = .ok (.iconst 0, 1) := by decide +kernel
theorem dX_isIndirect_16 : decode cX_isIndirect 16 = .ok (.ireturn, 1) := by decide +kernel
theorem dX_operation_0 : decode cX_operation 0 = .ok (.lload_n 0, 1) := by decide +kernel
theorem dX_operation_1 : decode cX_operation 1 = .ok (.bipush 27, 2) := by decide +kernel
theorem dX_operation_3 : decode cX_operation 3 = .ok (.lushr, 1) := by decide +kernel
theorem dX_operation_4 : decode cX_operation 4 = .ok (.l2i, 1) := by decide +kernel
theorem dX_operation_5 : decode cX_operation 5 = .ok (.sipush 511, 3) := by decide +kernel
theorem dX_operation_8 : decode cX_operation 8 = .ok (.iand, 1) := by decide +kernel
theorem dX_operation_9 : decode cX_operation 9 = .ok (.ireturn, 1) := by decide +kernel
theorem dX_accumulator_0 : decode cX_accumulator 0 = .ok (.lload_n 0, 1) := by decide +kernel
theorem dX_accumulator_1 : decode cX_accumulator 1 = .ok (.bipush 23, 2) := by decide +kernel
theorem dX_accumulator_3 : decode cX_accumulator 3 = .ok (.lushr, 1) := by decide +kernel
theorem dX_accumulator_4 : decode cX_accumulator 4 = .ok (.l2i, 1) := by decide +kernel
theorem dX_accumulator_5 : decode cX_accumulator 5 = .ok (.bipush 15, 2) := by decide +kernel
theorem dX_accumulator_7 : decode cX_accumulator 7 = .ok (.iand, 1) := by decide +kernel
theorem dX_accumulator_8 : decode cX_accumulator 8 = .ok (.ireturn, 1) := by decide +kernel
theorem dX_wrapped_0 : decode cX_wrapped 0 = .ok (.iload_n 0, 1) := by decide +kernel
theorem dX_wrapped_1 : decode cX_wrapped 1 = .ok (.ldc 41, 2) := by decide +kernel
theorem dX_wrapped_3 : decode cX_wrapped 3 = .ok (.iand, 1) := by decide +kernel
theorem dX_wrapped_4 : decode cX_wrapped 4 = .ok (.ireturn, 1) := by decide +kernel
theorem dX_skipIf_0 : decode cX_skipIf 0 = .ok (.iload_n 1, 1) := by decide +kernel
theorem dX_skipIf_1 : decode cX_skipIf 1 = .ok (.ifCond .eq 16, 3) := by decide +kernel
theorem dX_skipIf_4 : decode cX_skipIf 4 = .ok (.aload_n 0, 1) := by decide +kernel
theorem dX_skipIf_5 : decode cX_skipIf 5 = .ok (.aload_n 0, 1) := by decide +kernel
theorem dX_skipIf_6 : decode cX_skipIf 6 = .ok (.getfield 42, 3) := by decide +kernel
theorem dX_skipIf_9 : decode cX_skipIf 9 = .ok (.iconst 1, 1) := by decide +kernel
theorem dX_skipIf_10 : decode cX_skipIf 10 = .ok (.iadd, 1) := by decide +kernel
theorem dX_skipIf_11 : decode cX_skipIf 11 = .ok (.invokestatic 77, 3) := by decide +kernel
theorem dX_skipIf_14 : decode cX_skipIf 14 = .ok (.putfield 42, 3) := by decide +kernel
theorem dX_skipIf_17 : decode cX_skipIf 17 = .ok (.return_, 1) := by decide +kernel
theorem dX_jumpIf_0 : decode cX_jumpIf 0 = .ok (.iload_n 1, 1) := by decide +kernel
theorem dX_jumpIf_1 : decode cX_jumpIf 1 = .ok (.ifCond .eq 8, 3) := by decide +kernel
theorem dX_jumpIf_4 : decode cX_jumpIf 4 = .ok (.aload_n 0, 1) := by decide +kernel
theorem dX_jumpIf_5 : decode cX_jumpIf 5 = .ok (.iload_n 2, 1) := by decide +kernel
theorem dX_jumpIf_6 : decode cX_jumpIf 6 = .ok (.putfield 42, 3) := by decide +kernel
theorem dX_jumpIf_9 : decode cX_jumpIf 9 = .ok (.return_, 1) := by decide +kernel
theorem dX_left_0 : decode cX_left 0 = .ok (.lload_n 0, 1) := by decide +kernel
theorem dX_left_1 : decode cX_left 1 = .ok (.bipush 18, 2) := by decide +kernel
theorem dX_left_3 : decode cX_left 3 = .ok (.lushr, 1) := by decide +kernel
theorem dX_left_4 : decode cX_left 4 = .ok (.l2i, 1) := by decide +kernel
theorem dX_left_5 : decode cX_left 5 = .ok (.ldc 41, 2) := by decide +kernel
theorem dX_left_7 : decode cX_left 7 = .ok (.iand, 1) := by decide +kernel
theorem dX_left_8 : decode cX_left 8 = .ok (.ireturn, 1) := by decide +kernel
theorem dX_right_0 : decode cX_right 0 = .ok (.lload_n 0, 1) := by decide +kernel
theorem dX_right_1 : decode cX_right 1 = .ok (.l2i, 1) := by decide +kernel
theorem dX_right_2 : decode cX_right 2 = .ok (.ldc 41, 2) := by decide +kernel
theorem dX_right_4 : decode cX_right 4 = .ok (.iand, 1) := by decide +kernel
theorem dX_right_5 : decode cX_right 5 = .ok (.ireturn, 1) := by decide +kernel
theorem dX_joined_0 : decode cX_joined 0 = .ok (.iload_n 0, 1) := by decide +kernel
theorem dX_joined_1 : decode cX_joined 1 = .ok (.i2l, 1) := by decide +kernel
theorem dX_joined_2 : decode cX_joined 2 = .ok (.bipush 18, 2) := by decide +kernel
theorem dX_joined_4 : decode cX_joined 4 = .ok (.lshl, 1) := by decide +kernel
theorem dX_joined_5 : decode cX_joined 5 = .ok (.iload_n 1, 1) := by decide +kernel
theorem dX_joined_6 : decode cX_joined 6 = .ok (.i2l, 1) := by decide +kernel
theorem dX_joined_7 : decode cX_joined 7 = .ok (.lor, 1) := by decide +kernel
theorem dX_joined_8 : decode cX_joined 8 = .ok (.lreturn, 1) := by decide +kernel
theorem dX_swapped_0 : decode cX_swapped 0 = .ok (.lload_n 0, 1) := by decide +kernel
theorem dX_swapped_1 : decode cX_swapped 1 = .ok (.invokestatic 164, 3) := by decide +kernel
theorem dX_swapped_4 : decode cX_swapped 4 = .ok (.lload_n 0, 1) := by decide +kernel
theorem dX_swapped_5 : decode cX_swapped 5 = .ok (.invokestatic 167, 3) := by decide +kernel
theorem dX_swapped_8 : decode cX_swapped 8 = .ok (.invokestatic 106, 3) := by decide +kernel
theorem dX_swapped_11 : decode cX_swapped 11 = .ok (.lreturn, 1) := by decide +kernel
theorem dX_signed_0 : decode cX_signed 0 = .ok (.lload_n 0, 1) := by decide +kernel
theorem dX_signed_1 : decode cX_signed 1 = .ok (.bipush 28, 2) := by decide +kernel
theorem dX_signed_3 : decode cX_signed 3 = .ok (.lshl, 1) := by decide +kernel
theorem dX_signed_4 : decode cX_signed 4 = .ok (.bipush 28, 2) := by decide +kernel
theorem dX_signed_6 : decode cX_signed 6 = .ok (.lshr, 1) := by decide +kernel
theorem dX_signed_7 : decode cX_signed 7 = .ok (.lreturn, 1) := by decide +kernel
theorem dX_fitted_0 : decode cX_fitted 0 = .ok (.lload_n 1, 1) := by decide +kernel
theorem dX_fitted_1 : decode cX_fitted 1 = .ok (.ldc2_w 17, 3) := by decide +kernel
theorem dX_fitted_4 : decode cX_fitted 4 = .ok (.land, 1) := by decide +kernel
theorem dX_fitted_5 : decode cX_fitted 5 = .ok (.lstore_n 3, 1) := by decide +kernel
theorem dX_fitted_6 : decode cX_fitted 6 = .ok (.lload_n 3, 1) := by decide +kernel
theorem dX_fitted_7 : decode cX_fitted 7 = .ok (.invokestatic 21, 3) := by decide +kernel
theorem dX_fitted_10 : decode cX_fitted 10 = .ok (.lload_n 1, 1) := by decide +kernel
theorem dX_fitted_11 : decode cX_fitted 11 = .ok (.lcmp, 1) := by decide +kernel
theorem dX_fitted_12 : decode cX_fitted 12 = .ok (.ifCond .eq 7, 3) := by decide +kernel
theorem dX_fitted_15 : decode cX_fitted 15 = .ok (.aload_n 0, 1) := by decide +kernel
theorem dX_fitted_16 : decode cX_fitted 16 = .ok (.invokevirtual 170, 3) := by decide +kernel
theorem dX_fitted_19 : decode cX_fitted 19 = .ok (.lload_n 3, 1) := by decide +kernel
theorem dX_fitted_20 : decode cX_fitted 20 = .ok (.lreturn, 1) := by decide +kernel
theorem dX_source_0 : decode cX_source 0 = .ok (.iload_n 1, 1) := by decide +kernel
theorem dX_source_1 : decode cX_source 1 = .ok (.iconst 1, 1) := by decide +kernel
theorem dX_source_2 : decode cX_source 2 = .ok (.if_icmp .ne 8, 3) := by decide +kernel
theorem dX_source_5 : decode cX_source 5 = .ok (.iload_n 2, 1) := by decide +kernel
theorem dX_source_6 : decode cX_source 6 = .ok (.i2l, 1) := by decide +kernel
theorem dX_source_7 : decode cX_source 7 = .ok (.goto 8, 3) := by decide +kernel
theorem dX_source_10 : decode cX_source 10 = .ok (.aload_n 0, 1) := by decide +kernel
theorem dX_source_11 : decode cX_source 11 = .ok (.iload_n 2, 1) := by decide +kernel
theorem dX_source_12 : decode cX_source 12 = .ok (.invokevirtual 73, 3) := by decide +kernel
theorem dX_source_15 : decode cX_source 15 = .ok (.lreturn, 1) := by decide +kernel
theorem dX_movedSource_0 : decode cX_movedSource 0 = .ok (.iload_n 1, 1) := by decide +kernel
theorem dX_movedSource_1 : decode cX_movedSource 1 = .ok (.iconst 2, 1) := by decide +kernel
theorem dX_movedSource_2 : decode cX_movedSource 2 = .ok (.if_icmp .ne 12, 3) := by decide +kernel
theorem dX_movedSource_5 : decode cX_movedSource 5 = .ok (.aload_n 0, 1) := by decide +kernel
theorem dX_movedSource_6 : decode cX_movedSource 6 = .ok (.getfield 9, 3) := by decide +kernel
theorem dX_movedSource_9 : decode cX_movedSource 9 = .ok (.iload_n 2, 1) := by decide +kernel
theorem dX_movedSource_10 : decode cX_movedSource 10 = .ok (.laload, 1) := by decide +kernel
theorem dX_movedSource_11 : decode cX_movedSource 11 = .ok (.goto 9, 3) := by decide +kernel
theorem dX_movedSource_14 : decode cX_movedSource 14 = .ok (.aload_n 0, 1) := by decide +kernel
theorem dX_movedSource_15 : decode cX_movedSource 15 = .ok (.iload_n 1, 1) := by decide +kernel
theorem dX_movedSource_16 : decode cX_movedSource 16 = .ok (.iload_n 3, 1) := by decide +kernel
theorem dX_movedSource_17 : decode cX_movedSource 17 = .ok (.invokevirtual 173, 3) := by decide +kernel
theorem dX_movedSource_20 : decode cX_movedSource 20 = .ok (.lreturn, 1) := by decide +kernel
theorem dX_putMoved_0 : decode cX_putMoved 0 = .ok (.iload_n 1, 1) := by decide +kernel
theorem dX_putMoved_1 : decode cX_putMoved 1 = .ok (.iconst 2, 1) := by decide +kernel
theorem dX_putMoved_2 : decode cX_putMoved 2 = .ok (.if_icmp .ne 13, 3) := by decide +kernel
theorem dX_putMoved_5 : decode cX_putMoved 5 = .ok (.aload_n 0, 1) := by decide +kernel
theorem dX_putMoved_6 : decode cX_putMoved 6 = .ok (.iload_n 3, 1) := by decide +kernel
theorem dX_putMoved_7 : decode cX_putMoved 7 = .ok (.lload 4, 2) := by decide +kernel
theorem dX_putMoved_9 : decode cX_putMoved 9 = .ok (.invokevirtual 176, 3) := by decide +kernel
theorem dX_putMoved_12 : decode cX_putMoved 12 = .ok (.goto 32, 3) := by decide +kernel
theorem dX_putMoved_15 : decode cX_putMoved 15 = .ok (.iload_n 1, 1) := by decide +kernel
theorem dX_putMoved_16 : decode cX_putMoved 16 = .ok (.iconst 3, 1) := by decide +kernel
theorem dX_putMoved_17 : decode cX_putMoved 17 = .ok (.if_icmp .ne 20, 3) := by decide +kernel
theorem dX_putMoved_20 : decode cX_putMoved 20 = .ok (.aload_n 0, 1) := by decide +kernel
theorem dX_putMoved_21 : decode cX_putMoved 21 = .ok (.iload_n 3, 1) := by decide +kernel
theorem dX_putMoved_22 : decode cX_putMoved 22 = .ok (.lload 4, 2) := by decide +kernel
theorem dX_putMoved_24 : decode cX_putMoved 24 = .ok (.invokevirtual 176, 3) := by decide +kernel
theorem dX_putMoved_27 : decode cX_putMoved 27 = .ok (.aload_n 0, 1) := by decide +kernel
theorem dX_putMoved_28 : decode cX_putMoved 28 = .ok (.iload_n 2, 1) := by decide +kernel
theorem dX_putMoved_29 : decode cX_putMoved 29 = .ok (.lload 4, 2) := by decide +kernel
theorem dX_putMoved_31 : decode cX_putMoved 31 = .ok (.invokevirtual 179, 3) := by decide +kernel
theorem dX_putMoved_34 : decode cX_putMoved 34 = .ok (.goto 10, 3) := by decide +kernel
theorem dX_putMoved_37 : decode cX_putMoved 37 = .ok (.aload_n 0, 1) := by decide +kernel
theorem dX_putMoved_38 : decode cX_putMoved 38 = .ok (.iload_n 2, 1) := by decide +kernel
theorem dX_putMoved_39 : decode cX_putMoved 39 = .ok (.lload 4, 2) := by decide +kernel
theorem dX_putMoved_41 : decode cX_putMoved 41 = .ok (.invokevirtual 153, 3) := by decide +kernel
theorem dX_putMoved_44 : decode cX_putMoved 44 = .ok (.return_, 1) := by decide +kernel
theorem dX_putResult_0 : decode cX_putResult 0 = .ok (.iload_n 1, 1) := by decide +kernel
theorem dX_putResult_1 : decode cX_putResult 1 = .ok (.iconst 2, 1) := by decide +kernel
theorem dX_putResult_2 : decode cX_putResult 2 = .ok (.if_icmp .lt 10, 3) := by decide +kernel
theorem dX_putResult_5 : decode cX_putResult 5 = .ok (.aload_n 0, 1) := by decide +kernel
theorem dX_putResult_6 : decode cX_putResult 6 = .ok (.iload_n 3, 1) := by decide +kernel
theorem dX_putResult_7 : decode cX_putResult 7 = .ok (.lload 4, 2) := by decide +kernel
theorem dX_putResult_9 : decode cX_putResult 9 = .ok (.invokevirtual 176, 3) := by decide +kernel
theorem dX_putResult_12 : decode cX_putResult 12 = .ok (.iload_n 1, 1) := by decide +kernel
theorem dX_putResult_13 : decode cX_putResult 13 = .ok (.iconst 2, 1) := by decide +kernel
theorem dX_putResult_14 : decode cX_putResult 14 = .ok (.if_icmp .eq 10, 3) := by decide +kernel
theorem dX_putResult_17 : decode cX_putResult 17 = .ok (.aload_n 0, 1) := by decide +kernel
theorem dX_putResult_18 : decode cX_putResult 18 = .ok (.iload_n 2, 1) := by decide +kernel
theorem dX_putResult_19 : decode cX_putResult 19 = .ok (.lload 4, 2) := by decide +kernel
theorem dX_putResult_21 : decode cX_putResult 21 = .ok (.invokevirtual 153, 3) := by decide +kernel
theorem dX_putResult_24 : decode cX_putResult 24 = .ok (.return_, 1) := by decide +kernel
theorem dX_move_0 : decode cX_move 0 = .ok (.iload_n 1, 1) := by decide +kernel
theorem dX_move_1 : decode cX_move 1 = .ok (.iconst 3, 1) := by decide +kernel
theorem dX_move_2 : decode cX_move 2 = .ok (.iand, 1) := by decide +kernel
theorem dX_move_3 : decode cX_move 3 = .ok (.istore 4, 2) := by decide +kernel
theorem dX_move_5 : decode cX_move 5 = .ok (.aload_n 0, 1) := by decide +kernel
theorem dX_move_6 : decode cX_move 6 = .ok (.iload 4, 2) := by decide +kernel
theorem dX_move_8 : decode cX_move 8 = .ok (.iload_n 2, 1) := by decide +kernel
theorem dX_move_9 : decode cX_move 9 = .ok (.iload_n 3, 1) := by decide +kernel
theorem dX_move_10 : decode cX_move 10 = .ok (.invokevirtual 182, 3) := by decide +kernel
theorem dX_move_13 : decode cX_move 13 = .ok (.lstore 5, 2) := by decide +kernel
theorem dX_move_15 : decode cX_move 15 = .ok (.aload_n 0, 1) := by decide +kernel
theorem dX_move_16 : decode cX_move 16 = .ok (.iload 4, 2) := by decide +kernel
theorem dX_move_18 : decode cX_move 18 = .ok (.iload_n 2, 1) := by decide +kernel
theorem dX_move_19 : decode cX_move 19 = .ok (.iload_n 3, 1) := by decide +kernel
theorem dX_move_20 : decode cX_move 20 = .ok (.aload_n 0, 1) := by decide +kernel
theorem dX_move_21 : decode cX_move 21 = .ok (.iload_n 1, 1) := by decide +kernel
theorem dX_move_22 : decode cX_move 22 = .ok (.iconst 2, 1) := by decide +kernel
theorem dX_move_23 : decode cX_move 23 = .ok (.ishr, 1) := by decide +kernel
theorem dX_move_24 : decode cX_move 24 = .ok (.iconst 3, 1) := by decide +kernel
theorem dX_move_25 : decode cX_move 25 = .ok (.iand, 1) := by decide +kernel
theorem dX_move_26 : decode cX_move 26 = .ok (.lload 5, 2) := by decide +kernel
theorem dX_move_28 : decode cX_move 28 = .ok (.invokevirtual 186, 3) := by decide +kernel
theorem dX_move_31 : decode cX_move 31 = .ok (.invokevirtual 190, 3) := by decide +kernel
theorem dX_move_34 : decode cX_move 34 = .ok (.return_, 1) := by decide +kernel
