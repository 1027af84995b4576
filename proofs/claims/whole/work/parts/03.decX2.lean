theorem dX_changedToMove_0 : decode cX_changedToMove 0 = .ok (.iload_n 1, 1) := by decide +kernel
theorem dX_changedToMove_1 : decode cX_changedToMove 1 = .ok (.tableswitch 44 0 2 #[27, 29, 34], 27) := by decide +kernel
theorem dX_changedToMove_28 : decode cX_changedToMove 28 = .ok (.lload_n 2, 1) := by decide +kernel
theorem dX_changedToMove_29 : decode cX_changedToMove 29 = .ok (.lreturn, 1) := by decide +kernel
theorem dX_changedToMove_30 : decode cX_changedToMove 30 = .ok (.lload_n 2, 1) := by decide +kernel
theorem dX_changedToMove_31 : decode cX_changedToMove 31 = .ok (.invokestatic 194, 3) := by decide +kernel
theorem dX_changedToMove_34 : decode cX_changedToMove 34 = .ok (.lreturn, 1) := by decide +kernel
theorem dX_changedToMove_35 : decode cX_changedToMove 35 = .ok (.aload_n 0, 1) := by decide +kernel
theorem dX_changedToMove_36 : decode cX_changedToMove 36 = .ok (.lload_n 2, 1) := by decide +kernel
theorem dX_changedToMove_37 : decode cX_changedToMove 37 = .ok (.invokestatic 21, 3) := by decide +kernel
theorem dX_changedToMove_40 : decode cX_changedToMove 40 = .ok (.lneg, 1) := by decide +kernel
theorem dX_changedToMove_41 : decode cX_changedToMove 41 = .ok (.invokevirtual 197, 3) := by decide +kernel
theorem dX_changedToMove_44 : decode cX_changedToMove 44 = .ok (.lreturn, 1) := by decide +kernel
theorem dX_changedToMove_45 : decode cX_changedToMove 45 = .ok (.aload_n 0, 1) := by decide +kernel
theorem dX_changedToMove_46 : decode cX_changedToMove 46 = .ok (.lload_n 2, 1) := by decide +kernel
theorem dX_changedToMove_47 : decode cX_changedToMove 47 = .ok (.invokestatic 21, 3) := by decide +kernel
theorem dX_changedToMove_50 : decode cX_changedToMove 50 = .ok (.invokestatic 200, 3) := by decide +kernel
theorem dX_changedToMove_53 : decode cX_changedToMove 53 = .ok (.invokevirtual 197, 3) := by decide +kernel
theorem dX_changedToMove_56 : decode cX_changedToMove 56 = .ok (.lreturn, 1) := by decide +kernel
theorem dX_sum_0 : decode cX_sum 0 = .ok (.iload_n 1, 1) := by decide +kernel
theorem dX_sum_1 : decode cX_sum 1 = .ok (.iconst 3, 1) := by decide +kernel
theorem dX_sum_2 : decode cX_sum 2 = .ok (.iand, 1) := by decide +kernel
theorem dX_sum_3 : decode cX_sum 3 = .ok (.istore 4, 2) := by decide +kernel
theorem dX_sum_5 : decode cX_sum 5 = .ok (.aload_n 0, 1) := by decide +kernel
theorem dX_sum_6 : decode cX_sum 6 = .ok (.getfield 9, 3) := by decide +kernel
theorem dX_sum_9 : decode cX_sum 9 = .ok (.iload_n 2, 1) := by decide +kernel
theorem dX_sum_10 : decode cX_sum 10 = .ok (.laload, 1) := by decide +kernel
theorem dX_sum_11 : decode cX_sum 11 = .ok (.invokestatic 21, 3) := by decide +kernel
theorem dX_sum_14 : decode cX_sum 14 = .ok (.lstore 5, 2) := by decide +kernel
theorem dX_sum_16 : decode cX_sum 16 = .ok (.aload_n 0, 1) := by decide +kernel
theorem dX_sum_17 : decode cX_sum 17 = .ok (.iload 4, 2) := by decide +kernel
theorem dX_sum_19 : decode cX_sum 19 = .ok (.iload_n 3, 1) := by decide +kernel
theorem dX_sum_20 : decode cX_sum 20 = .ok (.invokevirtual 173, 3) := by decide +kernel
theorem dX_sum_23 : decode cX_sum 23 = .ok (.invokestatic 21, 3) := by decide +kernel
theorem dX_sum_26 : decode cX_sum 26 = .ok (.lstore 7, 2) := by decide +kernel
theorem dX_sum_28 : decode cX_sum 28 = .ok (.iload_n 1, 1) := by decide +kernel
theorem dX_sum_29 : decode cX_sum 29 = .ok (.iconst 4, 1) := by decide +kernel
theorem dX_sum_30 : decode cX_sum 30 = .ok (.iand, 1) := by decide +kernel
theorem dX_sum_31 : decode cX_sum 31 = .ok (.ifCond .ne 7, 3) := by decide +kernel
theorem dX_sum_34 : decode cX_sum 34 = .ok (.iconst 1, 1) := by decide +kernel
theorem dX_sum_35 : decode cX_sum 35 = .ok (.goto 4, 3) := by decide +kernel
theorem dX_sum_38 : decode cX_sum 38 = .ok (.iconst 0, 1) := by decide +kernel
theorem dX_sum_39 : decode cX_sum 39 = .ok (.istore 9, 2) := by decide +kernel
theorem dX_sum_41 : decode cX_sum 41 = .ok (.aload_n 0, 1) := by decide +kernel
theorem dX_sum_42 : decode cX_sum 42 = .ok (.iload 4, 2) := by decide +kernel
theorem dX_sum_44 : decode cX_sum 44 = .ok (.iload_n 2, 1) := by decide +kernel
theorem dX_sum_45 : decode cX_sum 45 = .ok (.iload_n 3, 1) := by decide +kernel
theorem dX_sum_46 : decode cX_sum 46 = .ok (.aload_n 0, 1) := by decide +kernel
theorem dX_sum_47 : decode cX_sum 47 = .ok (.iload 9, 2) := by decide +kernel
theorem dX_sum_49 : decode cX_sum 49 = .ok (.ifCond .eq 11, 3) := by decide +kernel
theorem dX_sum_52 : decode cX_sum 52 = .ok (.lload 5, 2) := by decide +kernel
theorem dX_sum_54 : decode cX_sum 54 = .ok (.lload 7, 2) := by decide +kernel
theorem dX_sum_56 : decode cX_sum 56 = .ok (.ladd, 1) := by decide +kernel
theorem dX_sum_57 : decode cX_sum 57 = .ok (.goto 8, 3) := by decide +kernel
theorem dX_sum_60 : decode cX_sum 60 = .ok (.lload 5, 2) := by decide +kernel
theorem dX_sum_62 : decode cX_sum 62 = .ok (.lload 7, 2) := by decide +kernel
theorem dX_sum_64 : decode cX_sum 64 = .ok (.lsub, 1) := by decide +kernel
theorem dX_sum_65 : decode cX_sum 65 = .ok (.invokevirtual 197, 3) := by decide +kernel
theorem dX_sum_68 : decode cX_sum 68 = .ok (.invokevirtual 205, 3) := by decide +kernel
theorem dX_sum_71 : decode cX_sum 71 = .ok (.return_, 1) := by decide +kernel
theorem dX_multiply_0 : decode cX_multiply 0 = .ok (.iload_n 1, 1) := by decide +kernel
theorem dX_multiply_1 : decode cX_multiply 1 = .ok (.iconst 4, 1) := by decide +kernel
theorem dX_multiply_2 : decode cX_multiply 2 = .ok (.iand, 1) := by decide +kernel
theorem dX_multiply_3 : decode cX_multiply 3 = .ok (.ifCond .eq 9, 3) := by decide +kernel
theorem dX_multiply_6 : decode cX_multiply 6 = .ok (.aload_n 0, 1) := by decide +kernel
theorem dX_multiply_7 : decode cX_multiply 7 = .ok (.iconst 2, 1) := by decide +kernel
theorem dX_multiply_8 : decode cX_multiply 8 = .ok (.invokevirtual 147, 3) := by decide +kernel
theorem dX_multiply_11 : decode cX_multiply 11 = .ok (.return_, 1) := by decide +kernel
theorem dX_multiply_12 : decode cX_multiply 12 = .ok (.iload_n 1, 1) := by decide +kernel
theorem dX_multiply_13 : decode cX_multiply 13 = .ok (.iconst 3, 1) := by decide +kernel
theorem dX_multiply_14 : decode cX_multiply 14 = .ok (.iand, 1) := by decide +kernel
theorem dX_multiply_15 : decode cX_multiply 15 = .ok (.istore 4, 2) := by decide +kernel
theorem dX_multiply_17 : decode cX_multiply 17 = .ok (.aload_n 0, 1) := by decide +kernel
theorem dX_multiply_18 : decode cX_multiply 18 = .ok (.getfield 9, 3) := by decide +kernel
theorem dX_multiply_21 : decode cX_multiply 21 = .ok (.iload_n 2, 1) := by decide +kernel
theorem dX_multiply_22 : decode cX_multiply 22 = .ok (.laload, 1) := by decide +kernel
theorem dX_multiply_23 : decode cX_multiply 23 = .ok (.invokestatic 21, 3) := by decide +kernel
theorem dX_multiply_26 : decode cX_multiply 26 = .ok (.lstore 5, 2) := by decide +kernel
theorem dX_multiply_28 : decode cX_multiply 28 = .ok (.aload_n 0, 1) := by decide +kernel
theorem dX_multiply_29 : decode cX_multiply 29 = .ok (.iload 4, 2) := by decide +kernel
theorem dX_multiply_31 : decode cX_multiply 31 = .ok (.iload_n 3, 1) := by decide +kernel
theorem dX_multiply_32 : decode cX_multiply 32 = .ok (.invokevirtual 173, 3) := by decide +kernel
theorem dX_multiply_35 : decode cX_multiply 35 = .ok (.invokestatic 21, 3) := by decide +kernel
theorem dX_multiply_38 : decode cX_multiply 38 = .ok (.lstore 7, 2) := by decide +kernel
theorem dX_multiply_40 : decode cX_multiply 40 = .ok (.lload 5, 2) := by decide +kernel
theorem dX_multiply_42 : decode cX_multiply 42 = .ok (.lload 7, 2) := by decide +kernel
theorem dX_multiply_44 : decode cX_multiply 44 = .ok (.invokestatic 208, 3) := by decide +kernel
theorem dX_multiply_47 : decode cX_multiply 47 = .ok (.ifCond .ne 7, 3) := by decide +kernel
theorem dX_multiply_50 : decode cX_multiply 50 = .ok (.aload_n 0, 1) := by decide +kernel
theorem dX_multiply_51 : decode cX_multiply 51 = .ok (.invokevirtual 170, 3) := by decide +kernel
theorem dX_multiply_54 : decode cX_multiply 54 = .ok (.aload_n 0, 1) := by decide +kernel
theorem dX_multiply_55 : decode cX_multiply 55 = .ok (.iload 4, 2) := by decide +kernel
theorem dX_multiply_57 : decode cX_multiply 57 = .ok (.iload_n 2, 1) := by decide +kernel
theorem dX_multiply_58 : decode cX_multiply 58 = .ok (.iload_n 3, 1) := by decide +kernel
theorem dX_multiply_59 : decode cX_multiply 59 = .ok (.lload 5, 2) := by decide +kernel
theorem dX_multiply_61 : decode cX_multiply 61 = .ok (.lload 7, 2) := by decide +kernel
theorem dX_multiply_63 : decode cX_multiply 63 = .ok (.lmul, 1) := by decide +kernel
theorem dX_multiply_64 : decode cX_multiply 64 = .ok (.ldc2_w 17, 3) := by decide +kernel
theorem dX_multiply_67 : decode cX_multiply 67 = .ok (.land, 1) := by decide +kernel
theorem dX_multiply_68 : decode cX_multiply 68 = .ok (.invokevirtual 205, 3) := by decide +kernel
theorem dX_multiply_71 : decode cX_multiply 71 = .ok (.return_, 1) := by decide +kernel
theorem dX_productFits_0 : decode cX_productFits 0 = .ok (.lload_n 0, 1) := by decide +kernel
theorem dX_productFits_1 : decode cX_productFits 1 = .ok (.lload_n 2, 1) := by decide +kernel
theorem dX_productFits_2 : decode cX_productFits 2 = .ok (.bipush 18, 2) := by decide +kernel
theorem dX_productFits_4 : decode cX_productFits 4 = .ok (.lshr, 1) := by decide +kernel
theorem dX_productFits_5 : decode cX_productFits 5 = .ok (.lmul, 1) := by decide +kernel
theorem dX_productFits_6 : decode cX_productFits 6 = .ok (.lload_n 0, 1) := by decide +kernel
theorem dX_productFits_7 : decode cX_productFits 7 = .ok (.lload_n 2, 1) := by decide +kernel
theorem dX_productFits_8 : decode cX_productFits 8 = .ok (.ldc2_w 212, 3) := by decide +kernel
theorem dX_productFits_11 : decode cX_productFits 11 = .ok (.land, 1) := by decide +kernel
theorem dX_productFits_12 : decode cX_productFits 12 = .ok (.lmul, 1) := by decide +kernel
theorem dX_productFits_13 : decode cX_productFits 13 = .ok (.bipush 18, 2) := by decide +kernel
theorem dX_productFits_15 : decode cX_productFits 15 = .ok (.lshr, 1) := by decide +kernel
theorem dX_productFits_16 : decode cX_productFits 16 = .ok (.ladd, 1) := by decide +kernel
theorem dX_productFits_17 : decode cX_productFits 17 = .ok (.lstore 4, 2) := by decide +kernel
theorem dX_productFits_19 : decode cX_productFits 19 = .ok (.lload 4, 2) := by decide +kernel
theorem dX_productFits_21 : decode cX_productFits 21 = .ok (.ldc2_w 214, 3) := by decide +kernel
theorem dX_productFits_24 : decode cX_productFits 24 = .ok (.lcmp, 1) := by decide +kernel
theorem dX_productFits_25 : decode cX_productFits 25 = .ok (.ifCond .lt 16, 3) := by decide +kernel
theorem dX_productFits_28 : decode cX_productFits 28 = .ok (.lload 4, 2) := by decide +kernel
theorem dX_productFits_30 : decode cX_productFits 30 = .ok (.ldc2_w 216, 3) := by decide +kernel
theorem dX_productFits_33 : decode cX_productFits 33 = .ok (.lcmp, 1) := by decide +kernel
theorem dX_productFits_34 : decode cX_productFits 34 = .ok (.ifCond .ge 7, 3) := by decide +kernel
theorem dX_productFits_37 : decode cX_productFits 37 = .ok (.iconst 1, 1) := by decide +kernel
theorem dX_productFits_38 : decode cX_productFits 38 = .ok (.goto 4, 3) := by decide +kernel
theorem dX_productFits_41 : decode cX_productFits 41 = .ok (.iconst 0, 1) := by decide +kernel
theorem dX_productFits_42 : decode cX_productFits 42 = .ok (.ireturn, 1) := by decide +kernel
theorem dX_divide_0 : decode cX_divide 0 = .ok (.iload_n 1, 1) := by decide +kernel
theorem dX_divide_1 : decode cX_divide 1 = .ok (.iconst 4, 1) := by decide +kernel
theorem dX_divide_2 : decode cX_divide 2 = .ok (.iand, 1) := by decide +kernel
theorem dX_divide_3 : decode cX_divide 3 = .ok (.ifCond .eq 9, 3) := by decide +kernel
theorem dX_divide_6 : decode cX_divide 6 = .ok (.aload_n 0, 1) := by decide +kernel
theorem dX_divide_7 : decode cX_divide 7 = .ok (.iconst 2, 1) := by decide +kernel
theorem dX_divide_8 : decode cX_divide 8 = .ok (.invokevirtual 147, 3) := by decide +kernel
theorem dX_divide_11 : decode cX_divide 11 = .ok (.return_, 1) := by decide +kernel
theorem dX_divide_12 : decode cX_divide 12 = .ok (.iload_n 1, 1) := by decide +kernel
theorem dX_divide_13 : decode cX_divide 13 = .ok (.iconst 3, 1) := by decide +kernel
theorem dX_divide_14 : decode cX_divide 14 = .ok (.iand, 1) := by decide +kernel
theorem dX_divide_15 : decode cX_divide 15 = .ok (.istore 4, 2) := by decide +kernel
theorem dX_divide_17 : decode cX_divide 17 = .ok (.aload_n 0, 1) := by decide +kernel
theorem dX_divide_18 : decode cX_divide 18 = .ok (.getfield 9, 3) := by decide +kernel
theorem dX_divide_21 : decode cX_divide 21 = .ok (.iload_n 2, 1) := by decide +kernel
theorem dX_divide_22 : decode cX_divide 22 = .ok (.laload, 1) := by decide +kernel
theorem dX_divide_23 : decode cX_divide 23 = .ok (.invokestatic 21, 3) := by decide +kernel
theorem dX_divide_26 : decode cX_divide 26 = .ok (.lstore 5, 2) := by decide +kernel
theorem dX_divide_28 : decode cX_divide 28 = .ok (.aload_n 0, 1) := by decide +kernel
theorem dX_divide_29 : decode cX_divide 29 = .ok (.iload 4, 2) := by decide +kernel
theorem dX_divide_31 : decode cX_divide 31 = .ok (.iload_n 3, 1) := by decide +kernel
theorem dX_divide_32 : decode cX_divide 32 = .ok (.invokevirtual 173, 3) := by decide +kernel
theorem dX_divide_35 : decode cX_divide 35 = .ok (.invokestatic 21, 3) := by decide +kernel
theorem dX_divide_38 : decode cX_divide 38 = .ok (.lstore 7, 2) := by decide +kernel
theorem dX_divide_40 : decode cX_divide 40 = .ok (.lload 7, 2) := by decide +kernel
theorem dX_divide_42 : decode cX_divide 42 = .ok (.lconst 0, 1) := by decide +kernel
theorem dX_divide_43 : decode cX_divide 43 = .ok (.lcmp, 1) := by decide +kernel
theorem dX_divide_44 : decode cX_divide 44 = .ok (.ifCond .eq 21, 3) := by decide +kernel
theorem dX_divide_47 : decode cX_divide 47 = .ok (.lload 5, 2) := by decide +kernel
theorem dX_divide_49 : decode cX_divide 49 = .ok (.ldc2_w 218, 3) := by decide +kernel
theorem dX_divide_52 : decode cX_divide 52 = .ok (.lcmp, 1) := by decide +kernel
theorem dX_divide_53 : decode cX_divide 53 = .ok (.ifCond .ne 17, 3) := by decide +kernel
theorem dX_divide_56 : decode cX_divide 56 = .ok (.lload 7, 2) := by decide +kernel
theorem dX_divide_58 : decode cX_divide 58 = .ok (.ldc2_w 19, 3) := by decide +kernel
theorem dX_divide_61 : decode cX_divide 61 = .ok (.lcmp, 1) := by decide +kernel
theorem dX_divide_62 : decode cX_divide 62 = .ok (.ifCond .ne 8, 3) := by decide +kernel
theorem dX_divide_65 : decode cX_divide 65 = .ok (.aload_n 0, 1) := by decide +kernel
theorem dX_divide_66 : decode cX_divide 66 = .ok (.invokevirtual 170, 3) := by decide +kernel
theorem dX_divide_69 : decode cX_divide 69 = .ok (.return_, 1) := by decide +kernel
theorem dX_divide_70 : decode cX_divide 70 = .ok (.aload_n 0, 1) := by decide +kernel
theorem dX_divide_71 : decode cX_divide 71 = .ok (.iload 4, 2) := by decide +kernel
theorem dX_divide_73 : decode cX_divide 73 = .ok (.iload_n 2, 1) := by decide +kernel
theorem dX_divide_74 : decode cX_divide 74 = .ok (.iload_n 3, 1) := by decide +kernel
theorem dX_divide_75 : decode cX_divide 75 = .ok (.lload 5, 2) := by decide +kernel
theorem dX_divide_77 : decode cX_divide 77 = .ok (.lload 7, 2) := by decide +kernel
theorem dX_divide_79 : decode cX_divide 79 = .ok (.ldiv, 1) := by decide +kernel
theorem dX_divide_80 : decode cX_divide 80 = .ok (.ldc2_w 17, 3) := by decide +kernel
theorem dX_divide_83 : decode cX_divide 83 = .ok (.land, 1) := by decide +kernel
theorem dX_divide_84 : decode cX_divide 84 = .ok (.invokevirtual 205, 3) := by decide +kernel
theorem dX_divide_87 : decode cX_divide 87 = .ok (.iload 4, 2) := by decide +kernel
theorem dX_divide_89 : decode cX_divide 89 = .ok (.iconst 2, 1) := by decide +kernel
theorem dX_divide_90 : decode cX_divide 90 = .ok (.if_icmp .eq 22, 3) := by decide +kernel
theorem dX_divide_93 : decode cX_divide 93 = .ok (.aload_n 0, 1) := by decide +kernel
theorem dX_divide_94 : decode cX_divide 94 = .ok (.iload_n 2, 1) := by decide +kernel
theorem dX_divide_95 : decode cX_divide 95 = .ok (.iconst 1, 1) := by decide +kernel
theorem dX_divide_96 : decode cX_divide 96 = .ok (.iadd, 1) := by decide +kernel
theorem dX_divide_97 : decode cX_divide 97 = .ok (.bipush 15, 2) := by decide +kernel
theorem dX_divide_99 : decode cX_divide 99 = .ok (.iand, 1) := by decide +kernel
theorem dX_divide_100 : decode cX_divide 100 = .ok (.lload 5, 2) := by decide +kernel
theorem dX_divide_102 : decode cX_divide 102 = .ok (.lload 7, 2) := by decide +kernel
theorem dX_divide_104 : decode cX_divide 104 = .ok (.lrem, 1) := by decide +kernel
theorem dX_divide_105 : decode cX_divide 105 = .ok (.ldc2_w 17, 3) := by decide +kernel
theorem dX_divide_108 : decode cX_divide 108 = .ok (.land, 1) := by decide +kernel
theorem dX_divide_109 : decode cX_divide 109 = .ok (.invokevirtual 153, 3) := by decide +kernel
theorem dX_divide_112 : decode cX_divide 112 = .ok (.return_, 1) := by decide +kernel
theorem dX_logic_0 : decode cX_logic 0 = .ok (.iload_n 1, 1) := by decide +kernel
theorem dX_logic_1 : decode cX_logic 1 = .ok (.iconst 3, 1) := by decide +kernel
theorem dX_logic_2 : decode cX_logic 2 = .ok (.iand, 1) := by decide +kernel
theorem dX_logic_3 : decode cX_logic 3 = .ok (.istore 4, 2) := by decide +kernel
theorem dX_logic_5 : decode cX_logic 5 = .ok (.iload_n 1, 1) := by decide +kernel
theorem dX_logic_6 : decode cX_logic 6 = .ok (.iconst 2, 1) := by decide +kernel
theorem dX_logic_7 : decode cX_logic 7 = .ok (.ishr, 1) := by decide +kernel
theorem dX_logic_8 : decode cX_logic 8 = .ok (.bipush 15, 2) := by decide +kernel
theorem dX_logic_10 : decode cX_logic 10 = .ok (.iand, 1) := by decide +kernel
theorem dX_logic_11 : decode cX_logic 11 = .ok (.istore 5, 2) := by decide +kernel
theorem dX_logic_13 : decode cX_logic 13 = .ok (.aload_n 0, 1) := by decide +kernel
theorem dX_logic_14 : decode cX_logic 14 = .ok (.getfield 9, 3) := by decide +kernel
theorem dX_logic_17 : decode cX_logic 17 = .ok (.iload_n 2, 1) := by decide +kernel
theorem dX_logic_18 : decode cX_logic 18 = .ok (.laload, 1) := by decide +kernel
theorem dX_logic_19 : decode cX_logic 19 = .ok (.lstore 6, 2) := by decide +kernel
theorem dX_logic_21 : decode cX_logic 21 = .ok (.aload_n 0, 1) := by decide +kernel
theorem dX_logic_22 : decode cX_logic 22 = .ok (.iload 4, 2) := by decide +kernel
theorem dX_logic_24 : decode cX_logic 24 = .ok (.iload_n 3, 1) := by decide +kernel
theorem dX_logic_25 : decode cX_logic 25 = .ok (.invokevirtual 173, 3) := by decide +kernel
theorem dX_logic_28 : decode cX_logic 28 = .ok (.lstore 8, 2) := by decide +kernel
theorem dX_logic_30 : decode cX_logic 30 = .ok (.lconst 0, 1) := by decide +kernel
theorem dX_logic_31 : decode cX_logic 31 = .ok (.lstore 10, 2) := by decide +kernel
theorem dX_logic_33 : decode cX_logic 33 = .ok (.iload 5, 2) := by decide +kernel
theorem dX_logic_35 : decode cX_logic 35 = .ok (.bipush 8, 2) := by decide +kernel
theorem dX_logic_37 : decode cX_logic 37 = .ok (.iand, 1) := by decide +kernel
theorem dX_logic_38 : decode cX_logic 38 = .ok (.ifCond .eq 21, 3) := by decide +kernel
theorem dX_logic_41 : decode cX_logic 41 = .ok (.lload 10, 2) := by decide +kernel
theorem dX_logic_43 : decode cX_logic 43 = .ok (.lload 6, 2) := by decide +kernel
theorem dX_logic_45 : decode cX_logic 45 = .ok (.ldc2_w 19, 3) := by decide +kernel
theorem dX_logic_48 : decode cX_logic 48 = .ok (.lxor, 1) := by decide +kernel
theorem dX_logic_49 : decode cX_logic 49 = .ok (.lload 8, 2) := by decide +kernel
theorem dX_logic_51 : decode cX_logic 51 = .ok (.ldc2_w 19, 3) := by decide +kernel
theorem dX_logic_54 : decode cX_logic 54 = .ok (.lxor, 1) := by decide +kernel
theorem dX_logic_55 : decode cX_logic 55 = .ok (.land, 1) := by decide +kernel
theorem dX_logic_56 : decode cX_logic 56 = .ok (.lor, 1) := by decide +kernel
theorem dX_logic_57 : decode cX_logic 57 = .ok (.lstore 10, 2) := by decide +kernel
theorem dX_logic_59 : decode cX_logic 59 = .ok (.iload 5, 2) := by decide +kernel
theorem dX_logic_61 : decode cX_logic 61 = .ok (.iconst 4, 1) := by decide +kernel
theorem dX_logic_62 : decode cX_logic 62 = .ok (.iand, 1) := by decide +kernel
theorem dX_logic_63 : decode cX_logic 63 = .ok (.ifCond .eq 17, 3) := by decide +kernel
theorem dX_logic_66 : decode cX_logic 66 = .ok (.lload 10, 2) := by decide +kernel
theorem dX_logic_68 : decode cX_logic 68 = .ok (.lload 6, 2) := by decide +kernel
theorem dX_logic_70 : decode cX_logic 70 = .ok (.ldc2_w 19, 3) := by decide +kernel
theorem dX_logic_73 : decode cX_logic 73 = .ok (.lxor, 1) := by decide +kernel
theorem dX_logic_74 : decode cX_logic 74 = .ok (.lload 8, 2) := by decide +kernel
theorem dX_logic_76 : decode cX_logic 76 = .ok (.land, 1) := by decide +kernel
theorem dX_logic_77 : decode cX_logic 77 = .ok (.lor, 1) := by decide +kernel
theorem dX_logic_78 : decode cX_logic 78 = .ok (.lstore 10, 2) := by decide +kernel
theorem dX_logic_80 : decode cX_logic 80 = .ok (.iload 5, 2) := by decide +kernel
theorem dX_logic_82 : decode cX_logic 82 = .ok (.iconst 2, 1) := by decide +kernel
theorem dX_logic_83 : decode cX_logic 83 = .ok (.iand, 1) := by decide +kernel
theorem dX_logic_84 : decode cX_logic 84 = .ok (.ifCond .eq 17, 3) := by decide +kernel
theorem dX_logic_87 : decode cX_logic 87 = .ok (.lload 10, 2) := by decide +kernel
theorem dX_logic_89 : decode cX_logic 89 = .ok (.lload 6, 2) := by decide +kernel
theorem dX_logic_91 : decode cX_logic 91 = .ok (.lload 8, 2) := by decide +kernel
theorem dX_logic_93 : decode cX_logic 93 = .ok (.ldc2_w 19, 3) := by decide +kernel
theorem dX_logic_96 : decode cX_logic 96 = .ok (.lxor, 1) := by decide +kernel
theorem dX_logic_97 : decode cX_logic 97 = .ok (.land, 1) := by decide +kernel
theorem dX_logic_98 : decode cX_logic 98 = .ok (.lor, 1) := by decide +kernel
theorem dX_logic_99 : decode cX_logic 99 = .ok (.lstore 10, 2) := by decide +kernel
theorem dX_logic_101 : decode cX_logic 101 = .ok (.iload 5, 2) := by decide +kernel
theorem dX_logic_103 : decode cX_logic 103 = .ok (.iconst 1, 1) := by decide +kernel
theorem dX_logic_104 : decode cX_logic 104 = .ok (.iand, 1) := by decide +kernel
theorem dX_logic_105 : decode cX_logic 105 = .ok (.ifCond .eq 13, 3) := by decide +kernel
theorem dX_logic_108 : decode cX_logic 108 = .ok (.lload 10, 2) := by decide +kernel
theorem dX_logic_110 : decode cX_logic 110 = .ok (.lload 6, 2) := by decide +kernel
theorem dX_logic_112 : decode cX_logic 112 = .ok (.lload 8, 2) := by decide +kernel
theorem dX_logic_114 : decode cX_logic 114 = .ok (.land, 1) := by decide +kernel
theorem dX_logic_115 : decode cX_logic 115 = .ok (.lor, 1) := by decide +kernel
theorem dX_logic_116 : decode cX_logic 116 = .ok (.lstore 10, 2) := by decide +kernel
theorem dX_logic_118 : decode cX_logic 118 = .ok (.aload_n 0, 1) := by decide +kernel
theorem dX_logic_119 : decode cX_logic 119 = .ok (.iload 4, 2) := by decide +kernel
theorem dX_logic_121 : decode cX_logic 121 = .ok (.iload_n 2, 1) := by decide +kernel
theorem dX_logic_122 : decode cX_logic 122 = .ok (.iload_n 3, 1) := by decide +kernel
theorem dX_logic_123 : decode cX_logic 123 = .ok (.lload 10, 2) := by decide +kernel
theorem dX_logic_125 : decode cX_logic 125 = .ok (.ldc2_w 17, 3) := by decide +kernel
theorem dX_logic_128 : decode cX_logic 128 = .ok (.land, 1) := by decide +kernel
theorem dX_logic_129 : decode cX_logic 129 = .ok (.invokevirtual 205, 3) := by decide +kernel
theorem dX_logic_132 : decode cX_logic 132 = .ok (.return_, 1) := by decide +kernel
theorem dX_halves_0 : decode cX_halves 0 = .ok (.iload_n 1, 1) := by decide +kernel
theorem dX_halves_1 : decode cX_halves 1 = .ok (.iconst 3, 1) := by decide +kernel
theorem dX_halves_2 : decode cX_halves 2 = .ok (.iand, 1) := by decide +kernel
theorem dX_halves_3 : decode cX_halves 3 = .ok (.istore 4, 2) := by decide +kernel
theorem dX_halves_5 : decode cX_halves 5 = .ok (.iload_n 1, 1) := by decide +kernel
theorem dX_halves_6 : decode cX_halves 6 = .ok (.bipush 32, 2) := by decide +kernel
theorem dX_halves_8 : decode cX_halves 8 = .ok (.iand, 1) := by decide +kernel
theorem dX_halves_9 : decode cX_halves 9 = .ok (.ifCond .eq 7, 3) := by decide +kernel
theorem dX_halves_12 : decode cX_halves 12 = .ok (.iconst 1, 1) := by decide +kernel
theorem dX_halves_13 : decode cX_halves 13 = .ok (.goto 4, 3) := by decide +kernel
theorem dX_halves_16 : decode cX_halves 16 = .ok (.iconst 0, 1) := by decide +kernel
theorem dX_halves_17 : decode cX_halves 17 = .ok (.istore 5, 2) := by decide +kernel
theorem dX_halves_19 : decode cX_halves 19 = .ok (.iload_n 1, 1) := by decide +kernel
theorem dX_halves_20 : decode cX_halves 20 = .ok (.iconst 4, 1) := by decide +kernel
theorem dX_halves_21 : decode cX_halves 21 = .ok (.iand, 1) := by decide +kernel
theorem dX_halves_22 : decode cX_halves 22 = .ok (.ifCond .eq 7, 3) := by decide +kernel
theorem dX_halves_25 : decode cX_halves 25 = .ok (.iconst 1, 1) := by decide +kernel
theorem dX_halves_26 : decode cX_halves 26 = .ok (.goto 4, 3) := by decide +kernel
theorem dX_halves_29 : decode cX_halves 29 = .ok (.iconst 0, 1) := by decide +kernel
theorem dX_halves_30 : decode cX_halves 30 = .ok (.istore 6, 2) := by decide +kernel
theorem dX_halves_32 : decode cX_halves 32 = .ok (.aload_n 0, 1) := by decide +kernel
theorem dX_halves_33 : decode cX_halves 33 = .ok (.iload 4, 2) := by decide +kernel
theorem dX_halves_35 : decode cX_halves 35 = .ok (.iload_n 2, 1) := by decide +kernel
theorem dX_halves_36 : decode cX_halves 36 = .ok (.iload_n 3, 1) := by decide +kernel
theorem dX_halves_37 : decode cX_halves 37 = .ok (.invokevirtual 182, 3) := by decide +kernel
theorem dX_halves_40 : decode cX_halves 40 = .ok (.lstore 7, 2) := by decide +kernel
theorem dX_halves_42 : decode cX_halves 42 = .ok (.iload 4, 2) := by decide +kernel
theorem dX_halves_44 : decode cX_halves 44 = .ok (.iconst 2, 1) := by decide +kernel
theorem dX_halves_45 : decode cX_halves 45 = .ok (.if_icmp .lt 11, 3) := by decide +kernel
theorem dX_halves_48 : decode cX_halves 48 = .ok (.aload_n 0, 1) := by decide +kernel
theorem dX_halves_49 : decode cX_halves 49 = .ok (.iload_n 3, 1) := by decide +kernel
theorem dX_halves_50 : decode cX_halves 50 = .ok (.invokevirtual 73, 3) := by decide +kernel
theorem dX_halves_53 : decode cX_halves 53 = .ok (.goto 9, 3) := by decide +kernel
theorem dX_halves_56 : decode cX_halves 56 = .ok (.aload_n 0, 1) := by decide +kernel
theorem dX_halves_57 : decode cX_halves 57 = .ok (.getfield 9, 3) := by decide +kernel
theorem dX_halves_60 : decode cX_halves 60 = .ok (.iload_n 2, 1) := by decide +kernel
theorem dX_halves_61 : decode cX_halves 61 = .ok (.laload, 1) := by decide +kernel
theorem dX_halves_62 : decode cX_halves 62 = .ok (.lstore 9, 2) := by decide +kernel
theorem dX_halves_64 : decode cX_halves 64 = .ok (.iload 5, 2) := by decide +kernel
theorem dX_halves_66 : decode cX_halves 66 = .ok (.iload 6, 2) := by decide +kernel
theorem dX_halves_68 : decode cX_halves 68 = .ok (.if_icmp .eq 11, 3) := by decide +kernel
theorem dX_halves_71 : decode cX_halves 71 = .ok (.lload 7, 2) := by decide +kernel
theorem dX_halves_73 : decode cX_halves 73 = .ok (.invokestatic 164, 3) := by decide +kernel
theorem dX_halves_76 : decode cX_halves 76 = .ok (.goto 8, 3) := by decide +kernel
theorem dX_halves_79 : decode cX_halves 79 = .ok (.lload 7, 2) := by decide +kernel
theorem dX_halves_81 : decode cX_halves 81 = .ok (.invokestatic 167, 3) := by decide +kernel
theorem dX_halves_84 : decode cX_halves 84 = .ok (.istore 11, 2) := by decide +kernel
theorem dX_halves_86 : decode cX_halves 86 = .ok (.iload_n 1, 1) := by decide +kernel
theorem dX_halves_87 : decode cX_halves 87 = .ok (.iconst 3, 1) := by decide +kernel
theorem dX_halves_88 : decode cX_halves 88 = .ok (.ishr, 1) := by decide +kernel
theorem dX_halves_89 : decode cX_halves 89 = .ok (.iconst 3, 1) := by decide +kernel
theorem dX_halves_90 : decode cX_halves 90 = .ok (.iand, 1) := by decide +kernel
theorem dX_halves_91 : decode cX_halves 91 = .ok (.iload 11, 2) := by decide +kernel
theorem dX_halves_93 : decode cX_halves 93 = .ok (.iload 5, 2) := by decide +kernel
theorem dX_halves_95 : decode cX_halves 95 = .ok (.ifCond .eq 11, 3) := by decide +kernel
theorem dX_halves_98 : decode cX_halves 98 = .ok (.lload 9, 2) := by decide +kernel
theorem dX_halves_100 : decode cX_halves 100 = .ok (.invokestatic 167, 3) := by decide +kernel
theorem dX_halves_103 : decode cX_halves 103 = .ok (.goto 8, 3) := by decide +kernel
theorem dX_halves_106 : decode cX_halves 106 = .ok (.lload 9, 2) := by decide +kernel
theorem dX_halves_108 : decode cX_halves 108 = .ok (.invokestatic 164, 3) := by decide +kernel
theorem dX_halves_111 : decode cX_halves 111 = .ok (.invokestatic 220, 3) := by decide +kernel
theorem dX_halves_114 : decode cX_halves 114 = .ok (.istore 12, 2) := by decide +kernel
theorem dX_halves_116 : decode cX_halves 116 = .ok (.aload_n 0, 1) := by decide +kernel
theorem dX_halves_117 : decode cX_halves 117 = .ok (.iload 4, 2) := by decide +kernel
theorem dX_halves_119 : decode cX_halves 119 = .ok (.iload_n 2, 1) := by decide +kernel
theorem dX_halves_120 : decode cX_halves 120 = .ok (.iload_n 3, 1) := by decide +kernel
theorem dX_halves_121 : decode cX_halves 121 = .ok (.iload 5, 2) := by decide +kernel
theorem dX_halves_123 : decode cX_halves 123 = .ok (.ifCond .eq 13, 3) := by decide +kernel
theorem dX_halves_126 : decode cX_halves 126 = .ok (.iload 12, 2) := by decide +kernel
theorem dX_halves_128 : decode cX_halves 128 = .ok (.iload 11, 2) := by decide +kernel
theorem dX_halves_130 : decode cX_halves 130 = .ok (.invokestatic 106, 3) := by decide +kernel
theorem dX_halves_133 : decode cX_halves 133 = .ok (.goto 10, 3) := by decide +kernel
theorem dX_halves_136 : decode cX_halves 136 = .ok (.iload 11, 2) := by decide +kernel
theorem dX_halves_138 : decode cX_halves 138 = .ok (.iload 12, 2) := by decide +kernel
theorem dX_halves_140 : decode cX_halves 140 = .ok (.invokestatic 106, 3) := by decide +kernel
theorem dX_halves_143 : decode cX_halves 143 = .ok (.invokevirtual 190, 3) := by decide +kernel
theorem dX_halves_146 : decode cX_halves 146 = .ok (.return_, 1) := by decide +kernel
theorem dX_otherHalf_0 : decode cX_otherHalf 0 = .ok (.iload_n 0, 1) := by decide +kernel
theorem dX_otherHalf_1 : decode cX_otherHalf 1 = .ok (.tableswitch 34 0 2 #[27, 29, 31], 27) := by decide +kernel
theorem dX_otherHalf_28 : decode cX_otherHalf 28 = .ok (.iload_n 2, 1) := by decide +kernel
theorem dX_otherHalf_29 : decode cX_otherHalf 29 = .ok (.ireturn, 1) := by decide +kernel
theorem dX_otherHalf_30 : decode cX_otherHalf 30 = .ok (.iconst 0, 1) := by decide +kernel
theorem dX_otherHalf_31 : decode cX_otherHalf 31 = .ok (.ireturn, 1) := by decide +kernel
theorem dX_otherHalf_32 : decode cX_otherHalf 32 = .ok (.ldc 41, 2) := by decide +kernel
theorem dX_otherHalf_34 : decode cX_otherHalf 34 = .ok (.ireturn, 1) := by decide +kernel
theorem dX_otherHalf_35 : decode cX_otherHalf 35 = .ok (.iload_n 1, 1) := by decide +kernel
theorem dX_otherHalf_36 : decode cX_otherHalf 36 = .ok (.ldc 110, 2) := by decide +kernel
theorem dX_otherHalf_38 : decode cX_otherHalf 38 = .ok (.iand, 1) := by decide +kernel
theorem dX_otherHalf_39 : decode cX_otherHalf 39 = .ok (.ifCond .eq 8, 3) := by decide +kernel
theorem dX_otherHalf_42 : decode cX_otherHalf 42 = .ok (.ldc 41, 2) := by decide +kernel
theorem dX_otherHalf_44 : decode cX_otherHalf 44 = .ok (.goto 4, 3) := by decide +kernel
theorem dX_otherHalf_47 : decode cX_otherHalf 47 = .ok (.iconst 0, 1) := by decide +kernel
theorem dX_otherHalf_48 : decode cX_otherHalf 48 = .ok (.ireturn, 1) := by decide +kernel
theorem dX_test_0 : decode cX_test 0 = .ok (.iload_n 1, 1) := by decide +kernel
theorem dX_test_1 : decode cX_test 1 = .ok (.bipush 8, 2) := by decide +kernel
theorem dX_test_3 : decode cX_test 3 = .ok (.iand, 1) := by decide +kernel
theorem dX_test_4 : decode cX_test 4 = .ok (.ifCond .eq 11, 3) := by decide +kernel
theorem dX_test_7 : decode cX_test 7 = .ok (.aload_n 0, 1) := by decide +kernel
theorem dX_test_8 : decode cX_test 8 = .ok (.iload_n 3, 1) := by decide +kernel
theorem dX_test_9 : decode cX_test 9 = .ok (.invokevirtual 73, 3) := by decide +kernel
theorem dX_test_12 : decode cX_test 12 = .ok (.goto 5, 3) := by decide +kernel
theorem dX_test_15 : decode cX_test 15 = .ok (.iload_n 3, 1) := by decide +kernel
theorem dX_test_16 : decode cX_test 16 = .ok (.i2l, 1) := by decide +kernel
theorem dX_test_17 : decode cX_test 17 = .ok (.lstore 4, 2) := by decide +kernel
theorem dX_test_19 : decode cX_test 19 = .ok (.iload_n 1, 1) := by decide +kernel
theorem dX_test_20 : decode cX_test 20 = .ok (.iconst 1, 1) := by decide +kernel
theorem dX_test_21 : decode cX_test 21 = .ok (.iand, 1) := by decide +kernel
theorem dX_test_22 : decode cX_test 22 = .ok (.ifCond .eq 10, 3) := by decide +kernel
theorem dX_test_25 : decode cX_test 25 = .ok (.lload 4, 2) := by decide +kernel
theorem dX_test_27 : decode cX_test 27 = .ok (.invokestatic 194, 3) := by decide +kernel
theorem dX_test_30 : decode cX_test 30 = .ok (.lstore 4, 2) := by decide +kernel
theorem dX_test_32 : decode cX_test 32 = .ok (.aload_n 0, 1) := by decide +kernel
theorem dX_test_33 : decode cX_test 33 = .ok (.getfield 9, 3) := by decide +kernel
theorem dX_test_36 : decode cX_test 36 = .ok (.iload_n 2, 1) := by decide +kernel
theorem dX_test_37 : decode cX_test 37 = .ok (.laload, 1) := by decide +kernel
theorem dX_test_38 : decode cX_test 38 = .ok (.lstore 6, 2) := by decide +kernel
theorem dX_test_40 : decode cX_test 40 = .ok (.aload_n 0, 1) := by decide +kernel
theorem dX_test_41 : decode cX_test 41 = .ok (.iload_n 1, 1) := by decide +kernel
theorem dX_test_42 : decode cX_test 42 = .ok (.iconst 1, 1) := by decide +kernel
theorem dX_test_43 : decode cX_test 43 = .ok (.ishr, 1) := by decide +kernel
theorem dX_test_44 : decode cX_test 44 = .ok (.iconst 3, 1) := by decide +kernel
theorem dX_test_45 : decode cX_test 45 = .ok (.iand, 1) := by decide +kernel
theorem dX_test_46 : decode cX_test 46 = .ok (.lload 6, 2) := by decide +kernel
theorem dX_test_48 : decode cX_test 48 = .ok (.lload 4, 2) := by decide +kernel
theorem dX_test_50 : decode cX_test 50 = .ok (.land, 1) := by decide +kernel
theorem dX_test_51 : decode cX_test 51 = .ok (.invokestatic 224, 3) := by decide +kernel
theorem dX_test_54 : decode cX_test 54 = .ok (.invokevirtual 228, 3) := by decide +kernel
theorem dX_test_57 : decode cX_test 57 = .ok (.aload_n 0, 1) := by decide +kernel
theorem dX_test_58 : decode cX_test 58 = .ok (.iload_n 2, 1) := by decide +kernel
theorem dX_test_59 : decode cX_test 59 = .ok (.iload_n 1, 1) := by decide +kernel
theorem dX_test_60 : decode cX_test 60 = .ok (.iconst 4, 1) := by decide +kernel
theorem dX_test_61 : decode cX_test 61 = .ok (.ishr, 1) := by decide +kernel
theorem dX_test_62 : decode cX_test 62 = .ok (.iconst 3, 1) := by decide +kernel
theorem dX_test_63 : decode cX_test 63 = .ok (.iand, 1) := by decide +kernel
theorem dX_test_64 : decode cX_test 64 = .ok (.lload 6, 2) := by decide +kernel
theorem dX_test_66 : decode cX_test 66 = .ok (.lload 4, 2) := by decide +kernel
theorem dX_test_68 : decode cX_test 68 = .ok (.invokestatic 232, 3) := by decide +kernel
theorem dX_test_71 : decode cX_test 71 = .ok (.invokevirtual 153, 3) := by decide +kernel
theorem dX_test_74 : decode cX_test 74 = .ok (.return_, 1) := by decide +kernel
theorem dX_testSkips_0 : decode cX_testSkips 0 = .ok (.iload_n 0, 1) := by decide +kernel
theorem dX_testSkips_1 : decode cX_testSkips 1 = .ok (.tableswitch 53 1 3 #[27, 39, 41], 27) := by decide +kernel
theorem dX_testSkips_28 : decode cX_testSkips 28 = .ok (.lload_n 1, 1) := by decide +kernel
theorem dX_testSkips_29 : decode cX_testSkips 29 = .ok (.lconst 0, 1) := by decide +kernel
theorem dX_testSkips_30 : decode cX_testSkips 30 = .ok (.lcmp, 1) := by decide +kernel
theorem dX_testSkips_31 : decode cX_testSkips 31 = .ok (.ifCond .ne 7, 3) := by decide +kernel
theorem dX_testSkips_34 : decode cX_testSkips 34 = .ok (.iconst 1, 1) := by decide +kernel
theorem dX_testSkips_35 : decode cX_testSkips 35 = .ok (.goto 4, 3) := by decide +kernel
theorem dX_testSkips_38 : decode cX_testSkips 38 = .ok (.iconst 0, 1) := by decide +kernel
theorem dX_testSkips_39 : decode cX_testSkips 39 = .ok (.ireturn, 1) := by decide +kernel
theorem dX_testSkips_40 : decode cX_testSkips 40 = .ok (.iconst 1, 1) := by decide +kernel
theorem dX_testSkips_41 : decode cX_testSkips 41 = .ok (.ireturn, 1) := by decide +kernel
theorem dX_testSkips_42 : decode cX_testSkips 42 = .ok (.lload_n 1, 1) := by decide +kernel
theorem dX_testSkips_43 : decode cX_testSkips 43 = .ok (.lconst 0, 1) := by decide +kernel
theorem dX_testSkips_44 : decode cX_testSkips 44 = .ok (.lcmp, 1) := by decide +kernel
theorem dX_testSkips_45 : decode cX_testSkips 45 = .ok (.ifCond .eq 7, 3) := by decide +kernel
theorem dX_testSkips_48 : decode cX_testSkips 48 = .ok (.iconst 1, 1) := by decide +kernel
theorem dX_testSkips_49 : decode cX_testSkips 49 = .ok (.goto 4, 3) := by decide +kernel
theorem dX_testSkips_52 : decode cX_testSkips 52 = .ok (.iconst 0, 1) := by decide +kernel
theorem dX_testSkips_53 : decode cX_testSkips 53 = .ok (.ireturn, 1) := by decide +kernel
theorem dX_testSkips_54 : decode cX_testSkips 54 = .ok (.iconst 0, 1) := by decide +kernel
theorem dX_testSkips_55 : decode cX_testSkips 55 = .ok (.ireturn, 1) := by decide +kernel
theorem dX_maskedChange_0 : decode cX_maskedChange 0 = .ok (.iload_n 0, 1) := by decide +kernel
theorem dX_maskedChange_1 : decode cX_maskedChange 1 = .ok (.tableswitch 43 1 3 #[27, 35, 39], 27) := by decide +kernel
theorem dX_maskedChange_28 : decode cX_maskedChange 28 = .ok (.lload_n 1, 1) := by decide +kernel
theorem dX_maskedChange_29 : decode cX_maskedChange 29 = .ok (.lload_n 3, 1) := by decide +kernel
theorem dX_maskedChange_30 : decode cX_maskedChange 30 = .ok (.ldc2_w 19, 3) := by decide +kernel
theorem dX_maskedChange_33 : decode cX_maskedChange 33 = .ok (.lxor, 1) := by decide +kernel
theorem dX_maskedChange_34 : decode cX_maskedChange 34 = .ok (.land, 1) := by decide +kernel
theorem dX_maskedChange_35 : decode cX_maskedChange 35 = .ok (.lreturn, 1) := by decide +kernel
theorem dX_maskedChange_36 : decode cX_maskedChange 36 = .ok (.lload_n 1, 1) := by decide +kernel
theorem dX_maskedChange_37 : decode cX_maskedChange 37 = .ok (.lload_n 3, 1) := by decide +kernel
theorem dX_maskedChange_38 : decode cX_maskedChange 38 = .ok (.lxor, 1) := by decide +kernel
theorem dX_maskedChange_39 : decode cX_maskedChange 39 = .ok (.lreturn, 1) := by decide +kernel
theorem dX_maskedChange_40 : decode cX_maskedChange 40 = .ok (.lload_n 1, 1) := by decide +kernel
theorem dX_maskedChange_41 : decode cX_maskedChange 41 = .ok (.lload_n 3, 1) := by decide +kernel
theorem dX_maskedChange_42 : decode cX_maskedChange 42 = .ok (.lor, 1) := by decide +kernel
theorem dX_maskedChange_43 : decode cX_maskedChange 43 = .ok (.lreturn, 1) := by decide +kernel
theorem dX_maskedChange_44 : decode cX_maskedChange 44 = .ok (.lload_n 1, 1) := by decide +kernel
theorem dX_maskedChange_45 : decode cX_maskedChange 45 = .ok (.lreturn, 1) := by decide +kernel
theorem dX_holds_0 : decode cX_holds 0 = .ok (.iload_n 0, 1) := by decide +kernel
theorem dX_holds_1 : decode cX_holds 1 = .ok (.tableswitch 117 1 7 #[43, 55, 67, 79, 81, 93, 105], 43) := by decide +kernel
theorem dX_holds_44 : decode cX_holds 44 = .ok (.lload_n 1, 1) := by decide +kernel
theorem dX_holds_45 : decode cX_holds 45 = .ok (.lconst 0, 1) := by decide +kernel
theorem dX_holds_46 : decode cX_holds 46 = .ok (.lcmp, 1) := by decide +kernel
theorem dX_holds_47 : decode cX_holds 47 = .ok (.ifCond .ge 7, 3) := by decide +kernel
theorem dX_holds_50 : decode cX_holds 50 = .ok (.iconst 1, 1) := by decide +kernel
theorem dX_holds_51 : decode cX_holds 51 = .ok (.goto 4, 3) := by decide +kernel
theorem dX_holds_54 : decode cX_holds 54 = .ok (.iconst 0, 1) := by decide +kernel
theorem dX_holds_55 : decode cX_holds 55 = .ok (.ireturn, 1) := by decide +kernel
theorem dX_holds_56 : decode cX_holds 56 = .ok (.lload_n 1, 1) := by decide +kernel
theorem dX_holds_57 : decode cX_holds 57 = .ok (.lconst 0, 1) := by decide +kernel
theorem dX_holds_58 : decode cX_holds 58 = .ok (.lcmp, 1) := by decide +kernel
theorem dX_holds_59 : decode cX_holds 59 = .ok (.ifCond .ne 7, 3) := by decide +kernel
theorem dX_holds_62 : decode cX_holds 62 = .ok (.iconst 1, 1) := by decide +kernel
theorem dX_holds_63 : decode cX_holds 63 = .ok (.goto 4, 3) := by decide +kernel
theorem dX_holds_66 : decode cX_holds 66 = .ok (.iconst 0, 1) := by decide +kernel
theorem dX_holds_67 : decode cX_holds 67 = .ok (.ireturn, 1) := by decide +kernel
theorem dX_holds_68 : decode cX_holds 68 = .ok (.lload_n 1, 1) := by decide +kernel
theorem dX_holds_69 : decode cX_holds 69 = .ok (.lconst 0, 1) := by decide +kernel
theorem dX_holds_70 : decode cX_holds 70 = .ok (.lcmp, 1) := by decide +kernel
theorem dX_holds_71 : decode cX_holds 71 = .ok (.ifCond .gt 7, 3) := by decide +kernel
theorem dX_holds_74 : decode cX_holds 74 = .ok (.iconst 1, 1) := by decide +kernel
theorem dX_holds_75 : decode cX_holds 75 = .ok (.goto 4, 3) := by decide +kernel
theorem dX_holds_78 : decode cX_holds 78 = .ok (.iconst 0, 1) := by decide +kernel
theorem dX_holds_79 : decode cX_holds 79 = .ok (.ireturn, 1) := by decide +kernel
theorem dX_holds_80 : decode cX_holds 80 = .ok (.iconst 1, 1) := by decide +kernel
theorem dX_holds_81 : decode cX_holds 81 = .ok (.ireturn, 1) := by decide +kernel
theorem dX_holds_82 : decode cX_holds 82 = .ok (.lload_n 1, 1) := by decide +kernel
theorem dX_holds_83 : decode cX_holds 83 = .ok (.lconst 0, 1) := by decide +kernel
theorem dX_holds_84 : decode cX_holds 84 = .ok (.lcmp, 1) := by decide +kernel
theorem dX_holds_85 : decode cX_holds 85 = .ok (.ifCond .lt 7, 3) := by decide +kernel
theorem dX_holds_88 : decode cX_holds 88 = .ok (.iconst 1, 1) := by decide +kernel
theorem dX_holds_89 : decode cX_holds 89 = .ok (.goto 4, 3) := by decide +kernel
theorem dX_holds_92 : decode cX_holds 92 = .ok (.iconst 0, 1) := by decide +kernel
theorem dX_holds_93 : decode cX_holds 93 = .ok (.ireturn, 1) := by decide +kernel
theorem dX_holds_94 : decode cX_holds 94 = .ok (.lload_n 1, 1) := by decide +kernel
theorem dX_holds_95 : decode cX_holds 95 = .ok (.lconst 0, 1) := by decide +kernel
theorem dX_holds_96 : decode cX_holds 96 = .ok (.lcmp, 1) := by decide +kernel
theorem dX_holds_97 : decode cX_holds 97 = .ok (.ifCond .eq 7, 3) := by decide +kernel
theorem dX_holds_100 : decode cX_holds 100 = .ok (.iconst 1, 1) := by decide +kernel
theorem dX_holds_101 : decode cX_holds 101 = .ok (.goto 4, 3) := by decide +kernel
theorem dX_holds_104 : decode cX_holds 104 = .ok (.iconst 0, 1) := by decide +kernel
theorem dX_holds_105 : decode cX_holds 105 = .ok (.ireturn, 1) := by decide +kernel
theorem dX_holds_106 : decode cX_holds 106 = .ok (.lload_n 1, 1) := by decide +kernel
theorem dX_holds_107 : decode cX_holds 107 = .ok (.lconst 0, 1) := by decide +kernel
theorem dX_holds_108 : decode cX_holds 108 = .ok (.lcmp, 1) := by decide +kernel
theorem dX_holds_109 : decode cX_holds 109 = .ok (.ifCond .le 7, 3) := by decide +kernel
theorem dX_holds_112 : decode cX_holds 112 = .ok (.iconst 1, 1) := by decide +kernel
theorem dX_holds_113 : decode cX_holds 113 = .ok (.goto 4, 3) := by decide +kernel
theorem dX_holds_116 : decode cX_holds 116 = .ok (.iconst 0, 1) := by decide +kernel
theorem dX_holds_117 : decode cX_holds 117 = .ok (.ireturn, 1) := by decide +kernel
theorem dX_holds_118 : decode cX_holds 118 = .ok (.iconst 0, 1) := by decide +kernel
theorem dX_holds_119 : decode cX_holds 119 = .ok (.ireturn, 1) := by decide +kernel
theorem dX_compare_0 : decode cX_compare 0 = .ok (.iload_n 1, 1) := by decide +kernel
theorem dX_compare_1 : decode cX_compare 1 = .ok (.bipush 7, 2) := by decide +kernel
theorem dX_compare_3 : decode cX_compare 3 = .ok (.iand, 1) := by decide +kernel
theorem dX_compare_4 : decode cX_compare 4 = .ok (.istore 4, 2) := by decide +kernel
theorem dX_compare_6 : decode cX_compare 6 = .ok (.aload_n 0, 1) := by decide +kernel
theorem dX_compare_7 : decode cX_compare 7 = .ok (.getfield 9, 3) := by decide +kernel
theorem dX_compare_10 : decode cX_compare 10 = .ok (.iload_n 2, 1) := by decide +kernel
theorem dX_compare_11 : decode cX_compare 11 = .ok (.laload, 1) := by decide +kernel
theorem dX_compare_12 : decode cX_compare 12 = .ok (.invokestatic 21, 3) := by decide +kernel
theorem dX_compare_15 : decode cX_compare 15 = .ok (.lstore 5, 2) := by decide +kernel
theorem dX_compare_17 : decode cX_compare 17 = .ok (.iload_n 1, 1) := by decide +kernel
theorem dX_compare_18 : decode cX_compare 18 = .ok (.iconst 3, 1) := by decide +kernel
theorem dX_compare_19 : decode cX_compare 19 = .ok (.ishr, 1) := by decide +kernel
theorem dX_compare_20 : decode cX_compare 20 = .ok (.bipush 7, 2) := by decide +kernel
theorem dX_compare_22 : decode cX_compare 22 = .ok (.iand, 1) := by decide +kernel
theorem dX_compare_23 : decode cX_compare 23 = .ok (.tableswitch 133 0 6 #[41, 56, 77, 90, 103, 113, 123], 41) := by decide +kernel
theorem dX_compare_64 : decode cX_compare 64 = .ok (.aload_n 0, 1) := by decide +kernel
theorem dX_compare_65 : decode cX_compare 65 = .ok (.iload 4, 2) := by decide +kernel
theorem dX_compare_67 : decode cX_compare 67 = .ok (.lload 5, 2) := by decide +kernel
theorem dX_compare_69 : decode cX_compare 69 = .ok (.iload_n 3, 1) := by decide +kernel
theorem dX_compare_70 : decode cX_compare 70 = .ok (.i2l, 1) := by decide +kernel
theorem dX_compare_71 : decode cX_compare 71 = .ok (.lsub, 1) := by decide +kernel
theorem dX_compare_72 : decode cX_compare 72 = .ok (.invokestatic 236, 3) := by decide +kernel
theorem dX_compare_75 : decode cX_compare 75 = .ok (.invokevirtual 228, 3) := by decide +kernel
theorem dX_compare_78 : decode cX_compare 78 = .ok (.return_, 1) := by decide +kernel
theorem dX_compare_79 : decode cX_compare 79 = .ok (.aload_n 0, 1) := by decide +kernel
theorem dX_compare_80 : decode cX_compare 80 = .ok (.iload 4, 2) := by decide +kernel
theorem dX_compare_82 : decode cX_compare 82 = .ok (.lload 5, 2) := by decide +kernel
theorem dX_compare_84 : decode cX_compare 84 = .ok (.aload_n 0, 1) := by decide +kernel
theorem dX_compare_85 : decode cX_compare 85 = .ok (.iload_n 3, 1) := by decide +kernel
theorem dX_compare_86 : decode cX_compare 86 = .ok (.invokevirtual 73, 3) := by decide +kernel
theorem dX_compare_89 : decode cX_compare 89 = .ok (.invokestatic 21, 3) := by decide +kernel
theorem dX_compare_92 : decode cX_compare 92 = .ok (.lsub, 1) := by decide +kernel
theorem dX_compare_93 : decode cX_compare 93 = .ok (.invokestatic 236, 3) := by decide +kernel
theorem dX_compare_96 : decode cX_compare 96 = .ok (.invokevirtual 228, 3) := by decide +kernel
theorem dX_compare_99 : decode cX_compare 99 = .ok (.return_, 1) := by decide +kernel
theorem dX_compare_100 : decode cX_compare 100 = .ok (.aload_n 0, 1) := by decide +kernel
theorem dX_compare_101 : decode cX_compare 101 = .ok (.iload 4, 2) := by decide +kernel
theorem dX_compare_103 : decode cX_compare 103 = .ok (.lload 5, 2) := by decide +kernel
theorem dX_compare_105 : decode cX_compare 105 = .ok (.invokestatic 236, 3) := by decide +kernel
theorem dX_compare_108 : decode cX_compare 108 = .ok (.iload_n 3, 1) := by decide +kernel
theorem dX_compare_109 : decode cX_compare 109 = .ok (.invokevirtual 239, 3) := by decide +kernel
theorem dX_compare_112 : decode cX_compare 112 = .ok (.return_, 1) := by decide +kernel
theorem dX_compare_113 : decode cX_compare 113 = .ok (.aload_n 0, 1) := by decide +kernel
theorem dX_compare_114 : decode cX_compare 114 = .ok (.iload 4, 2) := by decide +kernel
theorem dX_compare_116 : decode cX_compare 116 = .ok (.iload_n 2, 1) := by decide +kernel
theorem dX_compare_117 : decode cX_compare 117 = .ok (.aload_n 0, 1) := by decide +kernel
theorem dX_compare_118 : decode cX_compare 118 = .ok (.iload_n 3, 1) := by decide +kernel
theorem dX_compare_119 : decode cX_compare 119 = .ok (.invokevirtual 73, 3) := by decide +kernel
theorem dX_compare_122 : decode cX_compare 122 = .ok (.invokevirtual 243, 3) := by decide +kernel
theorem dX_compare_125 : decode cX_compare 125 = .ok (.return_, 1) := by decide +kernel
theorem dX_compare_126 : decode cX_compare 126 = .ok (.aload_n 0, 1) := by decide +kernel
theorem dX_compare_127 : decode cX_compare 127 = .ok (.iload 4, 2) := by decide +kernel
theorem dX_compare_129 : decode cX_compare 129 = .ok (.iload_n 2, 1) := by decide +kernel
theorem dX_compare_130 : decode cX_compare 130 = .ok (.iload_n 3, 1) := by decide +kernel
theorem dX_compare_131 : decode cX_compare 131 = .ok (.iconst 1, 1) := by decide +kernel
theorem dX_compare_132 : decode cX_compare 132 = .ok (.invokevirtual 247, 3) := by decide +kernel
theorem dX_compare_135 : decode cX_compare 135 = .ok (.return_, 1) := by decide +kernel
theorem dX_compare_136 : decode cX_compare 136 = .ok (.aload_n 0, 1) := by decide +kernel
theorem dX_compare_137 : decode cX_compare 137 = .ok (.iload 4, 2) := by decide +kernel
theorem dX_compare_139 : decode cX_compare 139 = .ok (.iload_n 2, 1) := by decide +kernel
theorem dX_compare_140 : decode cX_compare 140 = .ok (.iload_n 3, 1) := by decide +kernel
theorem dX_compare_141 : decode cX_compare 141 = .ok (.iconst 1, 1) := by decide +kernel
theorem dX_compare_142 : decode cX_compare 142 = .ok (.invokevirtual 251, 3) := by decide +kernel
theorem dX_compare_145 : decode cX_compare 145 = .ok (.return_, 1) := by decide +kernel
theorem dX_compare_146 : decode cX_compare 146 = .ok (.aload_n 0, 1) := by decide +kernel
theorem dX_compare_147 : decode cX_compare 147 = .ok (.iload 4, 2) := by decide +kernel
theorem dX_compare_149 : decode cX_compare 149 = .ok (.iload_n 2, 1) := by decide +kernel
theorem dX_compare_150 : decode cX_compare 150 = .ok (.iload_n 3, 1) := by decide +kernel
theorem dX_compare_151 : decode cX_compare 151 = .ok (.iconst (-1), 1) := by decide +kernel
theorem dX_compare_152 : decode cX_compare 152 = .ok (.invokevirtual 247, 3) := by decide +kernel
theorem dX_compare_155 : decode cX_compare 155 = .ok (.return_, 1) := by decide +kernel
theorem dX_compare_156 : decode cX_compare 156 = .ok (.aload_n 0, 1) := by decide +kernel
theorem dX_compare_157 : decode cX_compare 157 = .ok (.iload 4, 2) := by decide +kernel
theorem dX_compare_159 : decode cX_compare 159 = .ok (.iload_n 2, 1) := by decide +kernel
theorem dX_compare_160 : decode cX_compare 160 = .ok (.iload_n 3, 1) := by decide +kernel
theorem dX_compare_161 : decode cX_compare 161 = .ok (.iconst (-1), 1) := by decide +kernel
theorem dX_compare_162 : decode cX_compare 162 = .ok (.invokevirtual 251, 3) := by decide +kernel
theorem dX_compare_165 : decode cX_compare 165 = .ok (.return_, 1) := by decide +kernel
theorem dX_skipOnWord_0 : decode cX_skipOnWord 0 = .ok (.aload_n 0, 1) := by decide +kernel
theorem dX_skipOnWord_1 : decode cX_skipOnWord 1 = .ok (.iload_n 2, 1) := by decide +kernel
theorem dX_skipOnWord_2 : decode cX_skipOnWord 2 = .ok (.lload_n 3, 1) := by decide +kernel
theorem dX_skipOnWord_3 : decode cX_skipOnWord 3 = .ok (.invokevirtual 179, 3) := by decide +kernel
theorem dX_skipOnWord_6 : decode cX_skipOnWord 6 = .ok (.aload_n 0, 1) := by decide +kernel
theorem dX_skipOnWord_7 : decode cX_skipOnWord 7 = .ok (.iload_n 1, 1) := by decide +kernel
theorem dX_skipOnWord_8 : decode cX_skipOnWord 8 = .ok (.lload_n 3, 1) := by decide +kernel
theorem dX_skipOnWord_9 : decode cX_skipOnWord 9 = .ok (.invokestatic 21, 3) := by decide +kernel
theorem dX_skipOnWord_12 : decode cX_skipOnWord 12 = .ok (.invokestatic 236, 3) := by decide +kernel
theorem dX_skipOnWord_15 : decode cX_skipOnWord 15 = .ok (.invokevirtual 228, 3) := by decide +kernel
theorem dX_skipOnWord_18 : decode cX_skipOnWord 18 = .ok (.return_, 1) := by decide +kernel
theorem dX_countAndJump_0 : decode cX_countAndJump 0 = .ok (.aload_n 0, 1) := by decide +kernel
theorem dX_countAndJump_1 : decode cX_countAndJump 1 = .ok (.aload_n 0, 1) := by decide +kernel
theorem dX_countAndJump_2 : decode cX_countAndJump 2 = .ok (.getfield 9, 3) := by decide +kernel
theorem dX_countAndJump_5 : decode cX_countAndJump 5 = .ok (.iload_n 2, 1) := by decide +kernel
theorem dX_countAndJump_6 : decode cX_countAndJump 6 = .ok (.laload, 1) := by decide +kernel
theorem dX_countAndJump_7 : decode cX_countAndJump 7 = .ok (.invokestatic 21, 3) := by decide +kernel
theorem dX_countAndJump_10 : decode cX_countAndJump 10 = .ok (.iload 4, 2) := by decide +kernel
theorem dX_countAndJump_12 : decode cX_countAndJump 12 = .ok (.i2l, 1) := by decide +kernel
theorem dX_countAndJump_13 : decode cX_countAndJump 13 = .ok (.ladd, 1) := by decide +kernel
theorem dX_countAndJump_14 : decode cX_countAndJump 14 = .ok (.invokevirtual 197, 3) := by decide +kernel
theorem dX_countAndJump_17 : decode cX_countAndJump 17 = .ok (.lstore 5, 2) := by decide +kernel
theorem dX_countAndJump_19 : decode cX_countAndJump 19 = .ok (.aload_n 0, 1) := by decide +kernel
theorem dX_countAndJump_20 : decode cX_countAndJump 20 = .ok (.iload_n 2, 1) := by decide +kernel
theorem dX_countAndJump_21 : decode cX_countAndJump 21 = .ok (.lload 5, 2) := by decide +kernel
theorem dX_countAndJump_23 : decode cX_countAndJump 23 = .ok (.invokevirtual 153, 3) := by decide +kernel
theorem dX_countAndJump_26 : decode cX_countAndJump 26 = .ok (.aload_n 0, 1) := by decide +kernel
theorem dX_countAndJump_27 : decode cX_countAndJump 27 = .ok (.iload_n 1, 1) := by decide +kernel
theorem dX_countAndJump_28 : decode cX_countAndJump 28 = .ok (.lload 5, 2) := by decide +kernel
theorem dX_countAndJump_30 : decode cX_countAndJump 30 = .ok (.invokestatic 21, 3) := by decide +kernel
theorem dX_countAndJump_33 : decode cX_countAndJump 33 = .ok (.invokestatic 236, 3) := by decide +kernel
theorem dX_countAndJump_36 : decode cX_countAndJump 36 = .ok (.iload_n 3, 1) := by decide +kernel
theorem dX_countAndJump_37 : decode cX_countAndJump 37 = .ok (.invokevirtual 239, 3) := by decide +kernel
theorem dX_countAndJump_40 : decode cX_countAndJump 40 = .ok (.return_, 1) := by decide +kernel
theorem dX_countAndSkip_0 : decode cX_countAndSkip 0 = .ok (.aload_n 0, 1) := by decide +kernel
theorem dX_countAndSkip_1 : decode cX_countAndSkip 1 = .ok (.aload_n 0, 1) := by decide +kernel
theorem dX_countAndSkip_2 : decode cX_countAndSkip 2 = .ok (.iload_n 3, 1) := by decide +kernel
theorem dX_countAndSkip_3 : decode cX_countAndSkip 3 = .ok (.invokevirtual 73, 3) := by decide +kernel
theorem dX_countAndSkip_6 : decode cX_countAndSkip 6 = .ok (.invokestatic 21, 3) := by decide +kernel
theorem dX_countAndSkip_9 : decode cX_countAndSkip 9 = .ok (.iload 4, 2) := by decide +kernel
theorem dX_countAndSkip_11 : decode cX_countAndSkip 11 = .ok (.i2l, 1) := by decide +kernel
theorem dX_countAndSkip_12 : decode cX_countAndSkip 12 = .ok (.ladd, 1) := by decide +kernel
theorem dX_countAndSkip_13 : decode cX_countAndSkip 13 = .ok (.invokevirtual 197, 3) := by decide +kernel
theorem dX_countAndSkip_16 : decode cX_countAndSkip 16 = .ok (.lstore 5, 2) := by decide +kernel
theorem dX_countAndSkip_18 : decode cX_countAndSkip 18 = .ok (.aload_n 0, 1) := by decide +kernel
theorem dX_countAndSkip_19 : decode cX_countAndSkip 19 = .ok (.iload_n 3, 1) := by decide +kernel
theorem dX_countAndSkip_20 : decode cX_countAndSkip 20 = .ok (.lload 5, 2) := by decide +kernel
theorem dX_countAndSkip_22 : decode cX_countAndSkip 22 = .ok (.invokevirtual 176, 3) := by decide +kernel
theorem dX_countAndSkip_25 : decode cX_countAndSkip 25 = .ok (.aload_n 0, 1) := by decide +kernel
theorem dX_countAndSkip_26 : decode cX_countAndSkip 26 = .ok (.iload_n 1, 1) := by decide +kernel
theorem dX_countAndSkip_27 : decode cX_countAndSkip 27 = .ok (.iload_n 2, 1) := by decide +kernel
theorem dX_countAndSkip_28 : decode cX_countAndSkip 28 = .ok (.lload 5, 2) := by decide +kernel
theorem dX_countAndSkip_30 : decode cX_countAndSkip 30 = .ok (.invokevirtual 243, 3) := by decide +kernel
theorem dX_countAndSkip_33 : decode cX_countAndSkip 33 = .ok (.return_, 1) := by decide +kernel
theorem dX_shift_0 : decode cX_shift 0 = .ok (.iload_n 3, 1) := by decide +kernel
theorem dX_shift_1 : decode cX_shift 1 = .ok (.sipush 255, 3) := by decide +kernel
theorem dX_shift_4 : decode cX_shift 4 = .ok (.iand, 1) := by decide +kernel
theorem dX_shift_5 : decode cX_shift 5 = .ok (.iload_n 3, 1) := by decide +kernel
theorem dX_shift_6 : decode cX_shift 6 = .ok (.ldc 110, 2) := by decide +kernel
theorem dX_shift_8 : decode cX_shift 8 = .ok (.iand, 1) := by decide +kernel
theorem dX_shift_9 : decode cX_shift 9 = .ok (.ifCond .eq 9, 3) := by decide +kernel
theorem dX_shift_12 : decode cX_shift 12 = .ok (.sipush 256, 3) := by decide +kernel
theorem dX_shift_15 : decode cX_shift 15 = .ok (.goto 4, 3) := by decide +kernel
theorem dX_shift_18 : decode cX_shift 18 = .ok (.iconst 0, 1) := by decide +kernel
theorem dX_shift_19 : decode cX_shift 19 = .ok (.isub, 1) := by decide +kernel
theorem dX_shift_20 : decode cX_shift 20 = .ok (.istore 4, 2) := by decide +kernel
theorem dX_shift_22 : decode cX_shift 22 = .ok (.iload_n 1, 1) := by decide +kernel
theorem dX_shift_23 : decode cX_shift 23 = .ok (.tableswitch 77 160 162 #[25, 43, 60], 25) := by decide +kernel
theorem dX_shift_48 : decode cX_shift 48 = .ok (.aload_n 0, 1) := by decide +kernel
theorem dX_shift_49 : decode cX_shift 49 = .ok (.iload_n 2, 1) := by decide +kernel
theorem dX_shift_50 : decode cX_shift 50 = .ok (.aload_n 0, 1) := by decide +kernel
theorem dX_shift_51 : decode cX_shift 51 = .ok (.aload_n 0, 1) := by decide +kernel
theorem dX_shift_52 : decode cX_shift 52 = .ok (.getfield 9, 3) := by decide +kernel
theorem dX_shift_55 : decode cX_shift 55 = .ok (.iload_n 2, 1) := by decide +kernel
theorem dX_shift_56 : decode cX_shift 56 = .ok (.laload, 1) := by decide +kernel
theorem dX_shift_57 : decode cX_shift 57 = .ok (.iload 4, 2) := by decide +kernel
theorem dX_shift_59 : decode cX_shift 59 = .ok (.invokevirtual 254, 3) := by decide +kernel
theorem dX_shift_62 : decode cX_shift 62 = .ok (.invokevirtual 153, 3) := by decide +kernel
theorem dX_shift_65 : decode cX_shift 65 = .ok (.return_, 1) := by decide +kernel
theorem dX_shift_66 : decode cX_shift 66 = .ok (.aload_n 0, 1) := by decide +kernel
theorem dX_shift_67 : decode cX_shift 67 = .ok (.iload_n 2, 1) := by decide +kernel
theorem dX_shift_68 : decode cX_shift 68 = .ok (.aload_n 0, 1) := by decide +kernel
theorem dX_shift_69 : decode cX_shift 69 = .ok (.getfield 9, 3) := by decide +kernel
theorem dX_shift_72 : decode cX_shift 72 = .ok (.iload_n 2, 1) := by decide +kernel
theorem dX_shift_73 : decode cX_shift 73 = .ok (.laload, 1) := by decide +kernel
theorem dX_shift_74 : decode cX_shift 74 = .ok (.iload 4, 2) := by decide +kernel
theorem dX_shift_76 : decode cX_shift 76 = .ok (.invokestatic 258, 3) := by decide +kernel
theorem dX_shift_79 : decode cX_shift 79 = .ok (.invokevirtual 153, 3) := by decide +kernel
theorem dX_shift_82 : decode cX_shift 82 = .ok (.return_, 1) := by decide +kernel
theorem dX_shift_83 : decode cX_shift 83 = .ok (.aload_n 0, 1) := by decide +kernel
theorem dX_shift_84 : decode cX_shift 84 = .ok (.iload_n 2, 1) := by decide +kernel
theorem dX_shift_85 : decode cX_shift 85 = .ok (.aload_n 0, 1) := by decide +kernel
theorem dX_shift_86 : decode cX_shift 86 = .ok (.getfield 9, 3) := by decide +kernel
theorem dX_shift_89 : decode cX_shift 89 = .ok (.iload_n 2, 1) := by decide +kernel
theorem dX_shift_90 : decode cX_shift 90 = .ok (.laload, 1) := by decide +kernel
theorem dX_shift_91 : decode cX_shift 91 = .ok (.iload 4, 2) := by decide +kernel
theorem dX_shift_93 : decode cX_shift 93 = .ok (.invokestatic 261, 3) := by decide +kernel
theorem dX_shift_96 : decode cX_shift 96 = .ok (.invokevirtual 153, 3) := by decide +kernel
theorem dX_shift_99 : decode cX_shift 99 = .ok (.return_, 1) := by decide +kernel
theorem dX_shift_100 : decode cX_shift 100 = .ok (.aload_n 0, 1) := by decide +kernel
theorem dX_shift_101 : decode cX_shift 101 = .ok (.iconst 2, 1) := by decide +kernel
theorem dX_shift_102 : decode cX_shift 102 = .ok (.invokevirtual 147, 3) := by decide +kernel
theorem dX_shift_105 : decode cX_shift 105 = .ok (.return_, 1) := by decide +kernel
theorem dX_shiftedAsNumber_0 : decode cX_shiftedAsNumber 0 = .ok (.lload_n 1, 1) := by decide +kernel
theorem dX_shiftedAsNumber_1 : decode cX_shiftedAsNumber 1 = .ok (.invokestatic 21, 3) := by decide +kernel
theorem dX_shiftedAsNumber_4 : decode cX_shiftedAsNumber 4 = .ok (.lstore 4, 2) := by decide +kernel
theorem dX_shiftedAsNumber_6 : decode cX_shiftedAsNumber 6 = .ok (.iload_n 3, 1) := by decide +kernel
theorem dX_shiftedAsNumber_7 : decode cX_shiftedAsNumber 7 = .ok (.ifCond .gt 18, 3) := by decide +kernel
theorem dX_shiftedAsNumber_10 : decode cX_shiftedAsNumber 10 = .ok (.lload 4, 2) := by decide +kernel
theorem dX_shiftedAsNumber_12 : decode cX_shiftedAsNumber 12 = .ok (.iload_n 3, 1) := by decide +kernel
theorem dX_shiftedAsNumber_13 : decode cX_shiftedAsNumber 13 = .ok (.ineg, 1) := by decide +kernel
theorem dX_shiftedAsNumber_14 : decode cX_shiftedAsNumber 14 = .ok (.bipush 36, 2) := by decide +kernel
theorem dX_shiftedAsNumber_16 : decode cX_shiftedAsNumber 16 = .ok (.invokestatic 264, 3) := by decide +kernel
theorem dX_shiftedAsNumber_19 : decode cX_shiftedAsNumber 19 = .ok (.lshr, 1) := by decide +kernel
theorem dX_shiftedAsNumber_20 : decode cX_shiftedAsNumber 20 = .ok (.ldc2_w 17, 3) := by decide +kernel
theorem dX_shiftedAsNumber_23 : decode cX_shiftedAsNumber 23 = .ok (.land, 1) := by decide +kernel
theorem dX_shiftedAsNumber_24 : decode cX_shiftedAsNumber 24 = .ok (.lreturn, 1) := by decide +kernel
theorem dX_shiftedAsNumber_25 : decode cX_shiftedAsNumber 25 = .ok (.iload_n 3, 1) := by decide +kernel
theorem dX_shiftedAsNumber_26 : decode cX_shiftedAsNumber 26 = .ok (.bipush 36, 2) := by decide +kernel
theorem dX_shiftedAsNumber_28 : decode cX_shiftedAsNumber 28 = .ok (.if_icmp .ge 27, 3) := by decide +kernel
theorem dX_shiftedAsNumber_31 : decode cX_shiftedAsNumber 31 = .ok (.lload 4, 2) := by decide +kernel
theorem dX_shiftedAsNumber_33 : decode cX_shiftedAsNumber 33 = .ok (.bipush 35, 2) := by decide +kernel
theorem dX_shiftedAsNumber_35 : decode cX_shiftedAsNumber 35 = .ok (.iload_n 3, 1) := by decide +kernel
theorem dX_shiftedAsNumber_36 : decode cX_shiftedAsNumber 36 = .ok (.isub, 1) := by decide +kernel
theorem dX_shiftedAsNumber_37 : decode cX_shiftedAsNumber 37 = .ok (.lshr, 1) := by decide +kernel
theorem dX_shiftedAsNumber_38 : decode cX_shiftedAsNumber 38 = .ok (.lload 4, 2) := by decide +kernel
theorem dX_shiftedAsNumber_40 : decode cX_shiftedAsNumber 40 = .ok (.bipush 36, 2) := by decide +kernel
theorem dX_shiftedAsNumber_42 : decode cX_shiftedAsNumber 42 = .ok (.lshr, 1) := by decide +kernel
theorem dX_shiftedAsNumber_43 : decode cX_shiftedAsNumber 43 = .ok (.lcmp, 1) := by decide +kernel
theorem dX_shiftedAsNumber_44 : decode cX_shiftedAsNumber 44 = .ok (.ifCond .ne 7, 3) := by decide +kernel
theorem dX_shiftedAsNumber_47 : decode cX_shiftedAsNumber 47 = .ok (.iconst 1, 1) := by decide +kernel
theorem dX_shiftedAsNumber_48 : decode cX_shiftedAsNumber 48 = .ok (.goto 19, 3) := by decide +kernel
theorem dX_shiftedAsNumber_51 : decode cX_shiftedAsNumber 51 = .ok (.iconst 0, 1) := by decide +kernel
theorem dX_shiftedAsNumber_52 : decode cX_shiftedAsNumber 52 = .ok (.goto 15, 3) := by decide +kernel
theorem dX_shiftedAsNumber_55 : decode cX_shiftedAsNumber 55 = .ok (.lload 4, 2) := by decide +kernel
theorem dX_shiftedAsNumber_57 : decode cX_shiftedAsNumber 57 = .ok (.lconst 0, 1) := by decide +kernel
theorem dX_shiftedAsNumber_58 : decode cX_shiftedAsNumber 58 = .ok (.lcmp, 1) := by decide +kernel
theorem dX_shiftedAsNumber_59 : decode cX_shiftedAsNumber 59 = .ok (.ifCond .ne 7, 3) := by decide +kernel
theorem dX_shiftedAsNumber_62 : decode cX_shiftedAsNumber 62 = .ok (.iconst 1, 1) := by decide +kernel
theorem dX_shiftedAsNumber_63 : decode cX_shiftedAsNumber 63 = .ok (.goto 4, 3) := by decide +kernel
theorem dX_shiftedAsNumber_66 : decode cX_shiftedAsNumber 66 = .ok (.iconst 0, 1) := by decide +kernel
theorem dX_shiftedAsNumber_67 : decode cX_shiftedAsNumber 67 = .ok (.istore 6, 2) := by decide +kernel
theorem dX_shiftedAsNumber_69 : decode cX_shiftedAsNumber 69 = .ok (.iload 6, 2) := by decide +kernel
theorem dX_shiftedAsNumber_71 : decode cX_shiftedAsNumber 71 = .ok (.ifCond .ne 7, 3) := by decide +kernel
theorem dX_shiftedAsNumber_74 : decode cX_shiftedAsNumber 74 = .ok (.aload_n 0, 1) := by decide +kernel
theorem dX_shiftedAsNumber_75 : decode cX_shiftedAsNumber 75 = .ok (.invokevirtual 170, 3) := by decide +kernel
theorem dX_shiftedAsNumber_78 : decode cX_shiftedAsNumber 78 = .ok (.lload_n 1, 1) := by decide +kernel
theorem dX_shiftedAsNumber_79 : decode cX_shiftedAsNumber 79 = .ok (.ldc2_w 268, 3) := by decide +kernel
theorem dX_shiftedAsNumber_82 : decode cX_shiftedAsNumber 82 = .ok (.land, 1) := by decide +kernel
theorem dX_shiftedAsNumber_83 : decode cX_shiftedAsNumber 83 = .ok (.lload_n 1, 1) := by decide +kernel
theorem dX_shiftedAsNumber_84 : decode cX_shiftedAsNumber 84 = .ok (.iload_n 3, 1) := by decide +kernel
theorem dX_shiftedAsNumber_85 : decode cX_shiftedAsNumber 85 = .ok (.invokestatic 261, 3) := by decide +kernel
theorem dX_shiftedAsNumber_88 : decode cX_shiftedAsNumber 88 = .ok (.ldc2_w 270, 3) := by decide +kernel
theorem dX_shiftedAsNumber_91 : decode cX_shiftedAsNumber 91 = .ok (.land, 1) := by decide +kernel
theorem dX_shiftedAsNumber_92 : decode cX_shiftedAsNumber 92 = .ok (.lor, 1) := by decide +kernel
theorem dX_shiftedAsNumber_93 : decode cX_shiftedAsNumber 93 = .ok (.lreturn, 1) := by decide +kernel
theorem dX_rotated_0 : decode cX_rotated 0 = .ok (.iload_n 2, 1) := by decide +kernel
theorem dX_rotated_1 : decode cX_rotated 1 = .ok (.bipush 36, 2) := by decide +kernel
theorem dX_rotated_3 : decode cX_rotated 3 = .ok (.invokestatic 272, 3) := by decide +kernel
theorem dX_rotated_6 : decode cX_rotated 6 = .ok (.istore_n 3, 1) := by decide +kernel
theorem dX_rotated_7 : decode cX_rotated 7 = .ok (.lload_n 0, 1) := by decide +kernel
theorem dX_rotated_8 : decode cX_rotated 8 = .ok (.iload_n 3, 1) := by decide +kernel
theorem dX_rotated_9 : decode cX_rotated 9 = .ok (.lshl, 1) := by decide +kernel
theorem dX_rotated_10 : decode cX_rotated 10 = .ok (.lload_n 0, 1) := by decide +kernel
theorem dX_rotated_11 : decode cX_rotated 11 = .ok (.bipush 36, 2) := by decide +kernel
theorem dX_rotated_13 : decode cX_rotated 13 = .ok (.iload_n 3, 1) := by decide +kernel
theorem dX_rotated_14 : decode cX_rotated 14 = .ok (.isub, 1) := by decide +kernel
theorem dX_rotated_15 : decode cX_rotated 15 = .ok (.lushr, 1) := by decide +kernel
theorem dX_rotated_16 : decode cX_rotated 16 = .ok (.lor, 1) := by decide +kernel
theorem dX_rotated_17 : decode cX_rotated 17 = .ok (.ldc2_w 17, 3) := by decide +kernel
theorem dX_rotated_20 : decode cX_rotated 20 = .ok (.land, 1) := by decide +kernel
theorem dX_rotated_21 : decode cX_rotated 21 = .ok (.lreturn, 1) := by decide +kernel
theorem dX_shiftedAsBits_0 : decode cX_shiftedAsBits 0 = .ok (.iload_n 2, 1) := by decide +kernel
theorem dX_shiftedAsBits_1 : decode cX_shiftedAsBits 1 = .ok (.bipush (-36), 2) := by decide +kernel
theorem dX_shiftedAsBits_3 : decode cX_shiftedAsBits 3 = .ok (.if_icmp .le 9, 3) := by decide +kernel
theorem dX_shiftedAsBits_6 : decode cX_shiftedAsBits 6 = .ok (.iload_n 2, 1) := by decide +kernel
theorem dX_shiftedAsBits_7 : decode cX_shiftedAsBits 7 = .ok (.bipush 36, 2) := by decide +kernel
theorem dX_shiftedAsBits_9 : decode cX_shiftedAsBits 9 = .ok (.if_icmp .lt 5, 3) := by decide +kernel
theorem dX_shiftedAsBits_12 : decode cX_shiftedAsBits 12 = .ok (.lconst 0, 1) := by decide +kernel
theorem dX_shiftedAsBits_13 : decode cX_shiftedAsBits 13 = .ok (.lreturn, 1) := by decide +kernel
theorem dX_shiftedAsBits_14 : decode cX_shiftedAsBits 14 = .ok (.iload_n 2, 1) := by decide +kernel
theorem dX_shiftedAsBits_15 : decode cX_shiftedAsBits 15 = .ok (.ifCond .ge 10, 3) := by decide +kernel
theorem dX_shiftedAsBits_18 : decode cX_shiftedAsBits 18 = .ok (.lload_n 0, 1) := by decide +kernel
theorem dX_shiftedAsBits_19 : decode cX_shiftedAsBits 19 = .ok (.iload_n 2, 1) := by decide +kernel
theorem dX_shiftedAsBits_20 : decode cX_shiftedAsBits 20 = .ok (.ineg, 1) := by decide +kernel
theorem dX_shiftedAsBits_21 : decode cX_shiftedAsBits 21 = .ok (.lushr, 1) := by decide +kernel
theorem dX_shiftedAsBits_22 : decode cX_shiftedAsBits 22 = .ok (.goto 10, 3) := by decide +kernel
theorem dX_shiftedAsBits_25 : decode cX_shiftedAsBits 25 = .ok (.lload_n 0, 1) := by decide +kernel
theorem dX_shiftedAsBits_26 : decode cX_shiftedAsBits 26 = .ok (.iload_n 2, 1) := by decide +kernel
theorem dX_shiftedAsBits_27 : decode cX_shiftedAsBits 27 = .ok (.lshl, 1) := by decide +kernel
theorem dX_shiftedAsBits_28 : decode cX_shiftedAsBits 28 = .ok (.ldc2_w 17, 3) := by decide +kernel
theorem dX_shiftedAsBits_31 : decode cX_shiftedAsBits 31 = .ok (.land, 1) := by decide +kernel
theorem dX_shiftedAsBits_32 : decode cX_shiftedAsBits 32 = .ok (.lreturn, 1) := by decide +kernel
theorem dX_exchangeOrJump_0 : decode cX_exchangeOrJump 0 = .ok (.iload_n 1, 1) := by decide +kernel
theorem dX_exchangeOrJump_1 : decode cX_exchangeOrJump 1 = .ok (.tableswitch 118 168 172 #[35, 42, 49, 80, 111], 35) := by decide +kernel
theorem dX_exchangeOrJump_36 : decode cX_exchangeOrJump 36 = .ok (.aload_n 0, 1) := by decide +kernel
theorem dX_exchangeOrJump_37 : decode cX_exchangeOrJump 37 = .ok (.iload_n 2, 1) := by decide +kernel
theorem dX_exchangeOrJump_38 : decode cX_exchangeOrJump 38 = .ok (.iload_n 3, 1) := by decide +kernel
theorem dX_exchangeOrJump_39 : decode cX_exchangeOrJump 39 = .ok (.invokevirtual 275, 3) := by decide +kernel
theorem dX_exchangeOrJump_42 : decode cX_exchangeOrJump 42 = .ok (.return_, 1) := by decide +kernel
theorem dX_exchangeOrJump_43 : decode cX_exchangeOrJump 43 = .ok (.aload_n 0, 1) := by decide +kernel
theorem dX_exchangeOrJump_44 : decode cX_exchangeOrJump 44 = .ok (.iload_n 2, 1) := by decide +kernel
theorem dX_exchangeOrJump_45 : decode cX_exchangeOrJump 45 = .ok (.iload_n 3, 1) := by decide +kernel
theorem dX_exchangeOrJump_46 : decode cX_exchangeOrJump 46 = .ok (.invokevirtual 279, 3) := by decide +kernel
theorem dX_exchangeOrJump_49 : decode cX_exchangeOrJump 49 = .ok (.return_, 1) := by decide +kernel
theorem dX_exchangeOrJump_50 : decode cX_exchangeOrJump 50 = .ok (.aload_n 0, 1) := by decide +kernel
theorem dX_exchangeOrJump_51 : decode cX_exchangeOrJump 51 = .ok (.iload_n 2, 1) := by decide +kernel
theorem dX_exchangeOrJump_52 : decode cX_exchangeOrJump 52 = .ok (.iconst 1, 1) := by decide +kernel
theorem dX_exchangeOrJump_53 : decode cX_exchangeOrJump 53 = .ok (.invokevirtual 282, 3) := by decide +kernel
theorem dX_exchangeOrJump_56 : decode cX_exchangeOrJump 56 = .ok (.aload_n 0, 1) := by decide +kernel
theorem dX_exchangeOrJump_57 : decode cX_exchangeOrJump 57 = .ok (.aload_n 0, 1) := by decide +kernel
theorem dX_exchangeOrJump_58 : decode cX_exchangeOrJump 58 = .ok (.getfield 9, 3) := by decide +kernel
theorem dX_exchangeOrJump_61 : decode cX_exchangeOrJump 61 = .ok (.iload_n 2, 1) := by decide +kernel
theorem dX_exchangeOrJump_62 : decode cX_exchangeOrJump 62 = .ok (.laload, 1) := by decide +kernel
theorem dX_exchangeOrJump_63 : decode cX_exchangeOrJump 63 = .ok (.invokestatic 21, 3) := by decide +kernel
theorem dX_exchangeOrJump_66 : decode cX_exchangeOrJump 66 = .ok (.lconst 0, 1) := by decide +kernel
theorem dX_exchangeOrJump_67 : decode cX_exchangeOrJump 67 = .ok (.lcmp, 1) := by decide +kernel
theorem dX_exchangeOrJump_68 : decode cX_exchangeOrJump 68 = .ok (.ifCond .lt 7, 3) := by decide +kernel
theorem dX_exchangeOrJump_71 : decode cX_exchangeOrJump 71 = .ok (.iconst 1, 1) := by decide +kernel
theorem dX_exchangeOrJump_72 : decode cX_exchangeOrJump 72 = .ok (.goto 4, 3) := by decide +kernel
theorem dX_exchangeOrJump_75 : decode cX_exchangeOrJump 75 = .ok (.iconst 0, 1) := by decide +kernel
theorem dX_exchangeOrJump_76 : decode cX_exchangeOrJump 76 = .ok (.iload_n 3, 1) := by decide +kernel
theorem dX_exchangeOrJump_77 : decode cX_exchangeOrJump 77 = .ok (.invokevirtual 239, 3) := by decide +kernel
theorem dX_exchangeOrJump_80 : decode cX_exchangeOrJump 80 = .ok (.return_, 1) := by decide +kernel
theorem dX_exchangeOrJump_81 : decode cX_exchangeOrJump 81 = .ok (.aload_n 0, 1) := by decide +kernel
theorem dX_exchangeOrJump_82 : decode cX_exchangeOrJump 82 = .ok (.iload_n 2, 1) := by decide +kernel
theorem dX_exchangeOrJump_83 : decode cX_exchangeOrJump 83 = .ok (.iconst 1, 1) := by decide +kernel
theorem dX_exchangeOrJump_84 : decode cX_exchangeOrJump 84 = .ok (.invokevirtual 282, 3) := by decide +kernel
theorem dX_exchangeOrJump_87 : decode cX_exchangeOrJump 87 = .ok (.aload_n 0, 1) := by decide +kernel
theorem dX_exchangeOrJump_88 : decode cX_exchangeOrJump 88 = .ok (.aload_n 0, 1) := by decide +kernel
theorem dX_exchangeOrJump_89 : decode cX_exchangeOrJump 89 = .ok (.getfield 9, 3) := by decide +kernel
theorem dX_exchangeOrJump_92 : decode cX_exchangeOrJump 92 = .ok (.iload_n 2, 1) := by decide +kernel
theorem dX_exchangeOrJump_93 : decode cX_exchangeOrJump 93 = .ok (.laload, 1) := by decide +kernel
theorem dX_exchangeOrJump_94 : decode cX_exchangeOrJump 94 = .ok (.invokestatic 21, 3) := by decide +kernel
theorem dX_exchangeOrJump_97 : decode cX_exchangeOrJump 97 = .ok (.lconst 0, 1) := by decide +kernel
theorem dX_exchangeOrJump_98 : decode cX_exchangeOrJump 98 = .ok (.lcmp, 1) := by decide +kernel
theorem dX_exchangeOrJump_99 : decode cX_exchangeOrJump 99 = .ok (.ifCond .ge 7, 3) := by decide +kernel
theorem dX_exchangeOrJump_102 : decode cX_exchangeOrJump 102 = .ok (.iconst 1, 1) := by decide +kernel
theorem dX_exchangeOrJump_103 : decode cX_exchangeOrJump 103 = .ok (.goto 4, 3) := by decide +kernel
theorem dX_exchangeOrJump_106 : decode cX_exchangeOrJump 106 = .ok (.iconst 0, 1) := by decide +kernel
theorem dX_exchangeOrJump_107 : decode cX_exchangeOrJump 107 = .ok (.iload_n 3, 1) := by decide +kernel
theorem dX_exchangeOrJump_108 : decode cX_exchangeOrJump 108 = .ok (.invokevirtual 239, 3) := by decide +kernel
theorem dX_exchangeOrJump_111 : decode cX_exchangeOrJump 111 = .ok (.return_, 1) := by decide +kernel
theorem dX_exchangeOrJump_112 : decode cX_exchangeOrJump 112 = .ok (.aload_n 0, 1) := by decide +kernel
theorem dX_exchangeOrJump_113 : decode cX_exchangeOrJump 113 = .ok (.iload_n 2, 1) := by decide +kernel
theorem dX_exchangeOrJump_114 : decode cX_exchangeOrJump 114 = .ok (.iload_n 3, 1) := by decide +kernel
theorem dX_exchangeOrJump_115 : decode cX_exchangeOrJump 115 = .ok (.invokevirtual 285, 3) := by decide +kernel
theorem dX_exchangeOrJump_118 : decode cX_exchangeOrJump 118 = .ok (.return_, 1) := by decide +kernel
theorem dX_exchangeOrJump_119 : decode cX_exchangeOrJump 119 = .ok (.aload_n 0, 1) := by decide +kernel
theorem dX_exchangeOrJump_120 : decode cX_exchangeOrJump 120 = .ok (.iconst 2, 1) := by decide +kernel
theorem dX_exchangeOrJump_121 : decode cX_exchangeOrJump 121 = .ok (.invokevirtual 147, 3) := by decide +kernel
theorem dX_exchangeOrJump_124 : decode cX_exchangeOrJump 124 = .ok (.return_, 1) := by decide +kernel
theorem dX_exchange_0 : decode cX_exchange 0 = .ok (.aload_n 0, 1) := by decide +kernel
theorem dX_exchange_1 : decode cX_exchange 1 = .ok (.iload_n 2, 1) := by decide +kernel
theorem dX_exchange_2 : decode cX_exchange 2 = .ok (.invokevirtual 73, 3) := by decide +kernel
theorem dX_exchange_5 : decode cX_exchange 5 = .ok (.lstore_n 3, 1) := by decide +kernel
theorem dX_exchange_6 : decode cX_exchange 6 = .ok (.aload_n 0, 1) := by decide +kernel
theorem dX_exchange_7 : decode cX_exchange 7 = .ok (.iload_n 2, 1) := by decide +kernel
theorem dX_exchange_8 : decode cX_exchange 8 = .ok (.aload_n 0, 1) := by decide +kernel
theorem dX_exchange_9 : decode cX_exchange 9 = .ok (.getfield 9, 3) := by decide +kernel
theorem dX_exchange_12 : decode cX_exchange 12 = .ok (.iload_n 1, 1) := by decide +kernel
theorem dX_exchange_13 : decode cX_exchange 13 = .ok (.laload, 1) := by decide +kernel
theorem dX_exchange_14 : decode cX_exchange 14 = .ok (.invokevirtual 176, 3) := by decide +kernel
theorem dX_exchange_17 : decode cX_exchange 17 = .ok (.aload_n 0, 1) := by decide +kernel
theorem dX_exchange_18 : decode cX_exchange 18 = .ok (.iload_n 1, 1) := by decide +kernel
theorem dX_exchange_19 : decode cX_exchange 19 = .ok (.lload_n 3, 1) := by decide +kernel
theorem dX_exchange_20 : decode cX_exchange 20 = .ok (.invokevirtual 153, 3) := by decide +kernel
theorem dX_exchange_23 : decode cX_exchange 23 = .ok (.return_, 1) := by decide +kernel
theorem dX_block_0 : decode cX_block 0 = .ok (.aload_n 0, 1) := by decide +kernel
theorem dX_block_1 : decode cX_block 1 = .ok (.getfield 9, 3) := by decide +kernel
theorem dX_block_4 : decode cX_block 4 = .ok (.iload_n 1, 1) := by decide +kernel
theorem dX_block_5 : decode cX_block 5 = .ok (.laload, 1) := by decide +kernel
theorem dX_block_6 : decode cX_block 6 = .ok (.invokestatic 167, 3) := by decide +kernel
theorem dX_block_9 : decode cX_block 9 = .ok (.istore_n 3, 1) := by decide +kernel
theorem dX_block_10 : decode cX_block 10 = .ok (.aload_n 0, 1) := by decide +kernel
theorem dX_block_11 : decode cX_block 11 = .ok (.getfield 9, 3) := by decide +kernel
theorem dX_block_14 : decode cX_block 14 = .ok (.iload_n 1, 1) := by decide +kernel
theorem dX_block_15 : decode cX_block 15 = .ok (.laload, 1) := by decide +kernel
theorem dX_block_16 : decode cX_block 16 = .ok (.invokestatic 164, 3) := by decide +kernel
theorem dX_block_19 : decode cX_block 19 = .ok (.istore 4, 2) := by decide +kernel
theorem dX_block_21 : decode cX_block 21 = .ok (.iload_n 2, 1) := by decide +kernel
theorem dX_block_22 : decode cX_block 22 = .ok (.iload 4, 2) := by decide +kernel
theorem dX_block_24 : decode cX_block 24 = .ok (.isub, 1) := by decide +kernel
theorem dX_block_25 : decode cX_block 25 = .ok (.iconst 0, 1) := by decide +kernel
theorem dX_block_26 : decode cX_block 26 = .ok (.invokestatic 288, 3) := by decide +kernel
theorem dX_block_29 : decode cX_block 29 = .ok (.iconst 1, 1) := by decide +kernel
theorem dX_block_30 : decode cX_block 30 = .ok (.iadd, 1) := by decide +kernel
theorem dX_block_31 : decode cX_block 31 = .ok (.istore 5, 2) := by decide +kernel
theorem dX_block_33 : decode cX_block 33 = .ok (.iconst 0, 1) := by decide +kernel
theorem dX_block_34 : decode cX_block 34 = .ok (.istore 6, 2) := by decide +kernel
theorem dX_block_36 : decode cX_block 36 = .ok (.iload 6, 2) := by decide +kernel
theorem dX_block_38 : decode cX_block 38 = .ok (.iload 5, 2) := by decide +kernel
theorem dX_block_40 : decode cX_block 40 = .ok (.if_icmp .ge 39, 3) := by decide +kernel
theorem dX_block_43 : decode cX_block 43 = .ok (.aload_n 0, 1) := by decide +kernel
theorem dX_block_44 : decode cX_block 44 = .ok (.getfield 67, 3) := by decide +kernel
theorem dX_block_47 : decode cX_block 47 = .ok (.ifCond .ne 32, 3) := by decide +kernel
theorem dX_block_50 : decode cX_block 50 = .ok (.aload_n 0, 1) := by decide +kernel
theorem dX_block_51 : decode cX_block 51 = .ok (.iload 4, 2) := by decide +kernel
theorem dX_block_53 : decode cX_block 53 = .ok (.iload 6, 2) := by decide +kernel
theorem dX_block_55 : decode cX_block 55 = .ok (.iadd, 1) := by decide +kernel
theorem dX_block_56 : decode cX_block 56 = .ok (.invokestatic 77, 3) := by decide +kernel
theorem dX_block_59 : decode cX_block 59 = .ok (.aload_n 0, 1) := by decide +kernel
theorem dX_block_60 : decode cX_block 60 = .ok (.iload_n 3, 1) := by decide +kernel
theorem dX_block_61 : decode cX_block 61 = .ok (.iload 6, 2) := by decide +kernel
theorem dX_block_63 : decode cX_block 63 = .ok (.iadd, 1) := by decide +kernel
theorem dX_block_64 : decode cX_block 64 = .ok (.invokestatic 77, 3) := by decide +kernel
theorem dX_block_67 : decode cX_block 67 = .ok (.invokevirtual 73, 3) := by decide +kernel
theorem dX_block_70 : decode cX_block 70 = .ok (.invokevirtual 176, 3) := by decide +kernel
theorem dX_block_73 : decode cX_block 73 = .ok (.iinc 6 1, 3) := by decide +kernel
theorem dX_block_76 : decode cX_block 76 = .ok (.goto (-40), 3) := by decide +kernel
theorem dX_block_79 : decode cX_block 79 = .ok (.return_, 1) := by decide +kernel
theorem dX_jumpByAccumulator_0 : decode cX_jumpByAccumulator 0 = .ok (.iload_n 1, 1) := by decide +kernel
theorem dX_jumpByAccumulator_1 : decode cX_jumpByAccumulator 1 = .ok (.ifCond .ne 11, 3) := by decide +kernel
theorem dX_jumpByAccumulator_4 : decode cX_jumpByAccumulator 4 = .ok (.aload_n 0, 1) := by decide +kernel
theorem dX_jumpByAccumulator_5 : decode cX_jumpByAccumulator 5 = .ok (.iload_n 2, 1) := by decide +kernel
theorem dX_jumpByAccumulator_6 : decode cX_jumpByAccumulator 6 = .ok (.putfield 42, 3) := by decide +kernel
theorem dX_jumpByAccumulator_9 : decode cX_jumpByAccumulator 9 = .ok (.goto 51, 3) := by decide +kernel
theorem dX_jumpByAccumulator_12 : decode cX_jumpByAccumulator 12 = .ok (.iload_n 1, 1) := by decide +kernel
theorem dX_jumpByAccumulator_13 : decode cX_jumpByAccumulator 13 = .ok (.iconst 1, 1) := by decide +kernel
theorem dX_jumpByAccumulator_14 : decode cX_jumpByAccumulator 14 = .ok (.if_icmp .ne 16, 3) := by decide +kernel
theorem dX_jumpByAccumulator_17 : decode cX_jumpByAccumulator 17 = .ok (.aload_n 0, 1) := by decide +kernel
theorem dX_jumpByAccumulator_18 : decode cX_jumpByAccumulator 18 = .ok (.iload_n 2, 1) := by decide +kernel
theorem dX_jumpByAccumulator_19 : decode cX_jumpByAccumulator 19 = .ok (.putfield 42, 3) := by decide +kernel
theorem dX_jumpByAccumulator_22 : decode cX_jumpByAccumulator 22 = .ok (.aload_n 0, 1) := by decide +kernel
theorem dX_jumpByAccumulator_23 : decode cX_jumpByAccumulator 23 = .ok (.iconst 1, 1) := by decide +kernel
theorem dX_jumpByAccumulator_24 : decode cX_jumpByAccumulator 24 = .ok (.putfield 45, 3) := by decide +kernel
theorem dX_jumpByAccumulator_27 : decode cX_jumpByAccumulator 27 = .ok (.goto 33, 3) := by decide +kernel
theorem dX_jumpByAccumulator_30 : decode cX_jumpByAccumulator 30 = .ok (.iload_n 1, 1) := by decide +kernel
theorem dX_jumpByAccumulator_31 : decode cX_jumpByAccumulator 31 = .ok (.iconst 4, 1) := by decide +kernel
theorem dX_jumpByAccumulator_32 : decode cX_jumpByAccumulator 32 = .ok (.if_icmp .ne 23, 3) := by decide +kernel
theorem dX_jumpByAccumulator_35 : decode cX_jumpByAccumulator 35 = .ok (.aload_n 0, 1) := by decide +kernel
theorem dX_jumpByAccumulator_36 : decode cX_jumpByAccumulator 36 = .ok (.getfield 45, 3) := by decide +kernel
theorem dX_jumpByAccumulator_39 : decode cX_jumpByAccumulator 39 = .ok (.ifCond .ne 16, 3) := by decide +kernel
theorem dX_jumpByAccumulator_42 : decode cX_jumpByAccumulator 42 = .ok (.aload_n 0, 1) := by decide +kernel
theorem dX_jumpByAccumulator_43 : decode cX_jumpByAccumulator 43 = .ok (.iload_n 2, 1) := by decide +kernel
theorem dX_jumpByAccumulator_44 : decode cX_jumpByAccumulator 44 = .ok (.putfield 42, 3) := by decide +kernel
theorem dX_jumpByAccumulator_47 : decode cX_jumpByAccumulator 47 = .ok (.aload_n 0, 1) := by decide +kernel
theorem dX_jumpByAccumulator_48 : decode cX_jumpByAccumulator 48 = .ok (.iconst 1, 1) := by decide +kernel
theorem dX_jumpByAccumulator_49 : decode cX_jumpByAccumulator 49 = .ok (.putfield 49, 3) := by decide +kernel
theorem dX_jumpByAccumulator_52 : decode cX_jumpByAccumulator 52 = .ok (.goto 8, 3) := by decide +kernel
theorem dX_jumpByAccumulator_55 : decode cX_jumpByAccumulator 55 = .ok (.aload_n 0, 1) := by decide +kernel
theorem dX_jumpByAccumulator_56 : decode cX_jumpByAccumulator 56 = .ok (.iconst 2, 1) := by decide +kernel
theorem dX_jumpByAccumulator_57 : decode cX_jumpByAccumulator 57 = .ok (.invokevirtual 147, 3) := by decide +kernel
theorem dX_jumpByAccumulator_60 : decode cX_jumpByAccumulator 60 = .ok (.return_, 1) := by decide +kernel
theorem dX_moveHalves_0 : decode cX_moveHalves 0 = .ok (.aload_n 0, 1) := by decide +kernel
theorem dX_moveHalves_1 : decode cX_moveHalves 1 = .ok (.getfield 9, 3) := by decide +kernel
theorem dX_moveHalves_4 : decode cX_moveHalves 4 = .ok (.iload_n 1, 1) := by decide +kernel
theorem dX_moveHalves_5 : decode cX_moveHalves 5 = .ok (.laload, 1) := by decide +kernel
theorem dX_moveHalves_6 : decode cX_moveHalves 6 = .ok (.lstore_n 3, 1) := by decide +kernel
theorem dX_moveHalves_7 : decode cX_moveHalves 7 = .ok (.aload_n 0, 1) := by decide +kernel
theorem dX_moveHalves_8 : decode cX_moveHalves 8 = .ok (.iload_n 1, 1) := by decide +kernel
theorem dX_moveHalves_9 : decode cX_moveHalves 9 = .ok (.lload_n 3, 1) := by decide +kernel
theorem dX_moveHalves_10 : decode cX_moveHalves 10 = .ok (.invokestatic 167, 3) := by decide +kernel
theorem dX_moveHalves_13 : decode cX_moveHalves 13 = .ok (.iload_n 2, 1) := by decide +kernel
theorem dX_moveHalves_14 : decode cX_moveHalves 14 = .ok (.iadd, 1) := by decide +kernel
theorem dX_moveHalves_15 : decode cX_moveHalves 15 = .ok (.invokestatic 77, 3) := by decide +kernel
theorem dX_moveHalves_18 : decode cX_moveHalves 18 = .ok (.lload_n 3, 1) := by decide +kernel
theorem dX_moveHalves_19 : decode cX_moveHalves 19 = .ok (.invokestatic 164, 3) := by decide +kernel
theorem dX_moveHalves_22 : decode cX_moveHalves 22 = .ok (.iload_n 2, 1) := by decide +kernel
theorem dX_moveHalves_23 : decode cX_moveHalves 23 = .ok (.iadd, 1) := by decide +kernel
theorem dX_moveHalves_24 : decode cX_moveHalves 24 = .ok (.invokestatic 77, 3) := by decide +kernel
theorem dX_moveHalves_27 : decode cX_moveHalves 27 = .ok (.invokestatic 106, 3) := by decide +kernel
theorem dX_moveHalves_30 : decode cX_moveHalves 30 = .ok (.invokevirtual 153, 3) := by decide +kernel
theorem dX_moveHalves_33 : decode cX_moveHalves 33 = .ok (.return_, 1) := by decide +kernel
theorem dX_growStack_0 : decode cX_growStack 0 = .ok (.aload_n 0, 1) := by decide +kernel
theorem dX_growStack_1 : decode cX_growStack 1 = .ok (.iload_n 1, 1) := by decide +kernel
theorem dX_growStack_2 : decode cX_growStack 2 = .ok (.iconst 1, 1) := by decide +kernel
theorem dX_growStack_3 : decode cX_growStack 3 = .ok (.invokevirtual 282, 3) := by decide +kernel
theorem dX_growStack_6 : decode cX_growStack 6 = .ok (.aload_n 0, 1) := by decide +kernel
theorem dX_growStack_7 : decode cX_growStack 7 = .ok (.getfield 9, 3) := by decide +kernel
theorem dX_growStack_10 : decode cX_growStack 10 = .ok (.iload_n 1, 1) := by decide +kernel
theorem dX_growStack_11 : decode cX_growStack 11 = .ok (.laload, 1) := by decide +kernel
theorem dX_growStack_12 : decode cX_growStack 12 = .ok (.invokestatic 167, 3) := by decide +kernel
theorem dX_growStack_15 : decode cX_growStack 15 = .ok (.ifCond .ne 7, 3) := by decide +kernel
theorem dX_growStack_18 : decode cX_growStack 18 = .ok (.aload_n 0, 1) := by decide +kernel
theorem dX_growStack_19 : decode cX_growStack 19 = .ok (.invokevirtual 170, 3) := by decide +kernel
theorem dX_growStack_22 : decode cX_growStack 22 = .ok (.return_, 1) := by decide +kernel
theorem dX_shrinkStack_0 : decode cX_shrinkStack 0 = .ok (.aload_n 0, 1) := by decide +kernel
theorem dX_shrinkStack_1 : decode cX_shrinkStack 1 = .ok (.iload_n 1, 1) := by decide +kernel
theorem dX_shrinkStack_2 : decode cX_shrinkStack 2 = .ok (.iconst (-1), 1) := by decide +kernel
theorem dX_shrinkStack_3 : decode cX_shrinkStack 3 = .ok (.invokevirtual 282, 3) := by decide +kernel
theorem dX_shrinkStack_6 : decode cX_shrinkStack 6 = .ok (.aload_n 0, 1) := by decide +kernel
theorem dX_shrinkStack_7 : decode cX_shrinkStack 7 = .ok (.getfield 9, 3) := by decide +kernel
theorem dX_shrinkStack_10 : decode cX_shrinkStack 10 = .ok (.iload_n 1, 1) := by decide +kernel
theorem dX_shrinkStack_11 : decode cX_shrinkStack 11 = .ok (.laload, 1) := by decide +kernel
theorem dX_shrinkStack_12 : decode cX_shrinkStack 12 = .ok (.invokestatic 167, 3) := by decide +kernel
theorem dX_shrinkStack_15 : decode cX_shrinkStack 15 = .ok (.ldc 41, 2) := by decide +kernel
theorem dX_shrinkStack_17 : decode cX_shrinkStack 17 = .ok (.if_icmp .ne 7, 3) := by decide +kernel
theorem dX_shrinkStack_20 : decode cX_shrinkStack 20 = .ok (.aload_n 0, 1) := by decide +kernel
theorem dX_shrinkStack_21 : decode cX_shrinkStack 21 = .ok (.invokevirtual 170, 3) := by decide +kernel
theorem dX_shrinkStack_24 : decode cX_shrinkStack 24 = .ok (.return_, 1) := by decide +kernel
theorem dX_stack_0 : decode cX_stack 0 = .ok (.iload_n 1, 1) := by decide +kernel
theorem dX_stack_1 : decode cX_stack 1 = .ok (.tableswitch 176 176 181 #[39, 67, 91, 115, 141, 161], 39) := by decide +kernel
theorem dX_stack_40 : decode cX_stack 40 = .ok (.aload_n 0, 1) := by decide +kernel
theorem dX_stack_41 : decode cX_stack 41 = .ok (.iload_n 2, 1) := by decide +kernel
theorem dX_stack_42 : decode cX_stack 42 = .ok (.invokevirtual 291, 3) := by decide +kernel
theorem dX_stack_45 : decode cX_stack 45 = .ok (.aload_n 0, 1) := by decide +kernel
theorem dX_stack_46 : decode cX_stack 46 = .ok (.aload_n 0, 1) := by decide +kernel
theorem dX_stack_47 : decode cX_stack 47 = .ok (.getfield 9, 3) := by decide +kernel
theorem dX_stack_50 : decode cX_stack 50 = .ok (.iload_n 2, 1) := by decide +kernel
theorem dX_stack_51 : decode cX_stack 51 = .ok (.laload, 1) := by decide +kernel
theorem dX_stack_52 : decode cX_stack 52 = .ok (.invokestatic 164, 3) := by decide +kernel
theorem dX_stack_55 : decode cX_stack 55 = .ok (.aload_n 0, 1) := by decide +kernel
theorem dX_stack_56 : decode cX_stack 56 = .ok (.invokevirtual 294, 3) := by decide +kernel
theorem dX_stack_59 : decode cX_stack 59 = .ok (.invokevirtual 176, 3) := by decide +kernel
theorem dX_stack_62 : decode cX_stack 62 = .ok (.aload_n 0, 1) := by decide +kernel
theorem dX_stack_63 : decode cX_stack 63 = .ok (.iload_n 3, 1) := by decide +kernel
theorem dX_stack_64 : decode cX_stack 64 = .ok (.putfield 42, 3) := by decide +kernel
theorem dX_stack_67 : decode cX_stack 67 = .ok (.return_, 1) := by decide +kernel
theorem dX_stack_68 : decode cX_stack 68 = .ok (.aload_n 0, 1) := by decide +kernel
theorem dX_stack_69 : decode cX_stack 69 = .ok (.iload_n 2, 1) := by decide +kernel
theorem dX_stack_70 : decode cX_stack 70 = .ok (.invokevirtual 291, 3) := by decide +kernel
theorem dX_stack_73 : decode cX_stack 73 = .ok (.aload_n 0, 1) := by decide +kernel
theorem dX_stack_74 : decode cX_stack 74 = .ok (.aload_n 0, 1) := by decide +kernel
theorem dX_stack_75 : decode cX_stack 75 = .ok (.getfield 9, 3) := by decide +kernel
theorem dX_stack_78 : decode cX_stack 78 = .ok (.iload_n 2, 1) := by decide +kernel
theorem dX_stack_79 : decode cX_stack 79 = .ok (.laload, 1) := by decide +kernel
theorem dX_stack_80 : decode cX_stack 80 = .ok (.invokestatic 164, 3) := by decide +kernel
theorem dX_stack_83 : decode cX_stack 83 = .ok (.aload_n 0, 1) := by decide +kernel
theorem dX_stack_84 : decode cX_stack 84 = .ok (.iload_n 3, 1) := by decide +kernel
theorem dX_stack_85 : decode cX_stack 85 = .ok (.invokevirtual 73, 3) := by decide +kernel
theorem dX_stack_88 : decode cX_stack 88 = .ok (.invokevirtual 176, 3) := by decide +kernel
theorem dX_stack_91 : decode cX_stack 91 = .ok (.return_, 1) := by decide +kernel
theorem dX_stack_92 : decode cX_stack 92 = .ok (.aload_n 0, 1) := by decide +kernel
theorem dX_stack_93 : decode cX_stack 93 = .ok (.iload_n 3, 1) := by decide +kernel
theorem dX_stack_94 : decode cX_stack 94 = .ok (.aload_n 0, 1) := by decide +kernel
theorem dX_stack_95 : decode cX_stack 95 = .ok (.aload_n 0, 1) := by decide +kernel
theorem dX_stack_96 : decode cX_stack 96 = .ok (.getfield 9, 3) := by decide +kernel
theorem dX_stack_99 : decode cX_stack 99 = .ok (.iload_n 2, 1) := by decide +kernel
theorem dX_stack_100 : decode cX_stack 100 = .ok (.laload, 1) := by decide +kernel
theorem dX_stack_101 : decode cX_stack 101 = .ok (.invokestatic 164, 3) := by decide +kernel
theorem dX_stack_104 : decode cX_stack 104 = .ok (.invokevirtual 73, 3) := by decide +kernel
theorem dX_stack_107 : decode cX_stack 107 = .ok (.invokevirtual 176, 3) := by decide +kernel
theorem dX_stack_110 : decode cX_stack 110 = .ok (.aload_n 0, 1) := by decide +kernel
theorem dX_stack_111 : decode cX_stack 111 = .ok (.iload_n 2, 1) := by decide +kernel
theorem dX_stack_112 : decode cX_stack 112 = .ok (.invokevirtual 298, 3) := by decide +kernel
theorem dX_stack_115 : decode cX_stack 115 = .ok (.return_, 1) := by decide +kernel
theorem dX_stack_116 : decode cX_stack 116 = .ok (.aload_n 0, 1) := by decide +kernel
theorem dX_stack_117 : decode cX_stack 117 = .ok (.aload_n 0, 1) := by decide +kernel
theorem dX_stack_118 : decode cX_stack 118 = .ok (.aload_n 0, 1) := by decide +kernel
theorem dX_stack_119 : decode cX_stack 119 = .ok (.getfield 9, 3) := by decide +kernel
theorem dX_stack_122 : decode cX_stack 122 = .ok (.iload_n 2, 1) := by decide +kernel
theorem dX_stack_123 : decode cX_stack 123 = .ok (.laload, 1) := by decide +kernel
theorem dX_stack_124 : decode cX_stack 124 = .ok (.invokestatic 164, 3) := by decide +kernel
theorem dX_stack_127 : decode cX_stack 127 = .ok (.invokevirtual 73, 3) := by decide +kernel
theorem dX_stack_130 : decode cX_stack 130 = .ok (.invokestatic 164, 3) := by decide +kernel
theorem dX_stack_133 : decode cX_stack 133 = .ok (.putfield 42, 3) := by decide +kernel
theorem dX_stack_136 : decode cX_stack 136 = .ok (.aload_n 0, 1) := by decide +kernel
theorem dX_stack_137 : decode cX_stack 137 = .ok (.iload_n 2, 1) := by decide +kernel
theorem dX_stack_138 : decode cX_stack 138 = .ok (.invokevirtual 298, 3) := by decide +kernel
theorem dX_stack_141 : decode cX_stack 141 = .ok (.return_, 1) := by decide +kernel
theorem dX_stack_142 : decode cX_stack 142 = .ok (.aload_n 0, 1) := by decide +kernel
theorem dX_stack_143 : decode cX_stack 143 = .ok (.iload_n 3, 1) := by decide +kernel
theorem dX_stack_144 : decode cX_stack 144 = .ok (.aload_n 0, 1) := by decide +kernel
theorem dX_stack_145 : decode cX_stack 145 = .ok (.invokevirtual 294, 3) := by decide +kernel
theorem dX_stack_148 : decode cX_stack 148 = .ok (.invokevirtual 176, 3) := by decide +kernel
theorem dX_stack_151 : decode cX_stack 151 = .ok (.aload_n 0, 1) := by decide +kernel
theorem dX_stack_152 : decode cX_stack 152 = .ok (.iload_n 3, 1) := by decide +kernel
theorem dX_stack_153 : decode cX_stack 153 = .ok (.iconst 1, 1) := by decide +kernel
theorem dX_stack_154 : decode cX_stack 154 = .ok (.iadd, 1) := by decide +kernel
theorem dX_stack_155 : decode cX_stack 155 = .ok (.invokestatic 77, 3) := by decide +kernel
theorem dX_stack_158 : decode cX_stack 158 = .ok (.putfield 42, 3) := by decide +kernel
theorem dX_stack_161 : decode cX_stack 161 = .ok (.return_, 1) := by decide +kernel
theorem dX_stack_162 : decode cX_stack 162 = .ok (.aload_n 0, 1) := by decide +kernel
theorem dX_stack_163 : decode cX_stack 163 = .ok (.iload_n 2, 1) := by decide +kernel
theorem dX_stack_164 : decode cX_stack 164 = .ok (.aload_n 0, 1) := by decide +kernel
theorem dX_stack_165 : decode cX_stack 165 = .ok (.invokevirtual 294, 3) := by decide +kernel
theorem dX_stack_168 : decode cX_stack 168 = .ok (.invokevirtual 153, 3) := by decide +kernel
theorem dX_stack_171 : decode cX_stack 171 = .ok (.aload_n 0, 1) := by decide +kernel
theorem dX_stack_172 : decode cX_stack 172 = .ok (.iload_n 3, 1) := by decide +kernel
theorem dX_stack_173 : decode cX_stack 173 = .ok (.putfield 42, 3) := by decide +kernel
theorem dX_stack_176 : decode cX_stack 176 = .ok (.return_, 1) := by decide +kernel
theorem dX_stack_177 : decode cX_stack 177 = .ok (.aload_n 0, 1) := by decide +kernel
theorem dX_stack_178 : decode cX_stack 178 = .ok (.iconst 2, 1) := by decide +kernel
theorem dX_stack_179 : decode cX_stack 179 = .ok (.invokevirtual 147, 3) := by decide +kernel
theorem dX_stack_182 : decode cX_stack 182 = .ok (.return_, 1) := by decide +kernel
theorem dX_bytes_0 : decode cX_bytes 0 = .ok (.iload_n 1, 1) := by decide +kernel
theorem dX_bytes_1 : decode cX_bytes 1 = .ok (.bipush 91, 2) := by decide +kernel
theorem dX_bytes_3 : decode cX_bytes 3 = .ok (.if_icmp .ge 9, 3) := by decide +kernel
theorem dX_bytes_6 : decode cX_bytes 6 = .ok (.aload_n 0, 1) := by decide +kernel
theorem dX_bytes_7 : decode cX_bytes 7 = .ok (.iconst 2, 1) := by decide +kernel
theorem dX_bytes_8 : decode cX_bytes 8 = .ok (.invokevirtual 147, 3) := by decide +kernel
theorem dX_bytes_11 : decode cX_bytes 11 = .ok (.return_, 1) := by decide +kernel
theorem dX_bytes_12 : decode cX_bytes 12 = .ok (.iload_n 1, 1) := by decide +kernel
theorem dX_bytes_13 : decode cX_bytes 13 = .ok (.bipush 91, 2) := by decide +kernel
theorem dX_bytes_15 : decode cX_bytes 15 = .ok (.if_icmp .eq 15, 3) := by decide +kernel
theorem dX_bytes_18 : decode cX_bytes 18 = .ok (.iload_n 1, 1) := by decide +kernel
theorem dX_bytes_19 : decode cX_bytes 19 = .ok (.bipush 92, 2) := by decide +kernel
theorem dX_bytes_21 : decode cX_bytes 21 = .ok (.if_icmp .eq 9, 3) := by decide +kernel
theorem dX_bytes_24 : decode cX_bytes 24 = .ok (.iload_n 1, 1) := by decide +kernel
theorem dX_bytes_25 : decode cX_bytes 25 = .ok (.bipush 94, 2) := by decide +kernel
theorem dX_bytes_27 : decode cX_bytes 27 = .ok (.if_icmp .ne 8, 3) := by decide +kernel
theorem dX_bytes_30 : decode cX_bytes 30 = .ok (.aload_n 0, 1) := by decide +kernel
theorem dX_bytes_31 : decode cX_bytes 31 = .ok (.iload_n 3, 1) := by decide +kernel
theorem dX_bytes_32 : decode cX_bytes 32 = .ok (.invokevirtual 301, 3) := by decide +kernel
theorem dX_bytes_35 : decode cX_bytes 35 = .ok (.iload_n 1, 1) := by decide +kernel
theorem dX_bytes_36 : decode cX_bytes 36 = .ok (.bipush 91, 2) := by decide +kernel
theorem dX_bytes_38 : decode cX_bytes 38 = .ok (.if_icmp .ne 4, 3) := by decide +kernel
theorem dX_bytes_41 : decode cX_bytes 41 = .ok (.return_, 1) := by decide +kernel
theorem dX_bytes_42 : decode cX_bytes 42 = .ok (.aload_n 0, 1) := by decide +kernel
theorem dX_bytes_43 : decode cX_bytes 43 = .ok (.iload_n 3, 1) := by decide +kernel
theorem dX_bytes_44 : decode cX_bytes 44 = .ok (.invokevirtual 73, 3) := by decide +kernel
theorem dX_bytes_47 : decode cX_bytes 47 = .ok (.lstore 4, 2) := by decide +kernel
theorem dX_bytes_49 : decode cX_bytes 49 = .ok (.aload_n 0, 1) := by decide +kernel
theorem dX_bytes_50 : decode cX_bytes 50 = .ok (.lload 4, 2) := by decide +kernel
theorem dX_bytes_52 : decode cX_bytes 52 = .ok (.invokevirtual 81, 3) := by decide +kernel
theorem dX_bytes_55 : decode cX_bytes 55 = .ok (.istore 6, 2) := by decide +kernel
theorem dX_bytes_57 : decode cX_bytes 57 = .ok (.iload_n 1, 1) := by decide +kernel
theorem dX_bytes_58 : decode cX_bytes 58 = .ok (.bipush 92, 2) := by decide +kernel
theorem dX_bytes_60 : decode cX_bytes 60 = .ok (.if_icmp .eq 9, 3) := by decide +kernel
theorem dX_bytes_63 : decode cX_bytes 63 = .ok (.iload_n 1, 1) := by decide +kernel
theorem dX_bytes_64 : decode cX_bytes 64 = .ok (.bipush 93, 2) := by decide +kernel
theorem dX_bytes_66 : decode cX_bytes 66 = .ok (.if_icmp .ne 15, 3) := by decide +kernel
theorem dX_bytes_69 : decode cX_bytes 69 = .ok (.aload_n 0, 1) := by decide +kernel
theorem dX_bytes_70 : decode cX_bytes 70 = .ok (.iload_n 2, 1) := by decide +kernel
theorem dX_bytes_71 : decode cX_bytes 71 = .ok (.lload 4, 2) := by decide +kernel
theorem dX_bytes_73 : decode cX_bytes 73 = .ok (.iload 6, 2) := by decide +kernel
theorem dX_bytes_75 : decode cX_bytes 75 = .ok (.invokevirtual 304, 3) := by decide +kernel
theorem dX_bytes_78 : decode cX_bytes 78 = .ok (.goto 12, 3) := by decide +kernel
theorem dX_bytes_81 : decode cX_bytes 81 = .ok (.aload_n 0, 1) := by decide +kernel
theorem dX_bytes_82 : decode cX_bytes 82 = .ok (.iload_n 2, 1) := by decide +kernel
theorem dX_bytes_83 : decode cX_bytes 83 = .ok (.lload 4, 2) := by decide +kernel
theorem dX_bytes_85 : decode cX_bytes 85 = .ok (.iload 6, 2) := by decide +kernel
theorem dX_bytes_87 : decode cX_bytes 87 = .ok (.invokevirtual 308, 3) := by decide +kernel
theorem dX_bytes_90 : decode cX_bytes 90 = .ok (.return_, 1) := by decide +kernel
theorem dX_position_0 : decode cX_position 0 = .ok (.lload_n 0, 1) := by decide +kernel
theorem dX_position_1 : decode cX_position 1 = .ok (.bipush 30, 2) := by decide +kernel
theorem dX_position_3 : decode cX_position 3 = .ok (.lushr, 1) := by decide +kernel
theorem dX_position_4 : decode cX_position 4 = .ok (.l2i, 1) := by decide +kernel
theorem dX_position_5 : decode cX_position 5 = .ok (.bipush 63, 2) := by decide +kernel
theorem dX_position_7 : decode cX_position 7 = .ok (.iand, 1) := by decide +kernel
theorem dX_position_8 : decode cX_position 8 = .ok (.ireturn, 1) := by decide +kernel
theorem dX_size_0 : decode cX_size 0 = .ok (.lload_n 0, 1) := by decide +kernel
theorem dX_size_1 : decode cX_size 1 = .ok (.bipush 24, 2) := by decide +kernel
theorem dX_size_3 : decode cX_size 3 = .ok (.lushr, 1) := by decide +kernel
theorem dX_size_4 : decode cX_size 4 = .ok (.l2i, 1) := by decide +kernel
theorem dX_size_5 : decode cX_size 5 = .ok (.bipush 63, 2) := by decide +kernel
theorem dX_size_7 : decode cX_size 7 = .ok (.iand, 1) := by decide +kernel
theorem dX_size_8 : decode cX_size 8 = .ok (.ireturn, 1) := by decide +kernel
theorem dX_byteMask_0 : decode cX_byteMask 0 = .ok (.lconst 1, 1) := by decide +kernel
theorem dX_byteMask_1 : decode cX_byteMask 1 = .ok (.lload_n 0, 1) := by decide +kernel
theorem dX_byteMask_2 : decode cX_byteMask 2 = .ok (.invokestatic 311, 3) := by decide +kernel
theorem dX_byteMask_5 : decode cX_byteMask 5 = .ok (.bipush 36, 2) := by decide +kernel
theorem dX_byteMask_7 : decode cX_byteMask 7 = .ok (.invokestatic 264, 3) := by decide +kernel
theorem dX_byteMask_10 : decode cX_byteMask 10 = .ok (.lshl, 1) := by decide +kernel
theorem dX_byteMask_11 : decode cX_byteMask 11 = .ok (.lconst 1, 1) := by decide +kernel
theorem dX_byteMask_12 : decode cX_byteMask 12 = .ok (.lsub, 1) := by decide +kernel
theorem dX_byteMask_13 : decode cX_byteMask 13 = .ok (.lreturn, 1) := by decide +kernel
theorem dX_advancePointer_0 : decode cX_advancePointer 0 = .ok (.aload_n 0, 1) := by decide +kernel
theorem dX_advancePointer_1 : decode cX_advancePointer 1 = .ok (.iload_n 1, 1) := by decide +kernel
theorem dX_advancePointer_2 : decode cX_advancePointer 2 = .ok (.invokevirtual 73, 3) := by decide +kernel
theorem dX_advancePointer_5 : decode cX_advancePointer 5 = .ok (.lstore_n 2, 1) := by decide +kernel
theorem dX_advancePointer_6 : decode cX_advancePointer 6 = .ok (.lload_n 2, 1) := by decide +kernel
theorem dX_advancePointer_7 : decode cX_advancePointer 7 = .ok (.invokestatic 314, 3) := by decide +kernel
theorem dX_advancePointer_10 : decode cX_advancePointer 10 = .ok (.lload_n 2, 1) := by decide +kernel
theorem dX_advancePointer_11 : decode cX_advancePointer 11 = .ok (.invokestatic 311, 3) := by decide +kernel
theorem dX_advancePointer_14 : decode cX_advancePointer 14 = .ok (.isub, 1) := by decide +kernel
theorem dX_advancePointer_15 : decode cX_advancePointer 15 = .ok (.istore 4, 2) := by decide +kernel
theorem dX_advancePointer_17 : decode cX_advancePointer 17 = .ok (.lload_n 2, 1) := by decide +kernel
theorem dX_advancePointer_18 : decode cX_advancePointer 18 = .ok (.invokestatic 164, 3) := by decide +kernel
theorem dX_advancePointer_21 : decode cX_advancePointer 21 = .ok (.istore 5, 2) := by decide +kernel
theorem dX_advancePointer_23 : decode cX_advancePointer 23 = .ok (.iload 4, 2) := by decide +kernel
theorem dX_advancePointer_25 : decode cX_advancePointer 25 = .ok (.ifCond .ge 25, 3) := by decide +kernel
theorem dX_advancePointer_28 : decode cX_advancePointer 28 = .ok (.iload 5, 2) := by decide +kernel
theorem dX_advancePointer_30 : decode cX_advancePointer 30 = .ok (.iconst 1, 1) := by decide +kernel
theorem dX_advancePointer_31 : decode cX_advancePointer 31 = .ok (.iadd, 1) := by decide +kernel
theorem dX_advancePointer_32 : decode cX_advancePointer 32 = .ok (.invokestatic 77, 3) := by decide +kernel
theorem dX_advancePointer_35 : decode cX_advancePointer 35 = .ok (.istore 5, 2) := by decide +kernel
theorem dX_advancePointer_37 : decode cX_advancePointer 37 = .ok (.bipush 36, 2) := by decide +kernel
theorem dX_advancePointer_39 : decode cX_advancePointer 39 = .ok (.lload_n 2, 1) := by decide +kernel
theorem dX_advancePointer_40 : decode cX_advancePointer 40 = .ok (.invokestatic 311, 3) := by decide +kernel
theorem dX_advancePointer_43 : decode cX_advancePointer 43 = .ok (.isub, 1) := by decide +kernel
theorem dX_advancePointer_44 : decode cX_advancePointer 44 = .ok (.iconst 0, 1) := by decide +kernel
theorem dX_advancePointer_45 : decode cX_advancePointer 45 = .ok (.invokestatic 288, 3) := by decide +kernel
theorem dX_advancePointer_48 : decode cX_advancePointer 48 = .ok (.istore 4, 2) := by decide +kernel
theorem dX_advancePointer_50 : decode cX_advancePointer 50 = .ok (.lload_n 2, 1) := by decide +kernel
theorem dX_advancePointer_51 : decode cX_advancePointer 51 = .ok (.invokestatic 167, 3) := by decide +kernel
theorem dX_advancePointer_54 : decode cX_advancePointer 54 = .ok (.sipush 4095, 3) := by decide +kernel
theorem dX_advancePointer_57 : decode cX_advancePointer 57 = .ok (.iand, 1) := by decide +kernel
theorem dX_advancePointer_58 : decode cX_advancePointer 58 = .ok (.istore 6, 2) := by decide +kernel
theorem dX_advancePointer_60 : decode cX_advancePointer 60 = .ok (.aload_n 0, 1) := by decide +kernel
theorem dX_advancePointer_61 : decode cX_advancePointer 61 = .ok (.iload_n 1, 1) := by decide +kernel
theorem dX_advancePointer_62 : decode cX_advancePointer 62 = .ok (.iload 4, 2) := by decide +kernel
theorem dX_advancePointer_64 : decode cX_advancePointer 64 = .ok (.bipush 12, 2) := by decide +kernel
theorem dX_advancePointer_66 : decode cX_advancePointer 66 = .ok (.ishl, 1) := by decide +kernel
theorem dX_advancePointer_67 : decode cX_advancePointer 67 = .ok (.iload 6, 2) := by decide +kernel
theorem dX_advancePointer_69 : decode cX_advancePointer 69 = .ok (.ior, 1) := by decide +kernel
theorem dX_advancePointer_70 : decode cX_advancePointer 70 = .ok (.iload 5, 2) := by decide +kernel
theorem dX_advancePointer_72 : decode cX_advancePointer 72 = .ok (.invokestatic 106, 3) := by decide +kernel
theorem dX_advancePointer_75 : decode cX_advancePointer 75 = .ok (.invokevirtual 176, 3) := by decide +kernel
theorem dX_advancePointer_78 : decode cX_advancePointer 78 = .ok (.return_, 1) := by decide +kernel
theorem dX_loadByte_0 : decode cX_loadByte 0 = .ok (.aload_n 0, 1) := by decide +kernel
theorem dX_loadByte_1 : decode cX_loadByte 1 = .ok (.iload 4, 2) := by decide +kernel
theorem dX_loadByte_3 : decode cX_loadByte 3 = .ok (.invokevirtual 73, 3) := by decide +kernel
theorem dX_loadByte_6 : decode cX_loadByte 6 = .ok (.lstore 5, 2) := by decide +kernel
theorem dX_loadByte_8 : decode cX_loadByte 8 = .ok (.aload_n 0, 1) := by decide +kernel
theorem dX_loadByte_9 : decode cX_loadByte 9 = .ok (.iload_n 1, 1) := by decide +kernel
theorem dX_loadByte_10 : decode cX_loadByte 10 = .ok (.lload 5, 2) := by decide +kernel
theorem dX_loadByte_12 : decode cX_loadByte 12 = .ok (.lload_n 2, 1) := by decide +kernel
theorem dX_loadByte_13 : decode cX_loadByte 13 = .ok (.invokestatic 314, 3) := by decide +kernel
theorem dX_loadByte_16 : decode cX_loadByte 16 = .ok (.lushr, 1) := by decide +kernel
theorem dX_loadByte_17 : decode cX_loadByte 17 = .ok (.lload_n 2, 1) := by decide +kernel
theorem dX_loadByte_18 : decode cX_loadByte 18 = .ok (.invokestatic 317, 3) := by decide +kernel
theorem dX_loadByte_21 : decode cX_loadByte 21 = .ok (.land, 1) := by decide +kernel
theorem dX_loadByte_22 : decode cX_loadByte 22 = .ok (.invokevirtual 153, 3) := by decide +kernel
theorem dX_loadByte_25 : decode cX_loadByte 25 = .ok (.return_, 1) := by decide +kernel
theorem dX_depositByte_0 : decode cX_depositByte 0 = .ok (.aload_n 0, 1) := by decide +kernel
theorem dX_depositByte_1 : decode cX_depositByte 1 = .ok (.iload 4, 2) := by decide +kernel
theorem dX_depositByte_3 : decode cX_depositByte 3 = .ok (.invokevirtual 73, 3) := by decide +kernel
theorem dX_depositByte_6 : decode cX_depositByte 6 = .ok (.lstore 5, 2) := by decide +kernel
theorem dX_depositByte_8 : decode cX_depositByte 8 = .ok (.lload_n 2, 1) := by decide +kernel
theorem dX_depositByte_9 : decode cX_depositByte 9 = .ok (.invokestatic 317, 3) := by decide +kernel
theorem dX_depositByte_12 : decode cX_depositByte 12 = .ok (.lload_n 2, 1) := by decide +kernel
theorem dX_depositByte_13 : decode cX_depositByte 13 = .ok (.invokestatic 314, 3) := by decide +kernel
theorem dX_depositByte_16 : decode cX_depositByte 16 = .ok (.lshl, 1) := by decide +kernel
theorem dX_depositByte_17 : decode cX_depositByte 17 = .ok (.ldc2_w 17, 3) := by decide +kernel
theorem dX_depositByte_20 : decode cX_depositByte 20 = .ok (.land, 1) := by decide +kernel
theorem dX_depositByte_21 : decode cX_depositByte 21 = .ok (.lstore 7, 2) := by decide +kernel
theorem dX_depositByte_23 : decode cX_depositByte 23 = .ok (.aload_n 0, 1) := by decide +kernel
theorem dX_depositByte_24 : decode cX_depositByte 24 = .ok (.iload 4, 2) := by decide +kernel
theorem dX_depositByte_26 : decode cX_depositByte 26 = .ok (.lload 5, 2) := by decide +kernel
theorem dX_depositByte_28 : decode cX_depositByte 28 = .ok (.lload 7, 2) := by decide +kernel
theorem dX_depositByte_30 : decode cX_depositByte 30 = .ok (.ldc2_w 19, 3) := by decide +kernel
theorem dX_depositByte_33 : decode cX_depositByte 33 = .ok (.lxor, 1) := by decide +kernel
theorem dX_depositByte_34 : decode cX_depositByte 34 = .ok (.land, 1) := by decide +kernel
theorem dX_depositByte_35 : decode cX_depositByte 35 = .ok (.aload_n 0, 1) := by decide +kernel
theorem dX_depositByte_36 : decode cX_depositByte 36 = .ok (.getfield 9, 3) := by decide +kernel
theorem dX_depositByte_39 : decode cX_depositByte 39 = .ok (.iload_n 1, 1) := by decide +kernel
theorem dX_depositByte_40 : decode cX_depositByte 40 = .ok (.laload, 1) := by decide +kernel
theorem dX_depositByte_41 : decode cX_depositByte 41 = .ok (.lload_n 2, 1) := by decide +kernel
theorem dX_depositByte_42 : decode cX_depositByte 42 = .ok (.invokestatic 314, 3) := by decide +kernel
theorem dX_depositByte_45 : decode cX_depositByte 45 = .ok (.lshl, 1) := by decide +kernel
theorem dX_depositByte_46 : decode cX_depositByte 46 = .ok (.lload 7, 2) := by decide +kernel
theorem dX_depositByte_48 : decode cX_depositByte 48 = .ok (.land, 1) := by decide +kernel
theorem dX_depositByte_49 : decode cX_depositByte 49 = .ok (.lor, 1) := by decide +kernel
theorem dX_depositByte_50 : decode cX_depositByte 50 = .ok (.invokevirtual 176, 3) := by decide +kernel
theorem dX_depositByte_53 : decode cX_depositByte 53 = .ok (.return_, 1) := by decide +kernel
