theorem dM_sum_0 : decode cM_sum 0 = .ok (.iload_n 1, 1) := by decide +kernel
theorem dM_sum_1 : decode cM_sum 1 = .ok (.iconst 4, 1) := by decide +kernel
theorem dM_sum_2 : decode cM_sum 2 = .ok (.irem, 1) := by decide +kernel
theorem dM_sum_3 : decode cM_sum 3 = .ok (.istore 4, 2) := by decide +kernel
theorem dM_sum_5 : decode cM_sum 5 = .ok (.aload_n 0, 1) := by decide +kernel
theorem dM_sum_6 : decode cM_sum 6 = .ok (.iload 4, 2) := by decide +kernel
theorem dM_sum_8 : decode cM_sum 8 = .ok (.iload_n 3, 1) := by decide +kernel
theorem dM_sum_9 : decode cM_sum 9 = .ok (.invokevirtual 130, 3) := by decide +kernel
theorem dM_sum_12 : decode cM_sum 12 = .ok (.invokestatic 146, 3) := by decide +kernel
theorem dM_sum_15 : decode cM_sum 15 = .ok (.lstore 5, 2) := by decide +kernel
theorem dM_sum_17 : decode cM_sum 17 = .ok (.aload_n 0, 1) := by decide +kernel
theorem dM_sum_18 : decode cM_sum 18 = .ok (.getfield 7, 3) := by decide +kernel
theorem dM_sum_21 : decode cM_sum 21 = .ok (.iload_n 2, 1) := by decide +kernel
theorem dM_sum_22 : decode cM_sum 22 = .ok (.laload, 1) := by decide +kernel
theorem dM_sum_23 : decode cM_sum 23 = .ok (.invokestatic 146, 3) := by decide +kernel
theorem dM_sum_26 : decode cM_sum 26 = .ok (.lstore 7, 2) := by decide +kernel
theorem dM_sum_28 : decode cM_sum 28 = .ok (.iload_n 1, 1) := by decide +kernel
theorem dM_sum_29 : decode cM_sum 29 = .ok (.iconst 4, 1) := by decide +kernel
theorem dM_sum_30 : decode cM_sum 30 = .ok (.idiv, 1) := by decide +kernel
theorem dM_sum_31 : decode cM_sum 31 = .ok (.istore 9, 2) := by decide +kernel
theorem dM_sum_33 : decode cM_sum 33 = .ok (.iload 9, 2) := by decide +kernel
theorem dM_sum_35 : decode cM_sum 35 = .ok (.bipush 38, 2) := by decide +kernel
theorem dM_sum_37 : decode cM_sum 37 = .ok (.if_icmp .ne 81, 3) := by decide +kernel
theorem dM_sum_40 : decode cM_sum 40 = .ok (.lload 5, 2) := by decide +kernel
theorem dM_sum_42 : decode cM_sum 42 = .ok (.lconst 0, 1) := by decide +kernel
theorem dM_sum_43 : decode cM_sum 43 = .ok (.lcmp, 1) := by decide +kernel
theorem dM_sum_44 : decode cM_sum 44 = .ok (.ifCond .eq 21, 3) := by decide +kernel
theorem dM_sum_47 : decode cM_sum 47 = .ok (.lload 5, 2) := by decide +kernel
theorem dM_sum_49 : decode cM_sum 49 = .ok (.ldc2_w 150, 3) := by decide +kernel
theorem dM_sum_52 : decode cM_sum 52 = .ok (.lcmp, 1) := by decide +kernel
theorem dM_sum_53 : decode cM_sum 53 = .ok (.ifCond .ne 16, 3) := by decide +kernel
theorem dM_sum_56 : decode cM_sum 56 = .ok (.lload 7, 2) := by decide +kernel
theorem dM_sum_58 : decode cM_sum 58 = .ok (.ldc2_w 152, 3) := by decide +kernel
theorem dM_sum_61 : decode cM_sum 61 = .ok (.lcmp, 1) := by decide +kernel
theorem dM_sum_62 : decode cM_sum 62 = .ok (.ifCond .ne 7, 3) := by decide +kernel
theorem dM_sum_65 : decode cM_sum 65 = .ok (.iconst 1, 1) := by decide +kernel
theorem dM_sum_66 : decode cM_sum 66 = .ok (.goto 4, 3) := by decide +kernel
theorem dM_sum_69 : decode cM_sum 69 = .ok (.iconst 0, 1) := by decide +kernel
theorem dM_sum_70 : decode cM_sum 70 = .ok (.istore 10, 2) := by decide +kernel
theorem dM_sum_72 : decode cM_sum 72 = .ok (.aload_n 0, 1) := by decide +kernel
theorem dM_sum_73 : decode cM_sum 73 = .ok (.iload 10, 2) := by decide +kernel
theorem dM_sum_75 : decode cM_sum 75 = .ok (.invokevirtual 133, 3) := by decide +kernel
theorem dM_sum_78 : decode cM_sum 78 = .ok (.iload 10, 2) := by decide +kernel
theorem dM_sum_80 : decode cM_sum 80 = .ok (.ifCond .ne 37, 3) := by decide +kernel
theorem dM_sum_83 : decode cM_sum 83 = .ok (.aload_n 0, 1) := by decide +kernel
theorem dM_sum_84 : decode cM_sum 84 = .ok (.iload 4, 2) := by decide +kernel
theorem dM_sum_86 : decode cM_sum 86 = .ok (.iload_n 2, 1) := by decide +kernel
theorem dM_sum_87 : decode cM_sum 87 = .ok (.iload_n 3, 1) := by decide +kernel
theorem dM_sum_88 : decode cM_sum 88 = .ok (.lload 7, 2) := by decide +kernel
theorem dM_sum_90 : decode cM_sum 90 = .ok (.lload 5, 2) := by decide +kernel
theorem dM_sum_92 : decode cM_sum 92 = .ok (.ldiv, 1) := by decide +kernel
theorem dM_sum_93 : decode cM_sum 93 = .ok (.invokevirtual 154, 3) := by decide +kernel
theorem dM_sum_96 : decode cM_sum 96 = .ok (.iload 4, 2) := by decide +kernel
theorem dM_sum_98 : decode cM_sum 98 = .ok (.iconst 2, 1) := by decide +kernel
theorem dM_sum_99 : decode cM_sum 99 = .ok (.if_icmp .eq 18, 3) := by decide +kernel
theorem dM_sum_102 : decode cM_sum 102 = .ok (.aload_n 0, 1) := by decide +kernel
theorem dM_sum_103 : decode cM_sum 103 = .ok (.iload_n 2, 1) := by decide +kernel
theorem dM_sum_104 : decode cM_sum 104 = .ok (.iconst 1, 1) := by decide +kernel
theorem dM_sum_105 : decode cM_sum 105 = .ok (.iadd, 1) := by decide +kernel
theorem dM_sum_106 : decode cM_sum 106 = .ok (.bipush 16, 2) := by decide +kernel
theorem dM_sum_108 : decode cM_sum 108 = .ok (.irem, 1) := by decide +kernel
theorem dM_sum_109 : decode cM_sum 109 = .ok (.lload 7, 2) := by decide +kernel
theorem dM_sum_111 : decode cM_sum 111 = .ok (.lload 5, 2) := by decide +kernel
theorem dM_sum_113 : decode cM_sum 113 = .ok (.lrem, 1) := by decide +kernel
theorem dM_sum_114 : decode cM_sum 114 = .ok (.invokevirtual 123, 3) := by decide +kernel
theorem dM_sum_117 : decode cM_sum 117 = .ok (.return_, 1) := by decide +kernel
theorem dM_sum_118 : decode cM_sum 118 = .ok (.iload 9, 2) := by decide +kernel
theorem dM_sum_120 : decode cM_sum 120 = .ok (.bipush 36, 2) := by decide +kernel
theorem dM_sum_122 : decode cM_sum 122 = .ok (.if_icmp .ne 16, 3) := by decide +kernel
theorem dM_sum_125 : decode cM_sum 125 = .ok (.aload_n 0, 1) := by decide +kernel
theorem dM_sum_126 : decode cM_sum 126 = .ok (.iload 4, 2) := by decide +kernel
theorem dM_sum_128 : decode cM_sum 128 = .ok (.iload_n 2, 1) := by decide +kernel
theorem dM_sum_129 : decode cM_sum 129 = .ok (.iload_n 3, 1) := by decide +kernel
theorem dM_sum_130 : decode cM_sum 130 = .ok (.lload 7, 2) := by decide +kernel
theorem dM_sum_132 : decode cM_sum 132 = .ok (.lload 5, 2) := by decide +kernel
theorem dM_sum_134 : decode cM_sum 134 = .ok (.invokevirtual 157, 3) := by decide +kernel
theorem dM_sum_137 : decode cM_sum 137 = .ok (.return_, 1) := by decide +kernel
theorem dM_sum_138 : decode cM_sum 138 = .ok (.iload 9, 2) := by decide +kernel
theorem dM_sum_140 : decode cM_sum 140 = .ok (.bipush 46, 2) := by decide +kernel
theorem dM_sum_142 : decode cM_sum 142 = .ok (.if_icmp .ne 11, 3) := by decide +kernel
theorem dM_sum_145 : decode cM_sum 145 = .ok (.lload 7, 2) := by decide +kernel
theorem dM_sum_147 : decode cM_sum 147 = .ok (.lload 5, 2) := by decide +kernel
theorem dM_sum_149 : decode cM_sum 149 = .ok (.ladd, 1) := by decide +kernel
theorem dM_sum_150 : decode cM_sum 150 = .ok (.goto 8, 3) := by decide +kernel
theorem dM_sum_153 : decode cM_sum 153 = .ok (.lload 7, 2) := by decide +kernel
theorem dM_sum_155 : decode cM_sum 155 = .ok (.lload 5, 2) := by decide +kernel
theorem dM_sum_157 : decode cM_sum 157 = .ok (.lsub, 1) := by decide +kernel
theorem dM_sum_158 : decode cM_sum 158 = .ok (.lstore 10, 2) := by decide +kernel
theorem dM_sum_160 : decode cM_sum 160 = .ok (.aload_n 0, 1) := by decide +kernel
theorem dM_sum_161 : decode cM_sum 161 = .ok (.lload 10, 2) := by decide +kernel
theorem dM_sum_163 : decode cM_sum 163 = .ok (.ldc2_w 152, 3) := by decide +kernel
theorem dM_sum_166 : decode cM_sum 166 = .ok (.lcmp, 1) := by decide +kernel
theorem dM_sum_167 : decode cM_sum 167 = .ok (.ifCond .lt 12, 3) := by decide +kernel
theorem dM_sum_170 : decode cM_sum 170 = .ok (.lload 10, 2) := by decide +kernel
theorem dM_sum_172 : decode cM_sum 172 = .ok (.ldc2_w 20, 3) := by decide +kernel
theorem dM_sum_175 : decode cM_sum 175 = .ok (.lcmp, 1) := by decide +kernel
theorem dM_sum_176 : decode cM_sum 176 = .ok (.ifCond .lt 7, 3) := by decide +kernel
theorem dM_sum_179 : decode cM_sum 179 = .ok (.iconst 1, 1) := by decide +kernel
theorem dM_sum_180 : decode cM_sum 180 = .ok (.goto 4, 3) := by decide +kernel
theorem dM_sum_183 : decode cM_sum 183 = .ok (.iconst 0, 1) := by decide +kernel
theorem dM_sum_184 : decode cM_sum 184 = .ok (.invokevirtual 133, 3) := by decide +kernel
theorem dM_sum_187 : decode cM_sum 187 = .ok (.aload_n 0, 1) := by decide +kernel
theorem dM_sum_188 : decode cM_sum 188 = .ok (.iload 4, 2) := by decide +kernel
theorem dM_sum_190 : decode cM_sum 190 = .ok (.iload_n 2, 1) := by decide +kernel
theorem dM_sum_191 : decode cM_sum 191 = .ok (.iload_n 3, 1) := by decide +kernel
theorem dM_sum_192 : decode cM_sum 192 = .ok (.lload 10, 2) := by decide +kernel
theorem dM_sum_194 : decode cM_sum 194 = .ok (.invokevirtual 154, 3) := by decide +kernel
theorem dM_sum_197 : decode cM_sum 197 = .ok (.return_, 1) := by decide +kernel
theorem dM_multiply_0 : decode cM_multiply 0 = .ok (.lload 6, 2) := by decide +kernel
theorem dM_multiply_2 : decode cM_multiply 2 = .ok (.lconst 0, 1) := by decide +kernel
theorem dM_multiply_3 : decode cM_multiply 3 = .ok (.lcmp, 1) := by decide +kernel
theorem dM_multiply_4 : decode cM_multiply 4 = .ok (.ifCond .ge 9, 3) := by decide +kernel
theorem dM_multiply_7 : decode cM_multiply 7 = .ok (.lload 6, 2) := by decide +kernel
theorem dM_multiply_9 : decode cM_multiply 9 = .ok (.lneg, 1) := by decide +kernel
theorem dM_multiply_10 : decode cM_multiply 10 = .ok (.goto 5, 3) := by decide +kernel
theorem dM_multiply_13 : decode cM_multiply 13 = .ok (.lload 6, 2) := by decide +kernel
theorem dM_multiply_15 : decode cM_multiply 15 = .ok (.lstore 8, 2) := by decide +kernel
theorem dM_multiply_17 : decode cM_multiply 17 = .ok (.lload 8, 2) := by decide +kernel
theorem dM_multiply_19 : decode cM_multiply 19 = .ok (.bipush 18, 2) := by decide +kernel
theorem dM_multiply_21 : decode cM_multiply 21 = .ok (.lshr, 1) := by decide +kernel
theorem dM_multiply_22 : decode cM_multiply 22 = .ok (.lstore 10, 2) := by decide +kernel
theorem dM_multiply_24 : decode cM_multiply 24 = .ok (.lload 8, 2) := by decide +kernel
theorem dM_multiply_26 : decode cM_multiply 26 = .ok (.ldc2_w 161, 3) := by decide +kernel
theorem dM_multiply_29 : decode cM_multiply 29 = .ok (.land, 1) := by decide +kernel
theorem dM_multiply_30 : decode cM_multiply 30 = .ok (.lstore 12, 2) := by decide +kernel
theorem dM_multiply_32 : decode cM_multiply 32 = .ok (.lload 4, 2) := by decide +kernel
theorem dM_multiply_34 : decode cM_multiply 34 = .ok (.lload 10, 2) := by decide +kernel
theorem dM_multiply_36 : decode cM_multiply 36 = .ok (.lmul, 1) := by decide +kernel
theorem dM_multiply_37 : decode cM_multiply 37 = .ok (.lstore 14, 2) := by decide +kernel
theorem dM_multiply_39 : decode cM_multiply 39 = .ok (.lload 4, 2) := by decide +kernel
theorem dM_multiply_41 : decode cM_multiply 41 = .ok (.lload 12, 2) := by decide +kernel
theorem dM_multiply_43 : decode cM_multiply 43 = .ok (.lmul, 1) := by decide +kernel
theorem dM_multiply_44 : decode cM_multiply 44 = .ok (.lstore 16, 2) := by decide +kernel
theorem dM_multiply_46 : decode cM_multiply 46 = .ok (.lload 14, 2) := by decide +kernel
theorem dM_multiply_48 : decode cM_multiply 48 = .ok (.lload 16, 2) := by decide +kernel
theorem dM_multiply_50 : decode cM_multiply 50 = .ok (.bipush 18, 2) := by decide +kernel
theorem dM_multiply_52 : decode cM_multiply 52 = .ok (.lshr, 1) := by decide +kernel
theorem dM_multiply_53 : decode cM_multiply 53 = .ok (.ladd, 1) := by decide +kernel
theorem dM_multiply_54 : decode cM_multiply 54 = .ok (.lstore 18, 2) := by decide +kernel
theorem dM_multiply_56 : decode cM_multiply 56 = .ok (.lload 16, 2) := by decide +kernel
theorem dM_multiply_58 : decode cM_multiply 58 = .ok (.ldc2_w 161, 3) := by decide +kernel
theorem dM_multiply_61 : decode cM_multiply 61 = .ok (.land, 1) := by decide +kernel
theorem dM_multiply_62 : decode cM_multiply 62 = .ok (.lstore 20, 2) := by decide +kernel
theorem dM_multiply_64 : decode cM_multiply 64 = .ok (.lload 18, 2) := by decide +kernel
theorem dM_multiply_66 : decode cM_multiply 66 = .ok (.ldc2_w 163, 3) := by decide +kernel
theorem dM_multiply_69 : decode cM_multiply 69 = .ok (.lcmp, 1) := by decide +kernel
theorem dM_multiply_70 : decode cM_multiply 70 = .ok (.ifCond .lt 16, 3) := by decide +kernel
theorem dM_multiply_73 : decode cM_multiply 73 = .ok (.lload 18, 2) := by decide +kernel
theorem dM_multiply_75 : decode cM_multiply 75 = .ok (.ldc2_w 161, 3) := by decide +kernel
theorem dM_multiply_78 : decode cM_multiply 78 = .ok (.lcmp, 1) := by decide +kernel
theorem dM_multiply_79 : decode cM_multiply 79 = .ok (.ifCond .gt 7, 3) := by decide +kernel
theorem dM_multiply_82 : decode cM_multiply 82 = .ok (.iconst 1, 1) := by decide +kernel
theorem dM_multiply_83 : decode cM_multiply 83 = .ok (.goto 4, 3) := by decide +kernel
theorem dM_multiply_86 : decode cM_multiply 86 = .ok (.iconst 0, 1) := by decide +kernel
theorem dM_multiply_87 : decode cM_multiply 87 = .ok (.istore 22, 2) := by decide +kernel
theorem dM_multiply_89 : decode cM_multiply 89 = .ok (.iload 22, 2) := by decide +kernel
theorem dM_multiply_91 : decode cM_multiply 91 = .ok (.ifCond .eq 15, 3) := by decide +kernel
theorem dM_multiply_94 : decode cM_multiply 94 = .ok (.lload 18, 2) := by decide +kernel
theorem dM_multiply_96 : decode cM_multiply 96 = .ok (.ldc2_w 24, 3) := by decide +kernel
theorem dM_multiply_99 : decode cM_multiply 99 = .ok (.lmul, 1) := by decide +kernel
theorem dM_multiply_100 : decode cM_multiply 100 = .ok (.lload 20, 2) := by decide +kernel
theorem dM_multiply_102 : decode cM_multiply 102 = .ok (.ladd, 1) := by decide +kernel
theorem dM_multiply_103 : decode cM_multiply 103 = .ok (.goto 4, 3) := by decide +kernel
theorem dM_multiply_106 : decode cM_multiply 106 = .ok (.lconst 0, 1) := by decide +kernel
theorem dM_multiply_107 : decode cM_multiply 107 = .ok (.lstore 23, 2) := by decide +kernel
theorem dM_multiply_109 : decode cM_multiply 109 = .ok (.lload 18, 2) := by decide +kernel
theorem dM_multiply_111 : decode cM_multiply 111 = .ok (.ldc2_w 161, 3) := by decide +kernel
theorem dM_multiply_114 : decode cM_multiply 114 = .ok (.land, 1) := by decide +kernel
theorem dM_multiply_115 : decode cM_multiply 115 = .ok (.ldc2_w 24, 3) := by decide +kernel
theorem dM_multiply_118 : decode cM_multiply 118 = .ok (.lmul, 1) := by decide +kernel
theorem dM_multiply_119 : decode cM_multiply 119 = .ok (.lload 20, 2) := by decide +kernel
theorem dM_multiply_121 : decode cM_multiply 121 = .ok (.ladd, 1) := by decide +kernel
theorem dM_multiply_122 : decode cM_multiply 122 = .ok (.lstore 25, 2) := by decide +kernel
theorem dM_multiply_124 : decode cM_multiply 124 = .ok (.iload 22, 2) := by decide +kernel
theorem dM_multiply_126 : decode cM_multiply 126 = .ok (.ifCond .eq 51, 3) := by decide +kernel
theorem dM_multiply_129 : decode cM_multiply 129 = .ok (.lload 6, 2) := by decide +kernel
theorem dM_multiply_131 : decode cM_multiply 131 = .ok (.lconst 0, 1) := by decide +kernel
theorem dM_multiply_132 : decode cM_multiply 132 = .ok (.lcmp, 1) := by decide +kernel
theorem dM_multiply_133 : decode cM_multiply 133 = .ok (.ifCond .ge 9, 3) := by decide +kernel
theorem dM_multiply_136 : decode cM_multiply 136 = .ok (.lload 23, 2) := by decide +kernel
theorem dM_multiply_138 : decode cM_multiply 138 = .ok (.lneg, 1) := by decide +kernel
theorem dM_multiply_139 : decode cM_multiply 139 = .ok (.goto 5, 3) := by decide +kernel
theorem dM_multiply_142 : decode cM_multiply 142 = .ok (.lload 23, 2) := by decide +kernel
theorem dM_multiply_144 : decode cM_multiply 144 = .ok (.ldc2_w 152, 3) := by decide +kernel
theorem dM_multiply_147 : decode cM_multiply 147 = .ok (.lcmp, 1) := by decide +kernel
theorem dM_multiply_148 : decode cM_multiply 148 = .ok (.ifCond .lt 29, 3) := by decide +kernel
theorem dM_multiply_151 : decode cM_multiply 151 = .ok (.lload 6, 2) := by decide +kernel
theorem dM_multiply_153 : decode cM_multiply 153 = .ok (.lconst 0, 1) := by decide +kernel
theorem dM_multiply_154 : decode cM_multiply 154 = .ok (.lcmp, 1) := by decide +kernel
theorem dM_multiply_155 : decode cM_multiply 155 = .ok (.ifCond .ge 9, 3) := by decide +kernel
theorem dM_multiply_158 : decode cM_multiply 158 = .ok (.lload 23, 2) := by decide +kernel
theorem dM_multiply_160 : decode cM_multiply 160 = .ok (.lneg, 1) := by decide +kernel
theorem dM_multiply_161 : decode cM_multiply 161 = .ok (.goto 5, 3) := by decide +kernel
theorem dM_multiply_164 : decode cM_multiply 164 = .ok (.lload 23, 2) := by decide +kernel
theorem dM_multiply_166 : decode cM_multiply 166 = .ok (.ldc2_w 20, 3) := by decide +kernel
theorem dM_multiply_169 : decode cM_multiply 169 = .ok (.lcmp, 1) := by decide +kernel
theorem dM_multiply_170 : decode cM_multiply 170 = .ok (.ifCond .ge 7, 3) := by decide +kernel
theorem dM_multiply_173 : decode cM_multiply 173 = .ok (.iconst 1, 1) := by decide +kernel
theorem dM_multiply_174 : decode cM_multiply 174 = .ok (.goto 4, 3) := by decide +kernel
theorem dM_multiply_177 : decode cM_multiply 177 = .ok (.iconst 0, 1) := by decide +kernel
theorem dM_multiply_178 : decode cM_multiply 178 = .ok (.istore 27, 2) := by decide +kernel
theorem dM_multiply_180 : decode cM_multiply 180 = .ok (.aload_n 0, 1) := by decide +kernel
theorem dM_multiply_181 : decode cM_multiply 181 = .ok (.iload 27, 2) := by decide +kernel
theorem dM_multiply_183 : decode cM_multiply 183 = .ok (.ifCond .ne 7, 3) := by decide +kernel
theorem dM_multiply_186 : decode cM_multiply 186 = .ok (.iconst 1, 1) := by decide +kernel
theorem dM_multiply_187 : decode cM_multiply 187 = .ok (.goto 4, 3) := by decide +kernel
theorem dM_multiply_190 : decode cM_multiply 190 = .ok (.iconst 0, 1) := by decide +kernel
theorem dM_multiply_191 : decode cM_multiply 191 = .ok (.invokevirtual 133, 3) := by decide +kernel
theorem dM_multiply_194 : decode cM_multiply 194 = .ok (.aload_n 0, 1) := by decide +kernel
theorem dM_multiply_195 : decode cM_multiply 195 = .ok (.iload_n 1, 1) := by decide +kernel
theorem dM_multiply_196 : decode cM_multiply 196 = .ok (.iload_n 2, 1) := by decide +kernel
theorem dM_multiply_197 : decode cM_multiply 197 = .ok (.iload_n 3, 1) := by decide +kernel
theorem dM_multiply_198 : decode cM_multiply 198 = .ok (.lload 6, 2) := by decide +kernel
theorem dM_multiply_200 : decode cM_multiply 200 = .ok (.lconst 0, 1) := by decide +kernel
theorem dM_multiply_201 : decode cM_multiply 201 = .ok (.lcmp, 1) := by decide +kernel
theorem dM_multiply_202 : decode cM_multiply 202 = .ok (.ifCond .ge 12, 3) := by decide +kernel
theorem dM_multiply_205 : decode cM_multiply 205 = .ok (.ldc2_w 140, 3) := by decide +kernel
theorem dM_multiply_208 : decode cM_multiply 208 = .ok (.lload 25, 2) := by decide +kernel
theorem dM_multiply_210 : decode cM_multiply 210 = .ok (.lsub, 1) := by decide +kernel
theorem dM_multiply_211 : decode cM_multiply 211 = .ok (.goto 5, 3) := by decide +kernel
theorem dM_multiply_214 : decode cM_multiply 214 = .ok (.lload 25, 2) := by decide +kernel
theorem dM_multiply_216 : decode cM_multiply 216 = .ok (.invokevirtual 154, 3) := by decide +kernel
theorem dM_multiply_219 : decode cM_multiply 219 = .ok (.return_, 1) := by decide +kernel
theorem dM_logic_0 : decode cM_logic 0 = .ok (.iload_n 1, 1) := by decide +kernel
theorem dM_logic_1 : decode cM_logic 1 = .ok (.iconst 4, 1) := by decide +kernel
theorem dM_logic_2 : decode cM_logic 2 = .ok (.idiv, 1) := by decide +kernel
theorem dM_logic_3 : decode cM_logic 3 = .ok (.bipush 16, 2) := by decide +kernel
theorem dM_logic_5 : decode cM_logic 5 = .ok (.irem, 1) := by decide +kernel
theorem dM_logic_6 : decode cM_logic 6 = .ok (.istore 4, 2) := by decide +kernel
theorem dM_logic_8 : decode cM_logic 8 = .ok (.aload_n 0, 1) := by decide +kernel
theorem dM_logic_9 : decode cM_logic 9 = .ok (.iload_n 1, 1) := by decide +kernel
theorem dM_logic_10 : decode cM_logic 10 = .ok (.iconst 4, 1) := by decide +kernel
theorem dM_logic_11 : decode cM_logic 11 = .ok (.irem, 1) := by decide +kernel
theorem dM_logic_12 : decode cM_logic 12 = .ok (.iload_n 3, 1) := by decide +kernel
theorem dM_logic_13 : decode cM_logic 13 = .ok (.invokevirtual 130, 3) := by decide +kernel
theorem dM_logic_16 : decode cM_logic 16 = .ok (.lstore 5, 2) := by decide +kernel
theorem dM_logic_18 : decode cM_logic 18 = .ok (.aload_n 0, 1) := by decide +kernel
theorem dM_logic_19 : decode cM_logic 19 = .ok (.getfield 7, 3) := by decide +kernel
theorem dM_logic_22 : decode cM_logic 22 = .ok (.iload_n 2, 1) := by decide +kernel
theorem dM_logic_23 : decode cM_logic 23 = .ok (.laload, 1) := by decide +kernel
theorem dM_logic_24 : decode cM_logic 24 = .ok (.lstore 7, 2) := by decide +kernel
theorem dM_logic_26 : decode cM_logic 26 = .ok (.lconst 0, 1) := by decide +kernel
theorem dM_logic_27 : decode cM_logic 27 = .ok (.lstore 9, 2) := by decide +kernel
theorem dM_logic_29 : decode cM_logic 29 = .ok (.iconst 0, 1) := by decide +kernel
theorem dM_logic_30 : decode cM_logic 30 = .ok (.istore 11, 2) := by decide +kernel
theorem dM_logic_32 : decode cM_logic 32 = .ok (.iload 11, 2) := by decide +kernel
theorem dM_logic_34 : decode cM_logic 34 = .ok (.bipush 36, 2) := by decide +kernel
theorem dM_logic_36 : decode cM_logic 36 = .ok (.if_icmp .ge 46, 3) := by decide +kernel
theorem dM_logic_39 : decode cM_logic 39 = .ok (.iconst 2, 1) := by decide +kernel
theorem dM_logic_40 : decode cM_logic 40 = .ok (.lload 7, 2) := by decide +kernel
theorem dM_logic_42 : decode cM_logic 42 = .ok (.iload 11, 2) := by decide +kernel
theorem dM_logic_44 : decode cM_logic 44 = .ok (.invokestatic 66, 3) := by decide +kernel
theorem dM_logic_47 : decode cM_logic 47 = .ok (.imul, 1) := by decide +kernel
theorem dM_logic_48 : decode cM_logic 48 = .ok (.lload 5, 2) := by decide +kernel
theorem dM_logic_50 : decode cM_logic 50 = .ok (.iload 11, 2) := by decide +kernel
theorem dM_logic_52 : decode cM_logic 52 = .ok (.invokestatic 66, 3) := by decide +kernel
theorem dM_logic_55 : decode cM_logic 55 = .ok (.iadd, 1) := by decide +kernel
theorem dM_logic_56 : decode cM_logic 56 = .ok (.istore 12, 2) := by decide +kernel
theorem dM_logic_58 : decode cM_logic 58 = .ok (.lload 9, 2) := by decide +kernel
theorem dM_logic_60 : decode cM_logic 60 = .ok (.iload 4, 2) := by decide +kernel
theorem dM_logic_62 : decode cM_logic 62 = .ok (.iconst 3, 1) := by decide +kernel
theorem dM_logic_63 : decode cM_logic 63 = .ok (.iload 12, 2) := by decide +kernel
theorem dM_logic_65 : decode cM_logic 65 = .ok (.isub, 1) := by decide +kernel
theorem dM_logic_66 : decode cM_logic 66 = .ok (.ishr, 1) := by decide +kernel
theorem dM_logic_67 : decode cM_logic 67 = .ok (.iconst 1, 1) := by decide +kernel
theorem dM_logic_68 : decode cM_logic 68 = .ok (.iand, 1) := by decide +kernel
theorem dM_logic_69 : decode cM_logic 69 = .ok (.i2l, 1) := by decide +kernel
theorem dM_logic_70 : decode cM_logic 70 = .ok (.iload 11, 2) := by decide +kernel
theorem dM_logic_72 : decode cM_logic 72 = .ok (.lshl, 1) := by decide +kernel
theorem dM_logic_73 : decode cM_logic 73 = .ok (.lor, 1) := by decide +kernel
theorem dM_logic_74 : decode cM_logic 74 = .ok (.lstore 9, 2) := by decide +kernel
theorem dM_logic_76 : decode cM_logic 76 = .ok (.iinc 11 1, 3) := by decide +kernel
theorem dM_logic_79 : decode cM_logic 79 = .ok (.goto (-47), 3) := by decide +kernel
theorem dM_logic_82 : decode cM_logic 82 = .ok (.aload_n 0, 1) := by decide +kernel
theorem dM_logic_83 : decode cM_logic 83 = .ok (.iload_n 1, 1) := by decide +kernel
theorem dM_logic_84 : decode cM_logic 84 = .ok (.iconst 4, 1) := by decide +kernel
theorem dM_logic_85 : decode cM_logic 85 = .ok (.irem, 1) := by decide +kernel
theorem dM_logic_86 : decode cM_logic 86 = .ok (.iload_n 2, 1) := by decide +kernel
theorem dM_logic_87 : decode cM_logic 87 = .ok (.iload_n 3, 1) := by decide +kernel
theorem dM_logic_88 : decode cM_logic 88 = .ok (.lload 9, 2) := by decide +kernel
theorem dM_logic_90 : decode cM_logic 90 = .ok (.invokevirtual 154, 3) := by decide +kernel
theorem dM_logic_93 : decode cM_logic 93 = .ok (.return_, 1) := by decide +kernel
theorem dM_halves_0 : decode cM_halves 0 = .ok (.iload_n 1, 1) := by decide +kernel
theorem dM_halves_1 : decode cM_halves 1 = .ok (.iconst 4, 1) := by decide +kernel
theorem dM_halves_2 : decode cM_halves 2 = .ok (.irem, 1) := by decide +kernel
theorem dM_halves_3 : decode cM_halves 3 = .ok (.istore 4, 2) := by decide +kernel
theorem dM_halves_5 : decode cM_halves 5 = .ok (.iload_n 1, 1) := by decide +kernel
theorem dM_halves_6 : decode cM_halves 6 = .ok (.iconst 4, 1) := by decide +kernel
theorem dM_halves_7 : decode cM_halves 7 = .ok (.idiv, 1) := by decide +kernel
theorem dM_halves_8 : decode cM_halves 8 = .ok (.iconst 2, 1) := by decide +kernel
theorem dM_halves_9 : decode cM_halves 9 = .ok (.irem, 1) := by decide +kernel
theorem dM_halves_10 : decode cM_halves 10 = .ok (.istore 5, 2) := by decide +kernel
theorem dM_halves_12 : decode cM_halves 12 = .ok (.iload_n 1, 1) := by decide +kernel
theorem dM_halves_13 : decode cM_halves 13 = .ok (.bipush 8, 2) := by decide +kernel
theorem dM_halves_15 : decode cM_halves 15 = .ok (.idiv, 1) := by decide +kernel
theorem dM_halves_16 : decode cM_halves 16 = .ok (.iconst 4, 1) := by decide +kernel
theorem dM_halves_17 : decode cM_halves 17 = .ok (.irem, 1) := by decide +kernel
theorem dM_halves_18 : decode cM_halves 18 = .ok (.istore 6, 2) := by decide +kernel
theorem dM_halves_20 : decode cM_halves 20 = .ok (.iload_n 1, 1) := by decide +kernel
theorem dM_halves_21 : decode cM_halves 21 = .ok (.bipush 32, 2) := by decide +kernel
theorem dM_halves_23 : decode cM_halves 23 = .ok (.idiv, 1) := by decide +kernel
theorem dM_halves_24 : decode cM_halves 24 = .ok (.iconst 2, 1) := by decide +kernel
theorem dM_halves_25 : decode cM_halves 25 = .ok (.irem, 1) := by decide +kernel
theorem dM_halves_26 : decode cM_halves 26 = .ok (.istore 7, 2) := by decide +kernel
theorem dM_halves_28 : decode cM_halves 28 = .ok (.iload 4, 2) := by decide +kernel
theorem dM_halves_30 : decode cM_halves 30 = .ok (.iconst 2, 1) := by decide +kernel
theorem dM_halves_31 : decode cM_halves 31 = .ok (.if_icmp .ne 12, 3) := by decide +kernel
theorem dM_halves_34 : decode cM_halves 34 = .ok (.aload_n 0, 1) := by decide +kernel
theorem dM_halves_35 : decode cM_halves 35 = .ok (.getfield 7, 3) := by decide +kernel
theorem dM_halves_38 : decode cM_halves 38 = .ok (.iload_n 2, 1) := by decide +kernel
theorem dM_halves_39 : decode cM_halves 39 = .ok (.laload, 1) := by decide +kernel
theorem dM_halves_40 : decode cM_halves 40 = .ok (.goto 10, 3) := by decide +kernel
theorem dM_halves_43 : decode cM_halves 43 = .ok (.aload_n 0, 1) := by decide +kernel
theorem dM_halves_44 : decode cM_halves 44 = .ok (.iload 4, 2) := by decide +kernel
theorem dM_halves_46 : decode cM_halves 46 = .ok (.iload_n 3, 1) := by decide +kernel
theorem dM_halves_47 : decode cM_halves 47 = .ok (.invokevirtual 130, 3) := by decide +kernel
theorem dM_halves_50 : decode cM_halves 50 = .ok (.lstore 8, 2) := by decide +kernel
theorem dM_halves_52 : decode cM_halves 52 = .ok (.iload 7, 2) := by decide +kernel
theorem dM_halves_54 : decode cM_halves 54 = .ok (.iload 5, 2) := by decide +kernel
theorem dM_halves_56 : decode cM_halves 56 = .ok (.if_icmp .ne 11, 3) := by decide +kernel
theorem dM_halves_59 : decode cM_halves 59 = .ok (.lload 8, 2) := by decide +kernel
theorem dM_halves_61 : decode cM_halves 61 = .ok (.invokestatic 137, 3) := by decide +kernel
theorem dM_halves_64 : decode cM_halves 64 = .ok (.goto 8, 3) := by decide +kernel
theorem dM_halves_67 : decode cM_halves 67 = .ok (.lload 8, 2) := by decide +kernel
theorem dM_halves_69 : decode cM_halves 69 = .ok (.invokestatic 62, 3) := by decide +kernel
theorem dM_halves_72 : decode cM_halves 72 = .ok (.istore 10, 2) := by decide +kernel
theorem dM_halves_74 : decode cM_halves 74 = .ok (.iload 4, 2) := by decide +kernel
theorem dM_halves_76 : decode cM_halves 76 = .ok (.iconst 2, 1) := by decide +kernel
theorem dM_halves_77 : decode cM_halves 77 = .ok (.if_icmp .ge 12, 3) := by decide +kernel
theorem dM_halves_80 : decode cM_halves 80 = .ok (.aload_n 0, 1) := by decide +kernel
theorem dM_halves_81 : decode cM_halves 81 = .ok (.getfield 7, 3) := by decide +kernel
theorem dM_halves_84 : decode cM_halves 84 = .ok (.iload_n 2, 1) := by decide +kernel
theorem dM_halves_85 : decode cM_halves 85 = .ok (.laload, 1) := by decide +kernel
theorem dM_halves_86 : decode cM_halves 86 = .ok (.goto 8, 3) := by decide +kernel
theorem dM_halves_89 : decode cM_halves 89 = .ok (.aload_n 0, 1) := by decide +kernel
theorem dM_halves_90 : decode cM_halves 90 = .ok (.iload_n 3, 1) := by decide +kernel
theorem dM_halves_91 : decode cM_halves 91 = .ok (.invokevirtual 58, 3) := by decide +kernel
theorem dM_halves_94 : decode cM_halves 94 = .ok (.lstore 11, 2) := by decide +kernel
theorem dM_halves_96 : decode cM_halves 96 = .ok (.iload 7, 2) := by decide +kernel
theorem dM_halves_98 : decode cM_halves 98 = .ok (.ifCond .ne 11, 3) := by decide +kernel
theorem dM_halves_101 : decode cM_halves 101 = .ok (.lload 11, 2) := by decide +kernel
theorem dM_halves_103 : decode cM_halves 103 = .ok (.invokestatic 62, 3) := by decide +kernel
theorem dM_halves_106 : decode cM_halves 106 = .ok (.goto 8, 3) := by decide +kernel
theorem dM_halves_109 : decode cM_halves 109 = .ok (.lload 11, 2) := by decide +kernel
theorem dM_halves_111 : decode cM_halves 111 = .ok (.invokestatic 137, 3) := by decide +kernel
theorem dM_halves_114 : decode cM_halves 114 = .ok (.istore 13, 2) := by decide +kernel
theorem dM_halves_116 : decode cM_halves 116 = .ok (.iload 6, 2) := by decide +kernel
theorem dM_halves_118 : decode cM_halves 118 = .ok (.ifCond .ne 8, 3) := by decide +kernel
theorem dM_halves_121 : decode cM_halves 121 = .ok (.iload 13, 2) := by decide +kernel
theorem dM_halves_123 : decode cM_halves 123 = .ok (.goto 37, 3) := by decide +kernel
theorem dM_halves_126 : decode cM_halves 126 = .ok (.iload 6, 2) := by decide +kernel
theorem dM_halves_128 : decode cM_halves 128 = .ok (.iconst 1, 1) := by decide +kernel
theorem dM_halves_129 : decode cM_halves 129 = .ok (.if_icmp .ne 7, 3) := by decide +kernel
theorem dM_halves_132 : decode cM_halves 132 = .ok (.iconst 0, 1) := by decide +kernel
theorem dM_halves_133 : decode cM_halves 133 = .ok (.goto 27, 3) := by decide +kernel
theorem dM_halves_136 : decode cM_halves 136 = .ok (.iload 6, 2) := by decide +kernel
theorem dM_halves_138 : decode cM_halves 138 = .ok (.iconst 2, 1) := by decide +kernel
theorem dM_halves_139 : decode cM_halves 139 = .ok (.if_icmp .ne 8, 3) := by decide +kernel
theorem dM_halves_142 : decode cM_halves 142 = .ok (.ldc 26, 2) := by decide +kernel
theorem dM_halves_144 : decode cM_halves 144 = .ok (.goto 16, 3) := by decide +kernel
theorem dM_halves_147 : decode cM_halves 147 = .ok (.iload 10, 2) := by decide +kernel
theorem dM_halves_149 : decode cM_halves 149 = .ok (.ldc 165, 2) := by decide +kernel
theorem dM_halves_151 : decode cM_halves 151 = .ok (.if_icmp .le 8, 3) := by decide +kernel
theorem dM_halves_154 : decode cM_halves 154 = .ok (.ldc 26, 2) := by decide +kernel
theorem dM_halves_156 : decode cM_halves 156 = .ok (.goto 4, 3) := by decide +kernel
theorem dM_halves_159 : decode cM_halves 159 = .ok (.iconst 0, 1) := by decide +kernel
theorem dM_halves_160 : decode cM_halves 160 = .ok (.istore 14, 2) := by decide +kernel
theorem dM_halves_162 : decode cM_halves 162 = .ok (.aload_n 0, 1) := by decide +kernel
theorem dM_halves_163 : decode cM_halves 163 = .ok (.iload 4, 2) := by decide +kernel
theorem dM_halves_165 : decode cM_halves 165 = .ok (.iload_n 2, 1) := by decide +kernel
theorem dM_halves_166 : decode cM_halves 166 = .ok (.iload_n 3, 1) := by decide +kernel
theorem dM_halves_167 : decode cM_halves 167 = .ok (.iload 7, 2) := by decide +kernel
theorem dM_halves_169 : decode cM_halves 169 = .ok (.ifCond .ne 13, 3) := by decide +kernel
theorem dM_halves_172 : decode cM_halves 172 = .ok (.iload 10, 2) := by decide +kernel
theorem dM_halves_174 : decode cM_halves 174 = .ok (.iload 14, 2) := by decide +kernel
theorem dM_halves_176 : decode cM_halves 176 = .ok (.invokestatic 73, 3) := by decide +kernel
theorem dM_halves_179 : decode cM_halves 179 = .ok (.goto 10, 3) := by decide +kernel
theorem dM_halves_182 : decode cM_halves 182 = .ok (.iload 14, 2) := by decide +kernel
theorem dM_halves_184 : decode cM_halves 184 = .ok (.iload 10, 2) := by decide +kernel
theorem dM_halves_186 : decode cM_halves 186 = .ok (.invokestatic 73, 3) := by decide +kernel
theorem dM_halves_189 : decode cM_halves 189 = .ok (.invokevirtual 142, 3) := by decide +kernel
theorem dM_halves_192 : decode cM_halves 192 = .ok (.return_, 1) := by decide +kernel
theorem dM_compare_0 : decode cM_compare 0 = .ok (.iload_n 1, 1) := by decide +kernel
theorem dM_compare_1 : decode cM_compare 1 = .ok (.bipush 8, 2) := by decide +kernel
theorem dM_compare_3 : decode cM_compare 3 = .ok (.irem, 1) := by decide +kernel
theorem dM_compare_4 : decode cM_compare 4 = .ok (.istore 4, 2) := by decide +kernel
theorem dM_compare_6 : decode cM_compare 6 = .ok (.iload_n 1, 1) := by decide +kernel
theorem dM_compare_7 : decode cM_compare 7 = .ok (.bipush 8, 2) := by decide +kernel
theorem dM_compare_9 : decode cM_compare 9 = .ok (.idiv, 1) := by decide +kernel
theorem dM_compare_10 : decode cM_compare 10 = .ok (.bipush 8, 2) := by decide +kernel
theorem dM_compare_12 : decode cM_compare 12 = .ok (.irem, 1) := by decide +kernel
theorem dM_compare_13 : decode cM_compare 13 = .ok (.istore 5, 2) := by decide +kernel
theorem dM_compare_15 : decode cM_compare 15 = .ok (.iload 5, 2) := by decide +kernel
theorem dM_compare_17 : decode cM_compare 17 = .ok (.iconst 2, 1) := by decide +kernel
theorem dM_compare_18 : decode cM_compare 18 = .ok (.if_icmp .ge 45, 3) := by decide +kernel
theorem dM_compare_21 : decode cM_compare 21 = .ok (.iload 5, 2) := by decide +kernel
theorem dM_compare_23 : decode cM_compare 23 = .ok (.ifCond .ne 8, 3) := by decide +kernel
theorem dM_compare_26 : decode cM_compare 26 = .ok (.iload_n 3, 1) := by decide +kernel
theorem dM_compare_27 : decode cM_compare 27 = .ok (.i2l, 1) := by decide +kernel
theorem dM_compare_28 : decode cM_compare 28 = .ok (.goto 11, 3) := by decide +kernel
theorem dM_compare_31 : decode cM_compare 31 = .ok (.aload_n 0, 1) := by decide +kernel
theorem dM_compare_32 : decode cM_compare 32 = .ok (.iload_n 3, 1) := by decide +kernel
theorem dM_compare_33 : decode cM_compare 33 = .ok (.invokevirtual 58, 3) := by decide +kernel
theorem dM_compare_36 : decode cM_compare 36 = .ok (.invokestatic 146, 3) := by decide +kernel
theorem dM_compare_39 : decode cM_compare 39 = .ok (.lstore 6, 2) := by decide +kernel
theorem dM_compare_41 : decode cM_compare 41 = .ok (.aload_n 0, 1) := by decide +kernel
theorem dM_compare_42 : decode cM_compare 42 = .ok (.iload 4, 2) := by decide +kernel
theorem dM_compare_44 : decode cM_compare 44 = .ok (.aload_n 0, 1) := by decide +kernel
theorem dM_compare_45 : decode cM_compare 45 = .ok (.getfield 7, 3) := by decide +kernel
theorem dM_compare_48 : decode cM_compare 48 = .ok (.iload_n 2, 1) := by decide +kernel
theorem dM_compare_49 : decode cM_compare 49 = .ok (.laload, 1) := by decide +kernel
theorem dM_compare_50 : decode cM_compare 50 = .ok (.invokestatic 146, 3) := by decide +kernel
theorem dM_compare_53 : decode cM_compare 53 = .ok (.lload 6, 2) := by decide +kernel
theorem dM_compare_55 : decode cM_compare 55 = .ok (.lsub, 1) := by decide +kernel
theorem dM_compare_56 : decode cM_compare 56 = .ok (.invokestatic 166, 3) := by decide +kernel
theorem dM_compare_59 : decode cM_compare 59 = .ok (.invokevirtual 169, 3) := by decide +kernel
theorem dM_compare_62 : decode cM_compare 62 = .ok (.return_, 1) := by decide +kernel
theorem dM_compare_63 : decode cM_compare 63 = .ok (.iload 5, 2) := by decide +kernel
theorem dM_compare_65 : decode cM_compare 65 = .ok (.iconst 4, 1) := by decide +kernel
theorem dM_compare_66 : decode cM_compare 66 = .ok (.if_icmp .ge 7, 3) := by decide +kernel
theorem dM_compare_69 : decode cM_compare 69 = .ok (.lconst 0, 1) := by decide +kernel
theorem dM_compare_70 : decode cM_compare 70 = .ok (.goto 17, 3) := by decide +kernel
theorem dM_compare_73 : decode cM_compare 73 = .ok (.iload 5, 2) := by decide +kernel
theorem dM_compare_75 : decode cM_compare 75 = .ok (.bipush 6, 2) := by decide +kernel
theorem dM_compare_77 : decode cM_compare 77 = .ok (.if_icmp .ge 7, 3) := by decide +kernel
theorem dM_compare_80 : decode cM_compare 80 = .ok (.lconst 1, 1) := by decide +kernel
theorem dM_compare_81 : decode cM_compare 81 = .ok (.goto 6, 3) := by decide +kernel
theorem dM_compare_84 : decode cM_compare 84 = .ok (.ldc2_w 150, 3) := by decide +kernel
theorem dM_compare_87 : decode cM_compare 87 = .ok (.lstore 6, 2) := by decide +kernel
theorem dM_compare_89 : decode cM_compare 89 = .ok (.iload 5, 2) := by decide +kernel
theorem dM_compare_91 : decode cM_compare 91 = .ok (.iconst 2, 1) := by decide +kernel
theorem dM_compare_92 : decode cM_compare 92 = .ok (.irem, 1) := by decide +kernel
theorem dM_compare_93 : decode cM_compare 93 = .ok (.ifCond .ne 7, 3) := by decide +kernel
theorem dM_compare_96 : decode cM_compare 96 = .ok (.iconst 1, 1) := by decide +kernel
theorem dM_compare_97 : decode cM_compare 97 = .ok (.goto 4, 3) := by decide +kernel
theorem dM_compare_100 : decode cM_compare 100 = .ok (.iconst 0, 1) := by decide +kernel
theorem dM_compare_101 : decode cM_compare 101 = .ok (.istore 8, 2) := by decide +kernel
theorem dM_compare_103 : decode cM_compare 103 = .ok (.iload 8, 2) := by decide +kernel
theorem dM_compare_105 : decode cM_compare 105 = .ok (.ifCond .eq 12, 3) := by decide +kernel
theorem dM_compare_108 : decode cM_compare 108 = .ok (.aload_n 0, 1) := by decide +kernel
theorem dM_compare_109 : decode cM_compare 109 = .ok (.getfield 7, 3) := by decide +kernel
theorem dM_compare_112 : decode cM_compare 112 = .ok (.iload_n 2, 1) := by decide +kernel
theorem dM_compare_113 : decode cM_compare 113 = .ok (.laload, 1) := by decide +kernel
theorem dM_compare_114 : decode cM_compare 114 = .ok (.goto 8, 3) := by decide +kernel
theorem dM_compare_117 : decode cM_compare 117 = .ok (.aload_n 0, 1) := by decide +kernel
theorem dM_compare_118 : decode cM_compare 118 = .ok (.iload_n 3, 1) := by decide +kernel
theorem dM_compare_119 : decode cM_compare 119 = .ok (.invokevirtual 58, 3) := by decide +kernel
theorem dM_compare_122 : decode cM_compare 122 = .ok (.invokestatic 146, 3) := by decide +kernel
theorem dM_compare_125 : decode cM_compare 125 = .ok (.lload 6, 2) := by decide +kernel
theorem dM_compare_127 : decode cM_compare 127 = .ok (.ladd, 1) := by decide +kernel
theorem dM_compare_128 : decode cM_compare 128 = .ok (.lstore 9, 2) := by decide +kernel
theorem dM_compare_130 : decode cM_compare 130 = .ok (.lload 9, 2) := by decide +kernel
theorem dM_compare_132 : decode cM_compare 132 = .ok (.ldc2_w 20, 3) := by decide +kernel
theorem dM_compare_135 : decode cM_compare 135 = .ok (.lcmp, 1) := by decide +kernel
theorem dM_compare_136 : decode cM_compare 136 = .ok (.ifCond .eq 12, 3) := by decide +kernel
theorem dM_compare_139 : decode cM_compare 139 = .ok (.lload 9, 2) := by decide +kernel
theorem dM_compare_141 : decode cM_compare 141 = .ok (.ldc2_w 152, 3) := by decide +kernel
theorem dM_compare_144 : decode cM_compare 144 = .ok (.lcmp, 1) := by decide +kernel
theorem dM_compare_145 : decode cM_compare 145 = .ok (.ifCond .ge 7, 3) := by decide +kernel
theorem dM_compare_148 : decode cM_compare 148 = .ok (.iconst 1, 1) := by decide +kernel
theorem dM_compare_149 : decode cM_compare 149 = .ok (.goto 4, 3) := by decide +kernel
theorem dM_compare_152 : decode cM_compare 152 = .ok (.iconst 0, 1) := by decide +kernel
theorem dM_compare_153 : decode cM_compare 153 = .ok (.istore 11, 2) := by decide +kernel
theorem dM_compare_155 : decode cM_compare 155 = .ok (.lload 9, 2) := by decide +kernel
theorem dM_compare_157 : decode cM_compare 157 = .ok (.ldc2_w 20, 3) := by decide +kernel
theorem dM_compare_160 : decode cM_compare 160 = .ok (.lcmp, 1) := by decide +kernel
theorem dM_compare_161 : decode cM_compare 161 = .ok (.ifCond .ne 9, 3) := by decide +kernel
theorem dM_compare_164 : decode cM_compare 164 = .ok (.ldc2_w 152, 3) := by decide +kernel
theorem dM_compare_167 : decode cM_compare 167 = .ok (.goto 20, 3) := by decide +kernel
theorem dM_compare_170 : decode cM_compare 170 = .ok (.lload 9, 2) := by decide +kernel
theorem dM_compare_172 : decode cM_compare 172 = .ok (.ldc2_w 152, 3) := by decide +kernel
theorem dM_compare_175 : decode cM_compare 175 = .ok (.lcmp, 1) := by decide +kernel
theorem dM_compare_176 : decode cM_compare 176 = .ok (.ifCond .ge 9, 3) := by decide +kernel
theorem dM_compare_179 : decode cM_compare 179 = .ok (.ldc2_w 172, 3) := by decide +kernel
theorem dM_compare_182 : decode cM_compare 182 = .ok (.goto 5, 3) := by decide +kernel
theorem dM_compare_185 : decode cM_compare 185 = .ok (.lload 9, 2) := by decide +kernel
theorem dM_compare_187 : decode cM_compare 187 = .ok (.lstore 9, 2) := by decide +kernel
theorem dM_compare_189 : decode cM_compare 189 = .ok (.aload_n 0, 1) := by decide +kernel
theorem dM_compare_190 : decode cM_compare 190 = .ok (.iload 11, 2) := by decide +kernel
theorem dM_compare_192 : decode cM_compare 192 = .ok (.invokevirtual 133, 3) := by decide +kernel
theorem dM_compare_195 : decode cM_compare 195 = .ok (.iload 8, 2) := by decide +kernel
theorem dM_compare_197 : decode cM_compare 197 = .ok (.ifCond .eq 30, 3) := by decide +kernel
theorem dM_compare_200 : decode cM_compare 200 = .ok (.lload 6, 2) := by decide +kernel
theorem dM_compare_202 : decode cM_compare 202 = .ok (.lconst 0, 1) := by decide +kernel
theorem dM_compare_203 : decode cM_compare 203 = .ok (.lcmp, 1) := by decide +kernel
theorem dM_compare_204 : decode cM_compare 204 = .ok (.ifCond .eq 10, 3) := by decide +kernel
theorem dM_compare_207 : decode cM_compare 207 = .ok (.aload_n 0, 1) := by decide +kernel
theorem dM_compare_208 : decode cM_compare 208 = .ok (.iload_n 2, 1) := by decide +kernel
theorem dM_compare_209 : decode cM_compare 209 = .ok (.lload 9, 2) := by decide +kernel
theorem dM_compare_211 : decode cM_compare 211 = .ok (.invokevirtual 123, 3) := by decide +kernel
theorem dM_compare_214 : decode cM_compare 214 = .ok (.aload_n 0, 1) := by decide +kernel
theorem dM_compare_215 : decode cM_compare 215 = .ok (.iload 4, 2) := by decide +kernel
theorem dM_compare_217 : decode cM_compare 217 = .ok (.lload 9, 2) := by decide +kernel
theorem dM_compare_219 : decode cM_compare 219 = .ok (.invokestatic 166, 3) := by decide +kernel
theorem dM_compare_222 : decode cM_compare 222 = .ok (.iload_n 3, 1) := by decide +kernel
theorem dM_compare_223 : decode cM_compare 223 = .ok (.invokevirtual 174, 3) := by decide +kernel
theorem dM_compare_226 : decode cM_compare 226 = .ok (.return_, 1) := by decide +kernel
theorem dM_compare_227 : decode cM_compare 227 = .ok (.lload 6, 2) := by decide +kernel
theorem dM_compare_229 : decode cM_compare 229 = .ok (.lconst 0, 1) := by decide +kernel
theorem dM_compare_230 : decode cM_compare 230 = .ok (.lcmp, 1) := by decide +kernel
theorem dM_compare_231 : decode cM_compare 231 = .ok (.ifCond .eq 10, 3) := by decide +kernel
theorem dM_compare_234 : decode cM_compare 234 = .ok (.aload_n 0, 1) := by decide +kernel
theorem dM_compare_235 : decode cM_compare 235 = .ok (.iload_n 3, 1) := by decide +kernel
theorem dM_compare_236 : decode cM_compare 236 = .ok (.lload 9, 2) := by decide +kernel
theorem dM_compare_238 : decode cM_compare 238 = .ok (.invokevirtual 127, 3) := by decide +kernel
theorem dM_compare_241 : decode cM_compare 241 = .ok (.iload_n 2, 1) := by decide +kernel
theorem dM_compare_242 : decode cM_compare 242 = .ok (.ifCond .le 10, 3) := by decide +kernel
theorem dM_compare_245 : decode cM_compare 245 = .ok (.aload_n 0, 1) := by decide +kernel
theorem dM_compare_246 : decode cM_compare 246 = .ok (.iload_n 2, 1) := by decide +kernel
theorem dM_compare_247 : decode cM_compare 247 = .ok (.lload 9, 2) := by decide +kernel
theorem dM_compare_249 : decode cM_compare 249 = .ok (.invokevirtual 123, 3) := by decide +kernel
theorem dM_compare_252 : decode cM_compare 252 = .ok (.aload_n 0, 1) := by decide +kernel
theorem dM_compare_253 : decode cM_compare 253 = .ok (.iload 4, 2) := by decide +kernel
theorem dM_compare_255 : decode cM_compare 255 = .ok (.lload 9, 2) := by decide +kernel
theorem dM_compare_257 : decode cM_compare 257 = .ok (.invokestatic 166, 3) := by decide +kernel
theorem dM_compare_260 : decode cM_compare 260 = .ok (.invokevirtual 169, 3) := by decide +kernel
theorem dM_compare_263 : decode cM_compare 263 = .ok (.return_, 1) := by decide +kernel
theorem dM_test_0 : decode cM_test 0 = .ok (.iload_n 1, 1) := by decide +kernel
theorem dM_test_1 : decode cM_test 1 = .ok (.bipush 8, 2) := by decide +kernel
theorem dM_test_3 : decode cM_test 3 = .ok (.idiv, 1) := by decide +kernel
theorem dM_test_4 : decode cM_test 4 = .ok (.iconst 2, 1) := by decide +kernel
theorem dM_test_5 : decode cM_test 5 = .ok (.irem, 1) := by decide +kernel
theorem dM_test_6 : decode cM_test 6 = .ok (.iconst 1, 1) := by decide +kernel
theorem dM_test_7 : decode cM_test 7 = .ok (.if_icmp .ne 11, 3) := by decide +kernel
theorem dM_test_10 : decode cM_test 10 = .ok (.aload_n 0, 1) := by decide +kernel
theorem dM_test_11 : decode cM_test 11 = .ok (.iload_n 3, 1) := by decide +kernel
theorem dM_test_12 : decode cM_test 12 = .ok (.invokevirtual 58, 3) := by decide +kernel
theorem dM_test_15 : decode cM_test 15 = .ok (.goto 5, 3) := by decide +kernel
theorem dM_test_18 : decode cM_test 18 = .ok (.iload_n 3, 1) := by decide +kernel
theorem dM_test_19 : decode cM_test 19 = .ok (.i2l, 1) := by decide +kernel
theorem dM_test_20 : decode cM_test 20 = .ok (.lstore 4, 2) := by decide +kernel
theorem dM_test_22 : decode cM_test 22 = .ok (.iload_n 1, 1) := by decide +kernel
theorem dM_test_23 : decode cM_test 23 = .ok (.iconst 2, 1) := by decide +kernel
theorem dM_test_24 : decode cM_test 24 = .ok (.irem, 1) := by decide +kernel
theorem dM_test_25 : decode cM_test 25 = .ok (.iconst 1, 1) := by decide +kernel
theorem dM_test_26 : decode cM_test 26 = .ok (.if_icmp .ne 19, 3) := by decide +kernel
theorem dM_test_29 : decode cM_test 29 = .ok (.lload 4, 2) := by decide +kernel
theorem dM_test_31 : decode cM_test 31 = .ok (.invokestatic 62, 3) := by decide +kernel
theorem dM_test_34 : decode cM_test 34 = .ok (.lload 4, 2) := by decide +kernel
theorem dM_test_36 : decode cM_test 36 = .ok (.invokestatic 137, 3) := by decide +kernel
theorem dM_test_39 : decode cM_test 39 = .ok (.invokestatic 73, 3) := by decide +kernel
theorem dM_test_42 : decode cM_test 42 = .ok (.goto 5, 3) := by decide +kernel
theorem dM_test_45 : decode cM_test 45 = .ok (.lload 4, 2) := by decide +kernel
theorem dM_test_47 : decode cM_test 47 = .ok (.lstore 6, 2) := by decide +kernel
theorem dM_test_49 : decode cM_test 49 = .ok (.aload_n 0, 1) := by decide +kernel
theorem dM_test_50 : decode cM_test 50 = .ok (.getfield 7, 3) := by decide +kernel
theorem dM_test_53 : decode cM_test 53 = .ok (.iload_n 2, 1) := by decide +kernel
theorem dM_test_54 : decode cM_test 54 = .ok (.laload, 1) := by decide +kernel
theorem dM_test_55 : decode cM_test 55 = .ok (.lstore 8, 2) := by decide +kernel
theorem dM_test_57 : decode cM_test 57 = .ok (.iload_n 1, 1) := by decide +kernel
theorem dM_test_58 : decode cM_test 58 = .ok (.iconst 2, 1) := by decide +kernel
theorem dM_test_59 : decode cM_test 59 = .ok (.idiv, 1) := by decide +kernel
theorem dM_test_60 : decode cM_test 60 = .ok (.iconst 4, 1) := by decide +kernel
theorem dM_test_61 : decode cM_test 61 = .ok (.irem, 1) := by decide +kernel
theorem dM_test_62 : decode cM_test 62 = .ok (.istore 10, 2) := by decide +kernel
theorem dM_test_64 : decode cM_test 64 = .ok (.iload_n 1, 1) := by decide +kernel
theorem dM_test_65 : decode cM_test 65 = .ok (.bipush 16, 2) := by decide +kernel
theorem dM_test_67 : decode cM_test 67 = .ok (.idiv, 1) := by decide +kernel
theorem dM_test_68 : decode cM_test 68 = .ok (.iconst 4, 1) := by decide +kernel
theorem dM_test_69 : decode cM_test 69 = .ok (.irem, 1) := by decide +kernel
theorem dM_test_70 : decode cM_test 70 = .ok (.istore 11, 2) := by decide +kernel
theorem dM_test_72 : decode cM_test 72 = .ok (.iconst 0, 1) := by decide +kernel
theorem dM_test_73 : decode cM_test 73 = .ok (.istore 12, 2) := by decide +kernel
theorem dM_test_75 : decode cM_test 75 = .ok (.lload 8, 2) := by decide +kernel
theorem dM_test_77 : decode cM_test 77 = .ok (.lstore 13, 2) := by decide +kernel
theorem dM_test_79 : decode cM_test 79 = .ok (.iconst 0, 1) := by decide +kernel
theorem dM_test_80 : decode cM_test 80 = .ok (.istore 15, 2) := by decide +kernel
theorem dM_test_82 : decode cM_test 82 = .ok (.iload 15, 2) := by decide +kernel
theorem dM_test_84 : decode cM_test 84 = .ok (.bipush 36, 2) := by decide +kernel
theorem dM_test_86 : decode cM_test 86 = .ok (.if_icmp .ge 132, 3) := by decide +kernel
theorem dM_test_89 : decode cM_test 89 = .ok (.lload 6, 2) := by decide +kernel
theorem dM_test_91 : decode cM_test 91 = .ok (.iload 15, 2) := by decide +kernel
theorem dM_test_93 : decode cM_test 93 = .ok (.invokestatic 66, 3) := by decide +kernel
theorem dM_test_96 : decode cM_test 96 = .ok (.iconst 1, 1) := by decide +kernel
theorem dM_test_97 : decode cM_test 97 = .ok (.if_icmp .ne 115, 3) := by decide +kernel
theorem dM_test_100 : decode cM_test 100 = .ok (.iload 12, 2) := by decide +kernel
theorem dM_test_102 : decode cM_test 102 = .ok (.ifCond .ne 14, 3) := by decide +kernel
theorem dM_test_105 : decode cM_test 105 = .ok (.lload 8, 2) := by decide +kernel
theorem dM_test_107 : decode cM_test 107 = .ok (.iload 15, 2) := by decide +kernel
theorem dM_test_109 : decode cM_test 109 = .ok (.invokestatic 66, 3) := by decide +kernel
theorem dM_test_112 : decode cM_test 112 = .ok (.iconst 1, 1) := by decide +kernel
theorem dM_test_113 : decode cM_test 113 = .ok (.if_icmp .ne 7, 3) := by decide +kernel
theorem dM_test_116 : decode cM_test 116 = .ok (.iconst 1, 1) := by decide +kernel
theorem dM_test_117 : decode cM_test 117 = .ok (.goto 4, 3) := by decide +kernel
theorem dM_test_120 : decode cM_test 120 = .ok (.iconst 0, 1) := by decide +kernel
theorem dM_test_121 : decode cM_test 121 = .ok (.istore 12, 2) := by decide +kernel
theorem dM_test_123 : decode cM_test 123 = .ok (.iload 11, 2) := by decide +kernel
theorem dM_test_125 : decode cM_test 125 = .ok (.ifCond .ne 22, 3) := by decide +kernel
theorem dM_test_128 : decode cM_test 128 = .ok (.lload 8, 2) := by decide +kernel
theorem dM_test_130 : decode cM_test 130 = .ok (.iload 15, 2) := by decide +kernel
theorem dM_test_132 : decode cM_test 132 = .ok (.invokestatic 66, 3) := by decide +kernel
theorem dM_test_135 : decode cM_test 135 = .ok (.iconst 1, 1) := by decide +kernel
theorem dM_test_136 : decode cM_test 136 = .ok (.if_icmp .ne 7, 3) := by decide +kernel
theorem dM_test_139 : decode cM_test 139 = .ok (.iconst 1, 1) := by decide +kernel
theorem dM_test_140 : decode cM_test 140 = .ok (.goto 42, 3) := by decide +kernel
theorem dM_test_143 : decode cM_test 143 = .ok (.iconst 0, 1) := by decide +kernel
theorem dM_test_144 : decode cM_test 144 = .ok (.goto 38, 3) := by decide +kernel
theorem dM_test_147 : decode cM_test 147 = .ok (.iload 11, 2) := by decide +kernel
theorem dM_test_149 : decode cM_test 149 = .ok (.iconst 1, 1) := by decide +kernel
theorem dM_test_150 : decode cM_test 150 = .ok (.if_icmp .ne 7, 3) := by decide +kernel
theorem dM_test_153 : decode cM_test 153 = .ok (.iconst 0, 1) := by decide +kernel
theorem dM_test_154 : decode cM_test 154 = .ok (.goto 28, 3) := by decide +kernel
theorem dM_test_157 : decode cM_test 157 = .ok (.iload 11, 2) := by decide +kernel
theorem dM_test_159 : decode cM_test 159 = .ok (.iconst 2, 1) := by decide +kernel
theorem dM_test_160 : decode cM_test 160 = .ok (.if_icmp .ne 21, 3) := by decide +kernel
theorem dM_test_163 : decode cM_test 163 = .ok (.lload 8, 2) := by decide +kernel
theorem dM_test_165 : decode cM_test 165 = .ok (.iload 15, 2) := by decide +kernel
theorem dM_test_167 : decode cM_test 167 = .ok (.invokestatic 66, 3) := by decide +kernel
theorem dM_test_170 : decode cM_test 170 = .ok (.ifCond .ne 7, 3) := by decide +kernel
theorem dM_test_173 : decode cM_test 173 = .ok (.iconst 1, 1) := by decide +kernel
theorem dM_test_174 : decode cM_test 174 = .ok (.goto 8, 3) := by decide +kernel
theorem dM_test_177 : decode cM_test 177 = .ok (.iconst 0, 1) := by decide +kernel
theorem dM_test_178 : decode cM_test 178 = .ok (.goto 4, 3) := by decide +kernel
theorem dM_test_181 : decode cM_test 181 = .ok (.iconst 1, 1) := by decide +kernel
theorem dM_test_182 : decode cM_test 182 = .ok (.istore 16, 2) := by decide +kernel
theorem dM_test_184 : decode cM_test 184 = .ok (.iload 16, 2) := by decide +kernel
theorem dM_test_186 : decode cM_test 186 = .ok (.ifCond .eq 13, 3) := by decide +kernel
theorem dM_test_189 : decode cM_test 189 = .ok (.lload 13, 2) := by decide +kernel
theorem dM_test_191 : decode cM_test 191 = .ok (.lconst 1, 1) := by decide +kernel
theorem dM_test_192 : decode cM_test 192 = .ok (.iload 15, 2) := by decide +kernel
theorem dM_test_194 : decode cM_test 194 = .ok (.lshl, 1) := by decide +kernel
theorem dM_test_195 : decode cM_test 195 = .ok (.lor, 1) := by decide +kernel
theorem dM_test_196 : decode cM_test 196 = .ok (.goto 14, 3) := by decide +kernel
theorem dM_test_199 : decode cM_test 199 = .ok (.lload 13, 2) := by decide +kernel
theorem dM_test_201 : decode cM_test 201 = .ok (.lconst 1, 1) := by decide +kernel
theorem dM_test_202 : decode cM_test 202 = .ok (.iload 15, 2) := by decide +kernel
theorem dM_test_204 : decode cM_test 204 = .ok (.lshl, 1) := by decide +kernel
theorem dM_test_205 : decode cM_test 205 = .ok (.ldc2_w 150, 3) := by decide +kernel
theorem dM_test_208 : decode cM_test 208 = .ok (.lxor, 1) := by decide +kernel
theorem dM_test_209 : decode cM_test 209 = .ok (.land, 1) := by decide +kernel
theorem dM_test_210 : decode cM_test 210 = .ok (.lstore 13, 2) := by decide +kernel
theorem dM_test_212 : decode cM_test 212 = .ok (.iinc 15 1, 3) := by decide +kernel
theorem dM_test_215 : decode cM_test 215 = .ok (.goto (-133), 3) := by decide +kernel
theorem dM_test_218 : decode cM_test 218 = .ok (.aload_n 0, 1) := by decide +kernel
theorem dM_test_219 : decode cM_test 219 = .ok (.iload 10, 2) := by decide +kernel
theorem dM_test_221 : decode cM_test 221 = .ok (.iconst 2, 1) := by decide +kernel
theorem dM_test_222 : decode cM_test 222 = .ok (.if_icmp .eq 25, 3) := by decide +kernel
theorem dM_test_225 : decode cM_test 225 = .ok (.iload 10, 2) := by decide +kernel
theorem dM_test_227 : decode cM_test 227 = .ok (.iconst 1, 1) := by decide +kernel
theorem dM_test_228 : decode cM_test 228 = .ok (.if_icmp .ne 8, 3) := by decide +kernel
theorem dM_test_231 : decode cM_test 231 = .ok (.iload 12, 2) := by decide +kernel
theorem dM_test_233 : decode cM_test 233 = .ok (.ifCond .eq 14, 3) := by decide +kernel
theorem dM_test_236 : decode cM_test 236 = .ok (.iload 10, 2) := by decide +kernel
theorem dM_test_238 : decode cM_test 238 = .ok (.iconst 3, 1) := by decide +kernel
theorem dM_test_239 : decode cM_test 239 = .ok (.if_icmp .ne 12, 3) := by decide +kernel
theorem dM_test_242 : decode cM_test 242 = .ok (.iload 12, 2) := by decide +kernel
theorem dM_test_244 : decode cM_test 244 = .ok (.ifCond .eq 7, 3) := by decide +kernel
theorem dM_test_247 : decode cM_test 247 = .ok (.iconst 1, 1) := by decide +kernel
theorem dM_test_248 : decode cM_test 248 = .ok (.goto 4, 3) := by decide +kernel
theorem dM_test_251 : decode cM_test 251 = .ok (.iconst 0, 1) := by decide +kernel
theorem dM_test_252 : decode cM_test 252 = .ok (.invokevirtual 169, 3) := by decide +kernel
theorem dM_test_255 : decode cM_test 255 = .ok (.aload_n 0, 1) := by decide +kernel
theorem dM_test_256 : decode cM_test 256 = .ok (.iload_n 2, 1) := by decide +kernel
theorem dM_test_257 : decode cM_test 257 = .ok (.lload 13, 2) := by decide +kernel
theorem dM_test_259 : decode cM_test 259 = .ok (.invokevirtual 123, 3) := by decide +kernel
theorem dM_test_262 : decode cM_test 262 = .ok (.return_, 1) := by decide +kernel
theorem dM_bytes_0 : decode cM_bytes 0 = .ok (.aload_n 0, 1) := by decide +kernel
theorem dM_bytes_1 : decode cM_bytes 1 = .ok (.iload_n 3, 1) := by decide +kernel
theorem dM_bytes_2 : decode cM_bytes 2 = .ok (.invokevirtual 58, 3) := by decide +kernel
theorem dM_bytes_5 : decode cM_bytes 5 = .ok (.lstore 4, 2) := by decide +kernel
theorem dM_bytes_7 : decode cM_bytes 7 = .ok (.iload_n 1, 1) := by decide +kernel
theorem dM_bytes_8 : decode cM_bytes 8 = .ok (.bipush 91, 2) := by decide +kernel
theorem dM_bytes_10 : decode cM_bytes 10 = .ok (.if_icmp .eq 15, 3) := by decide +kernel
theorem dM_bytes_13 : decode cM_bytes 13 = .ok (.iload_n 1, 1) := by decide +kernel
theorem dM_bytes_14 : decode cM_bytes 14 = .ok (.bipush 92, 2) := by decide +kernel
theorem dM_bytes_16 : decode cM_bytes 16 = .ok (.if_icmp .eq 9, 3) := by decide +kernel
theorem dM_bytes_19 : decode cM_bytes 19 = .ok (.iload_n 1, 1) := by decide +kernel
theorem dM_bytes_20 : decode cM_bytes 20 = .ok (.bipush 94, 2) := by decide +kernel
theorem dM_bytes_22 : decode cM_bytes 22 = .ok (.if_icmp .ne 111, 3) := by decide +kernel
theorem dM_bytes_25 : decode cM_bytes 25 = .ok (.lload 4, 2) := by decide +kernel
theorem dM_bytes_27 : decode cM_bytes 27 = .ok (.bipush 30, 2) := by decide +kernel
theorem dM_bytes_29 : decode cM_bytes 29 = .ok (.lshr, 1) := by decide +kernel
theorem dM_bytes_30 : decode cM_bytes 30 = .ok (.l2i, 1) := by decide +kernel
theorem dM_bytes_31 : decode cM_bytes 31 = .ok (.istore 6, 2) := by decide +kernel
theorem dM_bytes_33 : decode cM_bytes 33 = .ok (.lload 4, 2) := by decide +kernel
theorem dM_bytes_35 : decode cM_bytes 35 = .ok (.bipush 24, 2) := by decide +kernel
theorem dM_bytes_37 : decode cM_bytes 37 = .ok (.lshr, 1) := by decide +kernel
theorem dM_bytes_38 : decode cM_bytes 38 = .ok (.ldc2_w 178, 3) := by decide +kernel
theorem dM_bytes_41 : decode cM_bytes 41 = .ok (.land, 1) := by decide +kernel
theorem dM_bytes_42 : decode cM_bytes 42 = .ok (.l2i, 1) := by decide +kernel
theorem dM_bytes_43 : decode cM_bytes 43 = .ok (.istore 7, 2) := by decide +kernel
theorem dM_bytes_45 : decode cM_bytes 45 = .ok (.lload 4, 2) := by decide +kernel
theorem dM_bytes_47 : decode cM_bytes 47 = .ok (.bipush 18, 2) := by decide +kernel
theorem dM_bytes_49 : decode cM_bytes 49 = .ok (.lshr, 1) := by decide +kernel
theorem dM_bytes_50 : decode cM_bytes 50 = .ok (.ldc2_w 180, 3) := by decide +kernel
theorem dM_bytes_53 : decode cM_bytes 53 = .ok (.land, 1) := by decide +kernel
theorem dM_bytes_54 : decode cM_bytes 54 = .ok (.lstore 8, 2) := by decide +kernel
theorem dM_bytes_56 : decode cM_bytes 56 = .ok (.lload 4, 2) := by decide +kernel
theorem dM_bytes_58 : decode cM_bytes 58 = .ok (.ldc2_w 161, 3) := by decide +kernel
theorem dM_bytes_61 : decode cM_bytes 61 = .ok (.land, 1) := by decide +kernel
theorem dM_bytes_62 : decode cM_bytes 62 = .ok (.lstore 10, 2) := by decide +kernel
theorem dM_bytes_64 : decode cM_bytes 64 = .ok (.iload 6, 2) := by decide +kernel
theorem dM_bytes_66 : decode cM_bytes 66 = .ok (.iload 7, 2) := by decide +kernel
theorem dM_bytes_68 : decode cM_bytes 68 = .ok (.if_icmp .lt 13, 3) := by decide +kernel
theorem dM_bytes_71 : decode cM_bytes 71 = .ok (.iload 6, 2) := by decide +kernel
theorem dM_bytes_73 : decode cM_bytes 73 = .ok (.iload 7, 2) := by decide +kernel
theorem dM_bytes_75 : decode cM_bytes 75 = .ok (.isub, 1) := by decide +kernel
theorem dM_bytes_76 : decode cM_bytes 76 = .ok (.istore 6, 2) := by decide +kernel
theorem dM_bytes_78 : decode cM_bytes 78 = .ok (.goto 31, 3) := by decide +kernel
theorem dM_bytes_81 : decode cM_bytes 81 = .ok (.lload 10, 2) := by decide +kernel
theorem dM_bytes_83 : decode cM_bytes 83 = .ok (.lconst 1, 1) := by decide +kernel
theorem dM_bytes_84 : decode cM_bytes 84 = .ok (.ladd, 1) := by decide +kernel
theorem dM_bytes_85 : decode cM_bytes 85 = .ok (.ldc2_w 24, 3) := by decide +kernel
theorem dM_bytes_88 : decode cM_bytes 88 = .ok (.lrem, 1) := by decide +kernel
theorem dM_bytes_89 : decode cM_bytes 89 = .ok (.lstore 10, 2) := by decide +kernel
theorem dM_bytes_91 : decode cM_bytes 91 = .ok (.iload 7, 2) := by decide +kernel
theorem dM_bytes_93 : decode cM_bytes 93 = .ok (.bipush 36, 2) := by decide +kernel
theorem dM_bytes_95 : decode cM_bytes 95 = .ok (.if_icmp .le 7, 3) := by decide +kernel
theorem dM_bytes_98 : decode cM_bytes 98 = .ok (.iconst 0, 1) := by decide +kernel
theorem dM_bytes_99 : decode cM_bytes 99 = .ok (.goto 8, 3) := by decide +kernel
theorem dM_bytes_102 : decode cM_bytes 102 = .ok (.bipush 36, 2) := by decide +kernel
theorem dM_bytes_104 : decode cM_bytes 104 = .ok (.iload 7, 2) := by decide +kernel
theorem dM_bytes_106 : decode cM_bytes 106 = .ok (.isub, 1) := by decide +kernel
theorem dM_bytes_107 : decode cM_bytes 107 = .ok (.istore 6, 2) := by decide +kernel
theorem dM_bytes_109 : decode cM_bytes 109 = .ok (.iload 6, 2) := by decide +kernel
theorem dM_bytes_111 : decode cM_bytes 111 = .ok (.i2l, 1) := by decide +kernel
theorem dM_bytes_112 : decode cM_bytes 112 = .ok (.bipush 30, 2) := by decide +kernel
theorem dM_bytes_114 : decode cM_bytes 114 = .ok (.lshl, 1) := by decide +kernel
theorem dM_bytes_115 : decode cM_bytes 115 = .ok (.lload 8, 2) := by decide +kernel
theorem dM_bytes_117 : decode cM_bytes 117 = .ok (.bipush 18, 2) := by decide +kernel
theorem dM_bytes_119 : decode cM_bytes 119 = .ok (.lshl, 1) := by decide +kernel
theorem dM_bytes_120 : decode cM_bytes 120 = .ok (.ladd, 1) := by decide +kernel
theorem dM_bytes_121 : decode cM_bytes 121 = .ok (.lload 10, 2) := by decide +kernel
theorem dM_bytes_123 : decode cM_bytes 123 = .ok (.ladd, 1) := by decide +kernel
theorem dM_bytes_124 : decode cM_bytes 124 = .ok (.lstore 4, 2) := by decide +kernel
theorem dM_bytes_126 : decode cM_bytes 126 = .ok (.aload_n 0, 1) := by decide +kernel
theorem dM_bytes_127 : decode cM_bytes 127 = .ok (.iload_n 3, 1) := by decide +kernel
theorem dM_bytes_128 : decode cM_bytes 128 = .ok (.lload 4, 2) := by decide +kernel
theorem dM_bytes_130 : decode cM_bytes 130 = .ok (.invokevirtual 127, 3) := by decide +kernel
theorem dM_bytes_133 : decode cM_bytes 133 = .ok (.iload_n 1, 1) := by decide +kernel
theorem dM_bytes_134 : decode cM_bytes 134 = .ok (.bipush 91, 2) := by decide +kernel
theorem dM_bytes_136 : decode cM_bytes 136 = .ok (.if_icmp .ne 4, 3) := by decide +kernel
theorem dM_bytes_139 : decode cM_bytes 139 = .ok (.return_, 1) := by decide +kernel
theorem dM_bytes_140 : decode cM_bytes 140 = .ok (.aload_n 0, 1) := by decide +kernel
theorem dM_bytes_141 : decode cM_bytes 141 = .ok (.lload 4, 2) := by decide +kernel
theorem dM_bytes_143 : decode cM_bytes 143 = .ok (.invokevirtual 84, 3) := by decide +kernel
theorem dM_bytes_146 : decode cM_bytes 146 = .ok (.istore 6, 2) := by decide +kernel
theorem dM_bytes_148 : decode cM_bytes 148 = .ok (.lload 4, 2) := by decide +kernel
theorem dM_bytes_150 : decode cM_bytes 150 = .ok (.bipush 30, 2) := by decide +kernel
theorem dM_bytes_152 : decode cM_bytes 152 = .ok (.lshr, 1) := by decide +kernel
theorem dM_bytes_153 : decode cM_bytes 153 = .ok (.ldc2_w 178, 3) := by decide +kernel
theorem dM_bytes_156 : decode cM_bytes 156 = .ok (.land, 1) := by decide +kernel
theorem dM_bytes_157 : decode cM_bytes 157 = .ok (.l2i, 1) := by decide +kernel
theorem dM_bytes_158 : decode cM_bytes 158 = .ok (.istore 7, 2) := by decide +kernel
theorem dM_bytes_160 : decode cM_bytes 160 = .ok (.lload 4, 2) := by decide +kernel
theorem dM_bytes_162 : decode cM_bytes 162 = .ok (.bipush 24, 2) := by decide +kernel
theorem dM_bytes_164 : decode cM_bytes 164 = .ok (.lshr, 1) := by decide +kernel
theorem dM_bytes_165 : decode cM_bytes 165 = .ok (.ldc2_w 178, 3) := by decide +kernel
theorem dM_bytes_168 : decode cM_bytes 168 = .ok (.land, 1) := by decide +kernel
theorem dM_bytes_169 : decode cM_bytes 169 = .ok (.l2i, 1) := by decide +kernel
theorem dM_bytes_170 : decode cM_bytes 170 = .ok (.istore 8, 2) := by decide +kernel
theorem dM_bytes_172 : decode cM_bytes 172 = .ok (.aload_n 0, 1) := by decide +kernel
theorem dM_bytes_173 : decode cM_bytes 173 = .ok (.iload 6, 2) := by decide +kernel
theorem dM_bytes_175 : decode cM_bytes 175 = .ok (.invokevirtual 58, 3) := by decide +kernel
theorem dM_bytes_178 : decode cM_bytes 178 = .ok (.lstore 9, 2) := by decide +kernel
theorem dM_bytes_180 : decode cM_bytes 180 = .ok (.lconst 0, 1) := by decide +kernel
theorem dM_bytes_181 : decode cM_bytes 181 = .ok (.lstore 11, 2) := by decide +kernel
theorem dM_bytes_183 : decode cM_bytes 183 = .ok (.iconst 0, 1) := by decide +kernel
theorem dM_bytes_184 : decode cM_bytes 184 = .ok (.istore 13, 2) := by decide +kernel
theorem dM_bytes_186 : decode cM_bytes 186 = .ok (.iload 13, 2) := by decide +kernel
theorem dM_bytes_188 : decode cM_bytes 188 = .ok (.iload 8, 2) := by decide +kernel
theorem dM_bytes_190 : decode cM_bytes 190 = .ok (.if_icmp .ge 84, 3) := by decide +kernel
theorem dM_bytes_193 : decode cM_bytes 193 = .ok (.iload 13, 2) := by decide +kernel
theorem dM_bytes_195 : decode cM_bytes 195 = .ok (.bipush 36, 2) := by decide +kernel
theorem dM_bytes_197 : decode cM_bytes 197 = .ok (.if_icmp .ge 77, 3) := by decide +kernel
theorem dM_bytes_200 : decode cM_bytes 200 = .ok (.iload 7, 2) := by decide +kernel
theorem dM_bytes_202 : decode cM_bytes 202 = .ok (.iload 13, 2) := by decide +kernel
theorem dM_bytes_204 : decode cM_bytes 204 = .ok (.iadd, 1) := by decide +kernel
theorem dM_bytes_205 : decode cM_bytes 205 = .ok (.bipush 36, 2) := by decide +kernel
theorem dM_bytes_207 : decode cM_bytes 207 = .ok (.if_icmp .ge 61, 3) := by decide +kernel
theorem dM_bytes_210 : decode cM_bytes 210 = .ok (.lload 11, 2) := by decide +kernel
theorem dM_bytes_212 : decode cM_bytes 212 = .ok (.lload 9, 2) := by decide +kernel
theorem dM_bytes_214 : decode cM_bytes 214 = .ok (.iload 7, 2) := by decide +kernel
theorem dM_bytes_216 : decode cM_bytes 216 = .ok (.iload 13, 2) := by decide +kernel
theorem dM_bytes_218 : decode cM_bytes 218 = .ok (.iadd, 1) := by decide +kernel
theorem dM_bytes_219 : decode cM_bytes 219 = .ok (.invokestatic 66, 3) := by decide +kernel
theorem dM_bytes_222 : decode cM_bytes 222 = .ok (.i2l, 1) := by decide +kernel
theorem dM_bytes_223 : decode cM_bytes 223 = .ok (.iload 13, 2) := by decide +kernel
theorem dM_bytes_225 : decode cM_bytes 225 = .ok (.lshl, 1) := by decide +kernel
theorem dM_bytes_226 : decode cM_bytes 226 = .ok (.lor, 1) := by decide +kernel
theorem dM_bytes_227 : decode cM_bytes 227 = .ok (.lstore 11, 2) := by decide +kernel
theorem dM_bytes_229 : decode cM_bytes 229 = .ok (.aload_n 0, 1) := by decide +kernel
theorem dM_bytes_230 : decode cM_bytes 230 = .ok (.getfield 7, 3) := by decide +kernel
theorem dM_bytes_233 : decode cM_bytes 233 = .ok (.iload_n 2, 1) := by decide +kernel
theorem dM_bytes_234 : decode cM_bytes 234 = .ok (.laload, 1) := by decide +kernel
theorem dM_bytes_235 : decode cM_bytes 235 = .ok (.iload 13, 2) := by decide +kernel
theorem dM_bytes_237 : decode cM_bytes 237 = .ok (.invokestatic 66, 3) := by decide +kernel
theorem dM_bytes_240 : decode cM_bytes 240 = .ok (.i2l, 1) := by decide +kernel
theorem dM_bytes_241 : decode cM_bytes 241 = .ok (.lstore 14, 2) := by decide +kernel
theorem dM_bytes_243 : decode cM_bytes 243 = .ok (.lload 9, 2) := by decide +kernel
theorem dM_bytes_245 : decode cM_bytes 245 = .ok (.lconst 1, 1) := by decide +kernel
theorem dM_bytes_246 : decode cM_bytes 246 = .ok (.iload 7, 2) := by decide +kernel
theorem dM_bytes_248 : decode cM_bytes 248 = .ok (.iload 13, 2) := by decide +kernel
theorem dM_bytes_250 : decode cM_bytes 250 = .ok (.iadd, 1) := by decide +kernel
theorem dM_bytes_251 : decode cM_bytes 251 = .ok (.lshl, 1) := by decide +kernel
theorem dM_bytes_252 : decode cM_bytes 252 = .ok (.ldc2_w 150, 3) := by decide +kernel
theorem dM_bytes_255 : decode cM_bytes 255 = .ok (.lxor, 1) := by decide +kernel
theorem dM_bytes_256 : decode cM_bytes 256 = .ok (.land, 1) := by decide +kernel
theorem dM_bytes_257 : decode cM_bytes 257 = .ok (.lload 14, 2) := by decide +kernel
theorem dM_bytes_259 : decode cM_bytes 259 = .ok (.iload 7, 2) := by decide +kernel
theorem dM_bytes_261 : decode cM_bytes 261 = .ok (.iload 13, 2) := by decide +kernel
theorem dM_bytes_263 : decode cM_bytes 263 = .ok (.iadd, 1) := by decide +kernel
theorem dM_bytes_264 : decode cM_bytes 264 = .ok (.lshl, 1) := by decide +kernel
theorem dM_bytes_265 : decode cM_bytes 265 = .ok (.lor, 1) := by decide +kernel
theorem dM_bytes_266 : decode cM_bytes 266 = .ok (.lstore 9, 2) := by decide +kernel
theorem dM_bytes_268 : decode cM_bytes 268 = .ok (.iinc 13 1, 3) := by decide +kernel
theorem dM_bytes_271 : decode cM_bytes 271 = .ok (.goto (-85), 3) := by decide +kernel
theorem dM_bytes_274 : decode cM_bytes 274 = .ok (.iload_n 1, 1) := by decide +kernel
theorem dM_bytes_275 : decode cM_bytes 275 = .ok (.bipush 94, 2) := by decide +kernel
theorem dM_bytes_277 : decode cM_bytes 277 = .ok (.if_icmp .ge 13, 3) := by decide +kernel
theorem dM_bytes_280 : decode cM_bytes 280 = .ok (.aload_n 0, 1) := by decide +kernel
theorem dM_bytes_281 : decode cM_bytes 281 = .ok (.iload_n 2, 1) := by decide +kernel
theorem dM_bytes_282 : decode cM_bytes 282 = .ok (.lload 11, 2) := by decide +kernel
theorem dM_bytes_284 : decode cM_bytes 284 = .ok (.invokevirtual 123, 3) := by decide +kernel
theorem dM_bytes_287 : decode cM_bytes 287 = .ok (.goto 11, 3) := by decide +kernel
theorem dM_bytes_290 : decode cM_bytes 290 = .ok (.aload_n 0, 1) := by decide +kernel
theorem dM_bytes_291 : decode cM_bytes 291 = .ok (.iload 6, 2) := by decide +kernel
theorem dM_bytes_293 : decode cM_bytes 293 = .ok (.lload 9, 2) := by decide +kernel
theorem dM_bytes_295 : decode cM_bytes 295 = .ok (.invokevirtual 127, 3) := by decide +kernel
theorem dM_bytes_298 : decode cM_bytes 298 = .ok (.return_, 1) := by decide +kernel
theorem dM_flow_0 : decode cM_flow 0 = .ok (.aload_n 0, 1) := by decide +kernel
theorem dM_flow_1 : decode cM_flow 1 = .ok (.getfield 7, 3) := by decide +kernel
theorem dM_flow_4 : decode cM_flow 4 = .ok (.iload_n 2, 1) := by decide +kernel
theorem dM_flow_5 : decode cM_flow 5 = .ok (.laload, 1) := by decide +kernel
theorem dM_flow_6 : decode cM_flow 6 = .ok (.lstore 4, 2) := by decide +kernel
theorem dM_flow_8 : decode cM_flow 8 = .ok (.iload_n 1, 1) := by decide +kernel
theorem dM_flow_9 : decode cM_flow 9 = .ok (.tableswitch 270 160 181 #[103, 103, 103, 270, 270, 270, 270, 270, 111, 133, 149, 149, 215, 270, 270, 270, 222, 222, 230, 230, 238, 255], 103) := by decide +kernel
theorem dM_flow_112 : decode cM_flow 112 = .ok (.aload_n 0, 1) := by decide +kernel
theorem dM_flow_113 : decode cM_flow 113 = .ok (.iload_n 1, 1) := by decide +kernel
theorem dM_flow_114 : decode cM_flow 114 = .ok (.iload_n 2, 1) := by decide +kernel
theorem dM_flow_115 : decode cM_flow 115 = .ok (.iload_n 3, 1) := by decide +kernel
theorem dM_flow_116 : decode cM_flow 116 = .ok (.invokevirtual 182, 3) := by decide +kernel
theorem dM_flow_119 : decode cM_flow 119 = .ok (.return_, 1) := by decide +kernel
theorem dM_flow_120 : decode cM_flow 120 = .ok (.aload_n 0, 1) := by decide +kernel
theorem dM_flow_121 : decode cM_flow 121 = .ok (.iload_n 3, 1) := by decide +kernel
theorem dM_flow_122 : decode cM_flow 122 = .ok (.invokevirtual 58, 3) := by decide +kernel
theorem dM_flow_125 : decode cM_flow 125 = .ok (.lstore 6, 2) := by decide +kernel
theorem dM_flow_127 : decode cM_flow 127 = .ok (.aload_n 0, 1) := by decide +kernel
theorem dM_flow_128 : decode cM_flow 128 = .ok (.iload_n 3, 1) := by decide +kernel
theorem dM_flow_129 : decode cM_flow 129 = .ok (.lload 4, 2) := by decide +kernel
theorem dM_flow_131 : decode cM_flow 131 = .ok (.invokevirtual 127, 3) := by decide +kernel
theorem dM_flow_134 : decode cM_flow 134 = .ok (.aload_n 0, 1) := by decide +kernel
theorem dM_flow_135 : decode cM_flow 135 = .ok (.iload_n 2, 1) := by decide +kernel
theorem dM_flow_136 : decode cM_flow 136 = .ok (.lload 6, 2) := by decide +kernel
theorem dM_flow_138 : decode cM_flow 138 = .ok (.invokevirtual 123, 3) := by decide +kernel
theorem dM_flow_141 : decode cM_flow 141 = .ok (.return_, 1) := by decide +kernel
theorem dM_flow_142 : decode cM_flow 142 = .ok (.aload_n 0, 1) := by decide +kernel
theorem dM_flow_143 : decode cM_flow 143 = .ok (.lload 4, 2) := by decide +kernel
theorem dM_flow_145 : decode cM_flow 145 = .ok (.invokestatic 137, 3) := by decide +kernel
theorem dM_flow_148 : decode cM_flow 148 = .ok (.lload 4, 2) := by decide +kernel
theorem dM_flow_150 : decode cM_flow 150 = .ok (.invokestatic 62, 3) := by decide +kernel
theorem dM_flow_153 : decode cM_flow 153 = .ok (.iload_n 3, 1) := by decide +kernel
theorem dM_flow_154 : decode cM_flow 154 = .ok (.invokevirtual 185, 3) := by decide +kernel
theorem dM_flow_157 : decode cM_flow 157 = .ok (.return_, 1) := by decide +kernel
theorem dM_flow_158 : decode cM_flow 158 = .ok (.aload_n 0, 1) := by decide +kernel
theorem dM_flow_159 : decode cM_flow 159 = .ok (.iload_n 2, 1) := by decide +kernel
theorem dM_flow_160 : decode cM_flow 160 = .ok (.lload 4, 2) := by decide +kernel
theorem dM_flow_162 : decode cM_flow 162 = .ok (.invokestatic 137, 3) := by decide +kernel
theorem dM_flow_165 : decode cM_flow 165 = .ok (.iconst 1, 1) := by decide +kernel
theorem dM_flow_166 : decode cM_flow 166 = .ok (.iadd, 1) := by decide +kernel
theorem dM_flow_167 : decode cM_flow 167 = .ok (.lload 4, 2) := by decide +kernel
theorem dM_flow_169 : decode cM_flow 169 = .ok (.invokestatic 62, 3) := by decide +kernel
theorem dM_flow_172 : decode cM_flow 172 = .ok (.iconst 1, 1) := by decide +kernel
theorem dM_flow_173 : decode cM_flow 173 = .ok (.iadd, 1) := by decide +kernel
theorem dM_flow_174 : decode cM_flow 174 = .ok (.invokestatic 73, 3) := by decide +kernel
theorem dM_flow_177 : decode cM_flow 177 = .ok (.invokevirtual 123, 3) := by decide +kernel
theorem dM_flow_180 : decode cM_flow 180 = .ok (.aload_n 0, 1) := by decide +kernel
theorem dM_flow_181 : decode cM_flow 181 = .ok (.aload_n 0, 1) := by decide +kernel
theorem dM_flow_182 : decode cM_flow 182 = .ok (.getfield 7, 3) := by decide +kernel
theorem dM_flow_185 : decode cM_flow 185 = .ok (.iload_n 2, 1) := by decide +kernel
theorem dM_flow_186 : decode cM_flow 186 = .ok (.laload, 1) := by decide +kernel
theorem dM_flow_187 : decode cM_flow 187 = .ok (.ldc2_w 20, 3) := by decide +kernel
theorem dM_flow_190 : decode cM_flow 190 = .ok (.lcmp, 1) := by decide +kernel
theorem dM_flow_191 : decode cM_flow 191 = .ok (.ifCond .lt 7, 3) := by decide +kernel
theorem dM_flow_194 : decode cM_flow 194 = .ok (.iconst 1, 1) := by decide +kernel
theorem dM_flow_195 : decode cM_flow 195 = .ok (.goto 4, 3) := by decide +kernel
theorem dM_flow_198 : decode cM_flow 198 = .ok (.iconst 0, 1) := by decide +kernel
theorem dM_flow_199 : decode cM_flow 199 = .ok (.iload_n 1, 1) := by decide +kernel
theorem dM_flow_200 : decode cM_flow 200 = .ok (.sipush 171, 3) := by decide +kernel
theorem dM_flow_203 : decode cM_flow 203 = .ok (.if_icmp .ne 7, 3) := by decide +kernel
theorem dM_flow_206 : decode cM_flow 206 = .ok (.iconst 1, 1) := by decide +kernel
theorem dM_flow_207 : decode cM_flow 207 = .ok (.goto 4, 3) := by decide +kernel
theorem dM_flow_210 : decode cM_flow 210 = .ok (.iconst 0, 1) := by decide +kernel
theorem dM_flow_211 : decode cM_flow 211 = .ok (.if_icmp .ne 7, 3) := by decide +kernel
theorem dM_flow_214 : decode cM_flow 214 = .ok (.iconst 1, 1) := by decide +kernel
theorem dM_flow_215 : decode cM_flow 215 = .ok (.goto 4, 3) := by decide +kernel
theorem dM_flow_218 : decode cM_flow 218 = .ok (.iconst 0, 1) := by decide +kernel
theorem dM_flow_219 : decode cM_flow 219 = .ok (.iload_n 3, 1) := by decide +kernel
theorem dM_flow_220 : decode cM_flow 220 = .ok (.invokevirtual 174, 3) := by decide +kernel
theorem dM_flow_223 : decode cM_flow 223 = .ok (.return_, 1) := by decide +kernel
theorem dM_flow_224 : decode cM_flow 224 = .ok (.aload_n 0, 1) := by decide +kernel
theorem dM_flow_225 : decode cM_flow 225 = .ok (.iload_n 2, 1) := by decide +kernel
theorem dM_flow_226 : decode cM_flow 226 = .ok (.iload_n 3, 1) := by decide +kernel
theorem dM_flow_227 : decode cM_flow 227 = .ok (.invokevirtual 188, 3) := by decide +kernel
theorem dM_flow_230 : decode cM_flow 230 = .ok (.return_, 1) := by decide +kernel
theorem dM_flow_231 : decode cM_flow 231 = .ok (.aload_n 0, 1) := by decide +kernel
theorem dM_flow_232 : decode cM_flow 232 = .ok (.iload_n 1, 1) := by decide +kernel
theorem dM_flow_233 : decode cM_flow 233 = .ok (.iload_n 2, 1) := by decide +kernel
theorem dM_flow_234 : decode cM_flow 234 = .ok (.iload_n 3, 1) := by decide +kernel
theorem dM_flow_235 : decode cM_flow 235 = .ok (.invokevirtual 192, 3) := by decide +kernel
theorem dM_flow_238 : decode cM_flow 238 = .ok (.return_, 1) := by decide +kernel
theorem dM_flow_239 : decode cM_flow 239 = .ok (.aload_n 0, 1) := by decide +kernel
theorem dM_flow_240 : decode cM_flow 240 = .ok (.iload_n 1, 1) := by decide +kernel
theorem dM_flow_241 : decode cM_flow 241 = .ok (.iload_n 2, 1) := by decide +kernel
theorem dM_flow_242 : decode cM_flow 242 = .ok (.iload_n 3, 1) := by decide +kernel
theorem dM_flow_243 : decode cM_flow 243 = .ok (.invokevirtual 195, 3) := by decide +kernel
theorem dM_flow_246 : decode cM_flow 246 = .ok (.return_, 1) := by decide +kernel
theorem dM_flow_247 : decode cM_flow 247 = .ok (.aload_n 0, 1) := by decide +kernel
theorem dM_flow_248 : decode cM_flow 248 = .ok (.iload_n 3, 1) := by decide +kernel
theorem dM_flow_249 : decode cM_flow 249 = .ok (.aload_n 0, 1) := by decide +kernel
theorem dM_flow_250 : decode cM_flow 250 = .ok (.invokevirtual 198, 3) := by decide +kernel
theorem dM_flow_253 : decode cM_flow 253 = .ok (.invokevirtual 127, 3) := by decide +kernel
theorem dM_flow_256 : decode cM_flow 256 = .ok (.aload_n 0, 1) := by decide +kernel
theorem dM_flow_257 : decode cM_flow 257 = .ok (.iload_n 3, 1) := by decide +kernel
theorem dM_flow_258 : decode cM_flow 258 = .ok (.iconst 1, 1) := by decide +kernel
theorem dM_flow_259 : decode cM_flow 259 = .ok (.iadd, 1) := by decide +kernel
theorem dM_flow_260 : decode cM_flow 260 = .ok (.invokevirtual 50, 3) := by decide +kernel
theorem dM_flow_263 : decode cM_flow 263 = .ok (.return_, 1) := by decide +kernel
theorem dM_flow_264 : decode cM_flow 264 = .ok (.aload_n 0, 1) := by decide +kernel
theorem dM_flow_265 : decode cM_flow 265 = .ok (.iload_n 2, 1) := by decide +kernel
theorem dM_flow_266 : decode cM_flow 266 = .ok (.aload_n 0, 1) := by decide +kernel
theorem dM_flow_267 : decode cM_flow 267 = .ok (.invokevirtual 198, 3) := by decide +kernel
theorem dM_flow_270 : decode cM_flow 270 = .ok (.invokevirtual 123, 3) := by decide +kernel
theorem dM_flow_273 : decode cM_flow 273 = .ok (.aload_n 0, 1) := by decide +kernel
theorem dM_flow_274 : decode cM_flow 274 = .ok (.iload_n 3, 1) := by decide +kernel
theorem dM_flow_275 : decode cM_flow 275 = .ok (.invokevirtual 50, 3) := by decide +kernel
theorem dM_flow_278 : decode cM_flow 278 = .ok (.return_, 1) := by decide +kernel
theorem dM_flow_279 : decode cM_flow 279 = .ok (.aload_n 0, 1) := by decide +kernel
theorem dM_flow_280 : decode cM_flow 280 = .ok (.iconst 2, 1) := by decide +kernel
theorem dM_flow_281 : decode cM_flow 281 = .ok (.invokevirtual 36, 3) := by decide +kernel
theorem dM_flow_284 : decode cM_flow 284 = .ok (.return_, 1) := by decide +kernel
theorem dM_jump_0 : decode cM_jump 0 = .ok (.iload_n 1, 1) := by decide +kernel
theorem dM_jump_1 : decode cM_jump 1 = .ok (.iconst 1, 1) := by decide +kernel
theorem dM_jump_2 : decode cM_jump 2 = .ok (.if_icmp .le 21, 3) := by decide +kernel
theorem dM_jump_5 : decode cM_jump 5 = .ok (.iload_n 1, 1) := by decide +kernel
theorem dM_jump_6 : decode cM_jump 6 = .ok (.iconst 4, 1) := by decide +kernel
theorem dM_jump_7 : decode cM_jump 7 = .ok (.if_icmp .ne 10, 3) := by decide +kernel
theorem dM_jump_10 : decode cM_jump 10 = .ok (.aload_n 0, 1) := by decide +kernel
theorem dM_jump_11 : decode cM_jump 11 = .ok (.getfield 31, 3) := by decide +kernel
theorem dM_jump_14 : decode cM_jump 14 = .ok (.ifCond .eq 9, 3) := by decide +kernel
theorem dM_jump_17 : decode cM_jump 17 = .ok (.aload_n 0, 1) := by decide +kernel
theorem dM_jump_18 : decode cM_jump 18 = .ok (.iconst 2, 1) := by decide +kernel
theorem dM_jump_19 : decode cM_jump 19 = .ok (.invokevirtual 36, 3) := by decide +kernel
theorem dM_jump_22 : decode cM_jump 22 = .ok (.return_, 1) := by decide +kernel
theorem dM_jump_23 : decode cM_jump 23 = .ok (.aload_n 0, 1) := by decide +kernel
theorem dM_jump_24 : decode cM_jump 24 = .ok (.iload_n 2, 1) := by decide +kernel
theorem dM_jump_25 : decode cM_jump 25 = .ok (.invokevirtual 50, 3) := by decide +kernel
theorem dM_jump_28 : decode cM_jump 28 = .ok (.aload_n 0, 1) := by decide +kernel
theorem dM_jump_29 : decode cM_jump 29 = .ok (.aload_n 0, 1) := by decide +kernel
theorem dM_jump_30 : decode cM_jump 30 = .ok (.getfield 31, 3) := by decide +kernel
theorem dM_jump_33 : decode cM_jump 33 = .ok (.ifCond .ne 8, 3) := by decide +kernel
theorem dM_jump_36 : decode cM_jump 36 = .ok (.iload_n 1, 1) := by decide +kernel
theorem dM_jump_37 : decode cM_jump 37 = .ok (.iconst 1, 1) := by decide +kernel
theorem dM_jump_38 : decode cM_jump 38 = .ok (.if_icmp .ne 7, 3) := by decide +kernel
theorem dM_jump_41 : decode cM_jump 41 = .ok (.iconst 1, 1) := by decide +kernel
theorem dM_jump_42 : decode cM_jump 42 = .ok (.goto 4, 3) := by decide +kernel
theorem dM_jump_45 : decode cM_jump 45 = .ok (.iconst 0, 1) := by decide +kernel
theorem dM_jump_46 : decode cM_jump 46 = .ok (.putfield 31, 3) := by decide +kernel
theorem dM_jump_49 : decode cM_jump 49 = .ok (.aload_n 0, 1) := by decide +kernel
theorem dM_jump_50 : decode cM_jump 50 = .ok (.iload_n 1, 1) := by decide +kernel
theorem dM_jump_51 : decode cM_jump 51 = .ok (.iconst 4, 1) := by decide +kernel
theorem dM_jump_52 : decode cM_jump 52 = .ok (.if_icmp .ne 7, 3) := by decide +kernel
theorem dM_jump_55 : decode cM_jump 55 = .ok (.iconst 1, 1) := by decide +kernel
theorem dM_jump_56 : decode cM_jump 56 = .ok (.goto 4, 3) := by decide +kernel
theorem dM_jump_59 : decode cM_jump 59 = .ok (.iconst 0, 1) := by decide +kernel
theorem dM_jump_60 : decode cM_jump 60 = .ok (.putfield 202, 3) := by decide +kernel
theorem dM_jump_63 : decode cM_jump 63 = .ok (.return_, 1) := by decide +kernel
theorem dM_shift_0 : decode cM_shift 0 = .ok (.iload_n 3, 1) := by decide +kernel
theorem dM_shift_1 : decode cM_shift 1 = .ok (.sipush 256, 3) := by decide +kernel
theorem dM_shift_4 : decode cM_shift 4 = .ok (.irem, 1) := by decide +kernel
theorem dM_shift_5 : decode cM_shift 5 = .ok (.iload_n 3, 1) := by decide +kernel
theorem dM_shift_6 : decode cM_shift 6 = .ok (.ldc 165, 2) := by decide +kernel
theorem dM_shift_8 : decode cM_shift 8 = .ok (.if_icmp .le 9, 3) := by decide +kernel
theorem dM_shift_11 : decode cM_shift 11 = .ok (.sipush 256, 3) := by decide +kernel
theorem dM_shift_14 : decode cM_shift 14 = .ok (.goto 4, 3) := by decide +kernel
theorem dM_shift_17 : decode cM_shift 17 = .ok (.iconst 0, 1) := by decide +kernel
theorem dM_shift_18 : decode cM_shift 18 = .ok (.isub, 1) := by decide +kernel
theorem dM_shift_19 : decode cM_shift 19 = .ok (.istore 4, 2) := by decide +kernel
theorem dM_shift_21 : decode cM_shift 21 = .ok (.aload_n 0, 1) := by decide +kernel
theorem dM_shift_22 : decode cM_shift 22 = .ok (.getfield 7, 3) := by decide +kernel
theorem dM_shift_25 : decode cM_shift 25 = .ok (.iload_n 2, 1) := by decide +kernel
theorem dM_shift_26 : decode cM_shift 26 = .ok (.laload, 1) := by decide +kernel
theorem dM_shift_27 : decode cM_shift 27 = .ok (.lstore 5, 2) := by decide +kernel
theorem dM_shift_29 : decode cM_shift 29 = .ok (.lconst 0, 1) := by decide +kernel
theorem dM_shift_30 : decode cM_shift 30 = .ok (.lstore 7, 2) := by decide +kernel
theorem dM_shift_32 : decode cM_shift 32 = .ok (.lload 5, 2) := by decide +kernel
theorem dM_shift_34 : decode cM_shift 34 = .ok (.bipush 35, 2) := by decide +kernel
theorem dM_shift_36 : decode cM_shift 36 = .ok (.invokestatic 66, 3) := by decide +kernel
theorem dM_shift_39 : decode cM_shift 39 = .ok (.istore 9, 2) := by decide +kernel
theorem dM_shift_41 : decode cM_shift 41 = .ok (.iconst 0, 1) := by decide +kernel
theorem dM_shift_42 : decode cM_shift 42 = .ok (.istore 10, 2) := by decide +kernel
theorem dM_shift_44 : decode cM_shift 44 = .ok (.iload 10, 2) := by decide +kernel
theorem dM_shift_46 : decode cM_shift 46 = .ok (.bipush 36, 2) := by decide +kernel
theorem dM_shift_48 : decode cM_shift 48 = .ok (.if_icmp .ge 130, 3) := by decide +kernel
theorem dM_shift_51 : decode cM_shift 51 = .ok (.iload 10, 2) := by decide +kernel
theorem dM_shift_53 : decode cM_shift 53 = .ok (.iload 4, 2) := by decide +kernel
theorem dM_shift_55 : decode cM_shift 55 = .ok (.isub, 1) := by decide +kernel
theorem dM_shift_56 : decode cM_shift 56 = .ok (.istore 11, 2) := by decide +kernel
theorem dM_shift_58 : decode cM_shift 58 = .ok (.iconst 0, 1) := by decide +kernel
theorem dM_shift_59 : decode cM_shift 59 = .ok (.istore 12, 2) := by decide +kernel
theorem dM_shift_61 : decode cM_shift 61 = .ok (.iload_n 1, 1) := by decide +kernel
theorem dM_shift_62 : decode cM_shift 62 = .ok (.sipush 161, 3) := by decide +kernel
theorem dM_shift_65 : decode cM_shift 65 = .ok (.if_icmp .ne 24, 3) := by decide +kernel
theorem dM_shift_68 : decode cM_shift 68 = .ok (.lload 5, 2) := by decide +kernel
theorem dM_shift_70 : decode cM_shift 70 = .ok (.iload 11, 2) := by decide +kernel
theorem dM_shift_72 : decode cM_shift 72 = .ok (.bipush 36, 2) := by decide +kernel
theorem dM_shift_74 : decode cM_shift 74 = .ok (.irem, 1) := by decide +kernel
theorem dM_shift_75 : decode cM_shift 75 = .ok (.bipush 36, 2) := by decide +kernel
theorem dM_shift_77 : decode cM_shift 77 = .ok (.iadd, 1) := by decide +kernel
theorem dM_shift_78 : decode cM_shift 78 = .ok (.bipush 36, 2) := by decide +kernel
theorem dM_shift_80 : decode cM_shift 80 = .ok (.irem, 1) := by decide +kernel
theorem dM_shift_81 : decode cM_shift 81 = .ok (.invokestatic 66, 3) := by decide +kernel
theorem dM_shift_84 : decode cM_shift 84 = .ok (.istore 12, 2) := by decide +kernel
theorem dM_shift_86 : decode cM_shift 86 = .ok (.goto 75, 3) := by decide +kernel
theorem dM_shift_89 : decode cM_shift 89 = .ok (.iload_n 1, 1) := by decide +kernel
theorem dM_shift_90 : decode cM_shift 90 = .ok (.sipush 162, 3) := by decide +kernel
theorem dM_shift_93 : decode cM_shift 93 = .ok (.if_icmp .ne 31, 3) := by decide +kernel
theorem dM_shift_96 : decode cM_shift 96 = .ok (.iload 11, 2) := by decide +kernel
theorem dM_shift_98 : decode cM_shift 98 = .ok (.ifCond .lt 10, 3) := by decide +kernel
theorem dM_shift_101 : decode cM_shift 101 = .ok (.iload 11, 2) := by decide +kernel
theorem dM_shift_103 : decode cM_shift 103 = .ok (.bipush 35, 2) := by decide +kernel
theorem dM_shift_105 : decode cM_shift 105 = .ok (.if_icmp .le 7, 3) := by decide +kernel
theorem dM_shift_108 : decode cM_shift 108 = .ok (.iconst 0, 1) := by decide +kernel
theorem dM_shift_109 : decode cM_shift 109 = .ok (.goto 10, 3) := by decide +kernel
theorem dM_shift_112 : decode cM_shift 112 = .ok (.lload 5, 2) := by decide +kernel
theorem dM_shift_114 : decode cM_shift 114 = .ok (.iload 11, 2) := by decide +kernel
theorem dM_shift_116 : decode cM_shift 116 = .ok (.invokestatic 66, 3) := by decide +kernel
theorem dM_shift_119 : decode cM_shift 119 = .ok (.istore 12, 2) := by decide +kernel
theorem dM_shift_121 : decode cM_shift 121 = .ok (.goto 40, 3) := by decide +kernel
theorem dM_shift_124 : decode cM_shift 124 = .ok (.iload 10, 2) := by decide +kernel
theorem dM_shift_126 : decode cM_shift 126 = .ok (.bipush 35, 2) := by decide +kernel
theorem dM_shift_128 : decode cM_shift 128 = .ok (.if_icmp .eq 10, 3) := by decide +kernel
theorem dM_shift_131 : decode cM_shift 131 = .ok (.iload 11, 2) := by decide +kernel
theorem dM_shift_133 : decode cM_shift 133 = .ok (.bipush 34, 2) := by decide +kernel
theorem dM_shift_135 : decode cM_shift 135 = .ok (.if_icmp .le 8, 3) := by decide +kernel
theorem dM_shift_138 : decode cM_shift 138 = .ok (.iload 9, 2) := by decide +kernel
theorem dM_shift_140 : decode cM_shift 140 = .ok (.goto 19, 3) := by decide +kernel
theorem dM_shift_143 : decode cM_shift 143 = .ok (.iload 11, 2) := by decide +kernel
theorem dM_shift_145 : decode cM_shift 145 = .ok (.ifCond .ge 7, 3) := by decide +kernel
theorem dM_shift_148 : decode cM_shift 148 = .ok (.iconst 0, 1) := by decide +kernel
theorem dM_shift_149 : decode cM_shift 149 = .ok (.goto 10, 3) := by decide +kernel
theorem dM_shift_152 : decode cM_shift 152 = .ok (.lload 5, 2) := by decide +kernel
theorem dM_shift_154 : decode cM_shift 154 = .ok (.iload 11, 2) := by decide +kernel
theorem dM_shift_156 : decode cM_shift 156 = .ok (.invokestatic 66, 3) := by decide +kernel
theorem dM_shift_159 : decode cM_shift 159 = .ok (.istore 12, 2) := by decide +kernel
theorem dM_shift_161 : decode cM_shift 161 = .ok (.lload 7, 2) := by decide +kernel
theorem dM_shift_163 : decode cM_shift 163 = .ok (.iload 12, 2) := by decide +kernel
theorem dM_shift_165 : decode cM_shift 165 = .ok (.i2l, 1) := by decide +kernel
theorem dM_shift_166 : decode cM_shift 166 = .ok (.iload 10, 2) := by decide +kernel
theorem dM_shift_168 : decode cM_shift 168 = .ok (.lshl, 1) := by decide +kernel
theorem dM_shift_169 : decode cM_shift 169 = .ok (.lor, 1) := by decide +kernel
theorem dM_shift_170 : decode cM_shift 170 = .ok (.lstore 7, 2) := by decide +kernel
theorem dM_shift_172 : decode cM_shift 172 = .ok (.iinc 10 1, 3) := by decide +kernel
theorem dM_shift_175 : decode cM_shift 175 = .ok (.goto (-131), 3) := by decide +kernel
theorem dM_shift_178 : decode cM_shift 178 = .ok (.iload_n 1, 1) := by decide +kernel
theorem dM_shift_179 : decode cM_shift 179 = .ok (.sipush 160, 3) := by decide +kernel
theorem dM_shift_182 : decode cM_shift 182 = .ok (.if_icmp .ne 20, 3) := by decide +kernel
theorem dM_shift_185 : decode cM_shift 185 = .ok (.iload 4, 2) := by decide +kernel
theorem dM_shift_187 : decode cM_shift 187 = .ok (.bipush 35, 2) := by decide +kernel
theorem dM_shift_189 : decode cM_shift 189 = .ok (.if_icmp .le 13, 3) := by decide +kernel
theorem dM_shift_192 : decode cM_shift 192 = .ok (.iload 9, 2) := by decide +kernel
theorem dM_shift_194 : decode cM_shift 194 = .ok (.iconst 1, 1) := by decide +kernel
theorem dM_shift_195 : decode cM_shift 195 = .ok (.if_icmp .ne 7, 3) := by decide +kernel
theorem dM_shift_198 : decode cM_shift 198 = .ok (.iconst 1, 1) := by decide +kernel
theorem dM_shift_199 : decode cM_shift 199 = .ok (.goto 4, 3) := by decide +kernel
theorem dM_shift_202 : decode cM_shift 202 = .ok (.iconst 0, 1) := by decide +kernel
theorem dM_shift_203 : decode cM_shift 203 = .ok (.istore 10, 2) := by decide +kernel
theorem dM_shift_205 : decode cM_shift 205 = .ok (.bipush 34, 2) := by decide +kernel
theorem dM_shift_207 : decode cM_shift 207 = .ok (.istore 11, 2) := by decide +kernel
theorem dM_shift_209 : decode cM_shift 209 = .ok (.iload 11, 2) := by decide +kernel
theorem dM_shift_211 : decode cM_shift 211 = .ok (.bipush 34, 2) := by decide +kernel
theorem dM_shift_213 : decode cM_shift 213 = .ok (.iload 4, 2) := by decide +kernel
theorem dM_shift_215 : decode cM_shift 215 = .ok (.isub, 1) := by decide +kernel
theorem dM_shift_216 : decode cM_shift 216 = .ok (.if_icmp .le 45, 3) := by decide +kernel
theorem dM_shift_219 : decode cM_shift 219 = .ok (.iload 11, 2) := by decide +kernel
theorem dM_shift_221 : decode cM_shift 221 = .ok (.ifCond .lt 40, 3) := by decide +kernel
theorem dM_shift_224 : decode cM_shift 224 = .ok (.iload_n 1, 1) := by decide +kernel
theorem dM_shift_225 : decode cM_shift 225 = .ok (.sipush 160, 3) := by decide +kernel
theorem dM_shift_228 : decode cM_shift 228 = .ok (.if_icmp .ne 33, 3) := by decide +kernel
theorem dM_shift_231 : decode cM_shift 231 = .ok (.iload 10, 2) := by decide +kernel
theorem dM_shift_233 : decode cM_shift 233 = .ok (.ifCond .ne 15, 3) := by decide +kernel
theorem dM_shift_236 : decode cM_shift 236 = .ok (.lload 5, 2) := by decide +kernel
theorem dM_shift_238 : decode cM_shift 238 = .ok (.iload 11, 2) := by decide +kernel
theorem dM_shift_240 : decode cM_shift 240 = .ok (.invokestatic 66, 3) := by decide +kernel
theorem dM_shift_243 : decode cM_shift 243 = .ok (.iload 9, 2) := by decide +kernel
theorem dM_shift_245 : decode cM_shift 245 = .ok (.if_icmp .eq 7, 3) := by decide +kernel
theorem dM_shift_248 : decode cM_shift 248 = .ok (.iconst 1, 1) := by decide +kernel
theorem dM_shift_249 : decode cM_shift 249 = .ok (.goto 4, 3) := by decide +kernel
theorem dM_shift_252 : decode cM_shift 252 = .ok (.iconst 0, 1) := by decide +kernel
theorem dM_shift_253 : decode cM_shift 253 = .ok (.istore 10, 2) := by decide +kernel
theorem dM_shift_255 : decode cM_shift 255 = .ok (.iinc 11 (-1), 3) := by decide +kernel
theorem dM_shift_258 : decode cM_shift 258 = .ok (.goto (-49), 3) := by decide +kernel
theorem dM_shift_261 : decode cM_shift 261 = .ok (.aload_n 0, 1) := by decide +kernel
theorem dM_shift_262 : decode cM_shift 262 = .ok (.iload 10, 2) := by decide +kernel
theorem dM_shift_264 : decode cM_shift 264 = .ok (.invokevirtual 133, 3) := by decide +kernel
theorem dM_shift_267 : decode cM_shift 267 = .ok (.aload_n 0, 1) := by decide +kernel
theorem dM_shift_268 : decode cM_shift 268 = .ok (.iload_n 2, 1) := by decide +kernel
theorem dM_shift_269 : decode cM_shift 269 = .ok (.lload 7, 2) := by decide +kernel
theorem dM_shift_271 : decode cM_shift 271 = .ok (.invokevirtual 123, 3) := by decide +kernel
theorem dM_shift_274 : decode cM_shift 274 = .ok (.return_, 1) := by decide +kernel
theorem dM_block_0 : decode cM_block 0 = .ok (.iload_n 1, 1) := by decide +kernel
theorem dM_block_1 : decode cM_block 1 = .ok (.istore 4, 2) := by decide +kernel
theorem dM_block_3 : decode cM_block 3 = .ok (.iload_n 2, 1) := by decide +kernel
theorem dM_block_4 : decode cM_block 4 = .ok (.istore 5, 2) := by decide +kernel
theorem dM_block_6 : decode cM_block 6 = .ok (.aload_n 0, 1) := by decide +kernel
theorem dM_block_7 : decode cM_block 7 = .ok (.iload 5, 2) := by decide +kernel
theorem dM_block_9 : decode cM_block 9 = .ok (.aload_n 0, 1) := by decide +kernel
theorem dM_block_10 : decode cM_block 10 = .ok (.iload 4, 2) := by decide +kernel
theorem dM_block_12 : decode cM_block 12 = .ok (.invokevirtual 58, 3) := by decide +kernel
theorem dM_block_15 : decode cM_block 15 = .ok (.invokevirtual 127, 3) := by decide +kernel
theorem dM_block_18 : decode cM_block 18 = .ok (.iload 5, 2) := by decide +kernel
theorem dM_block_20 : decode cM_block 20 = .ok (.iload_n 3, 1) := by decide +kernel
theorem dM_block_21 : decode cM_block 21 = .ok (.if_icmp .ge 37, 3) := by decide +kernel
theorem dM_block_24 : decode cM_block 24 = .ok (.aload_n 0, 1) := by decide +kernel
theorem dM_block_25 : decode cM_block 25 = .ok (.getfield 27, 3) := by decide +kernel
theorem dM_block_28 : decode cM_block 28 = .ok (.ifCond .ne 30, 3) := by decide +kernel
theorem dM_block_31 : decode cM_block 31 = .ok (.iload 4, 2) := by decide +kernel
theorem dM_block_33 : decode cM_block 33 = .ok (.iconst 1, 1) := by decide +kernel
theorem dM_block_34 : decode cM_block 34 = .ok (.iadd, 1) := by decide +kernel
theorem dM_block_35 : decode cM_block 35 = .ok (.ldc 26, 2) := by decide +kernel
theorem dM_block_37 : decode cM_block 37 = .ok (.iand, 1) := by decide +kernel
theorem dM_block_38 : decode cM_block 38 = .ok (.istore 4, 2) := by decide +kernel
theorem dM_block_40 : decode cM_block 40 = .ok (.iinc 5 1, 3) := by decide +kernel
theorem dM_block_43 : decode cM_block 43 = .ok (.aload_n 0, 1) := by decide +kernel
theorem dM_block_44 : decode cM_block 44 = .ok (.iload 5, 2) := by decide +kernel
theorem dM_block_46 : decode cM_block 46 = .ok (.aload_n 0, 1) := by decide +kernel
theorem dM_block_47 : decode cM_block 47 = .ok (.iload 4, 2) := by decide +kernel
theorem dM_block_49 : decode cM_block 49 = .ok (.invokevirtual 58, 3) := by decide +kernel
theorem dM_block_52 : decode cM_block 52 = .ok (.invokevirtual 127, 3) := by decide +kernel
theorem dM_block_55 : decode cM_block 55 = .ok (.goto (-37), 3) := by decide +kernel
theorem dM_block_58 : decode cM_block 58 = .ok (.return_, 1) := by decide +kernel
theorem dM_push_0 : decode cM_push 0 = .ok (.aload_n 0, 1) := by decide +kernel
theorem dM_push_1 : decode cM_push 1 = .ok (.iload_n 2, 1) := by decide +kernel
theorem dM_push_2 : decode cM_push 2 = .ok (.aload_n 0, 1) := by decide +kernel
theorem dM_push_3 : decode cM_push 3 = .ok (.getfield 7, 3) := by decide +kernel
theorem dM_push_6 : decode cM_push 6 = .ok (.iload_n 2, 1) := by decide +kernel
theorem dM_push_7 : decode cM_push 7 = .ok (.laload, 1) := by decide +kernel
theorem dM_push_8 : decode cM_push 8 = .ok (.invokestatic 137, 3) := by decide +kernel
theorem dM_push_11 : decode cM_push 11 = .ok (.iconst 1, 1) := by decide +kernel
theorem dM_push_12 : decode cM_push 12 = .ok (.iadd, 1) := by decide +kernel
theorem dM_push_13 : decode cM_push 13 = .ok (.aload_n 0, 1) := by decide +kernel
theorem dM_push_14 : decode cM_push 14 = .ok (.getfield 7, 3) := by decide +kernel
theorem dM_push_17 : decode cM_push 17 = .ok (.iload_n 2, 1) := by decide +kernel
theorem dM_push_18 : decode cM_push 18 = .ok (.laload, 1) := by decide +kernel
theorem dM_push_19 : decode cM_push 19 = .ok (.invokestatic 62, 3) := by decide +kernel
theorem dM_push_22 : decode cM_push 22 = .ok (.iconst 1, 1) := by decide +kernel
theorem dM_push_23 : decode cM_push 23 = .ok (.iadd, 1) := by decide +kernel
theorem dM_push_24 : decode cM_push 24 = .ok (.invokestatic 73, 3) := by decide +kernel
theorem dM_push_27 : decode cM_push 27 = .ok (.invokevirtual 123, 3) := by decide +kernel
theorem dM_push_30 : decode cM_push 30 = .ok (.aload_n 0, 1) := by decide +kernel
theorem dM_push_31 : decode cM_push 31 = .ok (.aload_n 0, 1) := by decide +kernel
theorem dM_push_32 : decode cM_push 32 = .ok (.getfield 7, 3) := by decide +kernel
theorem dM_push_35 : decode cM_push 35 = .ok (.iload_n 2, 1) := by decide +kernel
theorem dM_push_36 : decode cM_push 36 = .ok (.laload, 1) := by decide +kernel
theorem dM_push_37 : decode cM_push 37 = .ok (.invokestatic 137, 3) := by decide +kernel
theorem dM_push_40 : decode cM_push 40 = .ok (.ifCond .ne 7, 3) := by decide +kernel
theorem dM_push_43 : decode cM_push 43 = .ok (.iconst 1, 1) := by decide +kernel
theorem dM_push_44 : decode cM_push 44 = .ok (.goto 4, 3) := by decide +kernel
theorem dM_push_47 : decode cM_push 47 = .ok (.iconst 0, 1) := by decide +kernel
theorem dM_push_48 : decode cM_push 48 = .ok (.invokevirtual 133, 3) := by decide +kernel
theorem dM_push_51 : decode cM_push 51 = .ok (.aload_n 0, 1) := by decide +kernel
theorem dM_push_52 : decode cM_push 52 = .ok (.getfield 7, 3) := by decide +kernel
theorem dM_push_55 : decode cM_push 55 = .ok (.iload_n 2, 1) := by decide +kernel
theorem dM_push_56 : decode cM_push 56 = .ok (.laload, 1) := by decide +kernel
theorem dM_push_57 : decode cM_push 57 = .ok (.invokestatic 62, 3) := by decide +kernel
theorem dM_push_60 : decode cM_push 60 = .ok (.istore 4, 2) := by decide +kernel
theorem dM_push_62 : decode cM_push 62 = .ok (.iload_n 1, 1) := by decide +kernel
theorem dM_push_63 : decode cM_push 63 = .ok (.sipush 176, 3) := by decide +kernel
theorem dM_push_66 : decode cM_push 66 = .ok (.if_icmp .ne 21, 3) := by decide +kernel
theorem dM_push_69 : decode cM_push 69 = .ok (.aload_n 0, 1) := by decide +kernel
theorem dM_push_70 : decode cM_push 70 = .ok (.iload 4, 2) := by decide +kernel
theorem dM_push_72 : decode cM_push 72 = .ok (.aload_n 0, 1) := by decide +kernel
theorem dM_push_73 : decode cM_push 73 = .ok (.invokevirtual 198, 3) := by decide +kernel
theorem dM_push_76 : decode cM_push 76 = .ok (.invokevirtual 127, 3) := by decide +kernel
theorem dM_push_79 : decode cM_push 79 = .ok (.aload_n 0, 1) := by decide +kernel
theorem dM_push_80 : decode cM_push 80 = .ok (.iload_n 3, 1) := by decide +kernel
theorem dM_push_81 : decode cM_push 81 = .ok (.invokevirtual 50, 3) := by decide +kernel
theorem dM_push_84 : decode cM_push 84 = .ok (.goto 18, 3) := by decide +kernel
theorem dM_push_87 : decode cM_push 87 = .ok (.aload_n 0, 1) := by decide +kernel
theorem dM_push_88 : decode cM_push 88 = .ok (.iload_n 3, 1) := by decide +kernel
theorem dM_push_89 : decode cM_push 89 = .ok (.invokevirtual 58, 3) := by decide +kernel
theorem dM_push_92 : decode cM_push 92 = .ok (.lstore 5, 2) := by decide +kernel
theorem dM_push_94 : decode cM_push 94 = .ok (.aload_n 0, 1) := by decide +kernel
theorem dM_push_95 : decode cM_push 95 = .ok (.iload 4, 2) := by decide +kernel
theorem dM_push_97 : decode cM_push 97 = .ok (.lload 5, 2) := by decide +kernel
theorem dM_push_99 : decode cM_push 99 = .ok (.invokevirtual 127, 3) := by decide +kernel
theorem dM_push_102 : decode cM_push 102 = .ok (.return_, 1) := by decide +kernel
theorem dM_pop_0 : decode cM_pop 0 = .ok (.aload_n 0, 1) := by decide +kernel
theorem dM_pop_1 : decode cM_pop 1 = .ok (.aload_n 0, 1) := by decide +kernel
theorem dM_pop_2 : decode cM_pop 2 = .ok (.getfield 7, 3) := by decide +kernel
theorem dM_pop_5 : decode cM_pop 5 = .ok (.iload_n 2, 1) := by decide +kernel
theorem dM_pop_6 : decode cM_pop 6 = .ok (.laload, 1) := by decide +kernel
theorem dM_pop_7 : decode cM_pop 7 = .ok (.invokestatic 62, 3) := by decide +kernel
theorem dM_pop_10 : decode cM_pop 10 = .ok (.invokevirtual 58, 3) := by decide +kernel
theorem dM_pop_13 : decode cM_pop 13 = .ok (.lstore 4, 2) := by decide +kernel
theorem dM_pop_15 : decode cM_pop 15 = .ok (.iload_n 1, 1) := by decide +kernel
theorem dM_pop_16 : decode cM_pop 16 = .ok (.sipush 178, 3) := by decide +kernel
theorem dM_pop_19 : decode cM_pop 19 = .ok (.if_icmp .ne 13, 3) := by decide +kernel
theorem dM_pop_22 : decode cM_pop 22 = .ok (.aload_n 0, 1) := by decide +kernel
theorem dM_pop_23 : decode cM_pop 23 = .ok (.iload_n 3, 1) := by decide +kernel
theorem dM_pop_24 : decode cM_pop 24 = .ok (.lload 4, 2) := by decide +kernel
theorem dM_pop_26 : decode cM_pop 26 = .ok (.invokevirtual 127, 3) := by decide +kernel
theorem dM_pop_29 : decode cM_pop 29 = .ok (.goto 12, 3) := by decide +kernel
theorem dM_pop_32 : decode cM_pop 32 = .ok (.aload_n 0, 1) := by decide +kernel
theorem dM_pop_33 : decode cM_pop 33 = .ok (.lload 4, 2) := by decide +kernel
theorem dM_pop_35 : decode cM_pop 35 = .ok (.invokestatic 62, 3) := by decide +kernel
theorem dM_pop_38 : decode cM_pop 38 = .ok (.invokevirtual 50, 3) := by decide +kernel
theorem dM_pop_41 : decode cM_pop 41 = .ok (.aload_n 0, 1) := by decide +kernel
theorem dM_pop_42 : decode cM_pop 42 = .ok (.getfield 27, 3) := by decide +kernel
theorem dM_pop_45 : decode cM_pop 45 = .ok (.ifCond .ne 56, 3) := by decide +kernel
theorem dM_pop_48 : decode cM_pop 48 = .ok (.aload_n 0, 1) := by decide +kernel
theorem dM_pop_49 : decode cM_pop 49 = .ok (.iload_n 2, 1) := by decide +kernel
theorem dM_pop_50 : decode cM_pop 50 = .ok (.aload_n 0, 1) := by decide +kernel
theorem dM_pop_51 : decode cM_pop 51 = .ok (.getfield 7, 3) := by decide +kernel
theorem dM_pop_54 : decode cM_pop 54 = .ok (.iload_n 2, 1) := by decide +kernel
theorem dM_pop_55 : decode cM_pop 55 = .ok (.laload, 1) := by decide +kernel
theorem dM_pop_56 : decode cM_pop 56 = .ok (.invokestatic 137, 3) := by decide +kernel
theorem dM_pop_59 : decode cM_pop 59 = .ok (.iconst 1, 1) := by decide +kernel
theorem dM_pop_60 : decode cM_pop 60 = .ok (.isub, 1) := by decide +kernel
theorem dM_pop_61 : decode cM_pop 61 = .ok (.aload_n 0, 1) := by decide +kernel
theorem dM_pop_62 : decode cM_pop 62 = .ok (.getfield 7, 3) := by decide +kernel
theorem dM_pop_65 : decode cM_pop 65 = .ok (.iload_n 2, 1) := by decide +kernel
theorem dM_pop_66 : decode cM_pop 66 = .ok (.laload, 1) := by decide +kernel
theorem dM_pop_67 : decode cM_pop 67 = .ok (.invokestatic 62, 3) := by decide +kernel
theorem dM_pop_70 : decode cM_pop 70 = .ok (.iconst 1, 1) := by decide +kernel
theorem dM_pop_71 : decode cM_pop 71 = .ok (.isub, 1) := by decide +kernel
theorem dM_pop_72 : decode cM_pop 72 = .ok (.invokestatic 73, 3) := by decide +kernel
theorem dM_pop_75 : decode cM_pop 75 = .ok (.invokevirtual 123, 3) := by decide +kernel
theorem dM_pop_78 : decode cM_pop 78 = .ok (.aload_n 0, 1) := by decide +kernel
theorem dM_pop_79 : decode cM_pop 79 = .ok (.aload_n 0, 1) := by decide +kernel
theorem dM_pop_80 : decode cM_pop 80 = .ok (.getfield 7, 3) := by decide +kernel
theorem dM_pop_83 : decode cM_pop 83 = .ok (.iload_n 2, 1) := by decide +kernel
theorem dM_pop_84 : decode cM_pop 84 = .ok (.laload, 1) := by decide +kernel
theorem dM_pop_85 : decode cM_pop 85 = .ok (.invokestatic 137, 3) := by decide +kernel
theorem dM_pop_88 : decode cM_pop 88 = .ok (.ldc 26, 2) := by decide +kernel
theorem dM_pop_90 : decode cM_pop 90 = .ok (.if_icmp .ne 7, 3) := by decide +kernel
theorem dM_pop_93 : decode cM_pop 93 = .ok (.iconst 1, 1) := by decide +kernel
theorem dM_pop_94 : decode cM_pop 94 = .ok (.goto 4, 3) := by decide +kernel
theorem dM_pop_97 : decode cM_pop 97 = .ok (.iconst 0, 1) := by decide +kernel
theorem dM_pop_98 : decode cM_pop 98 = .ok (.invokevirtual 133, 3) := by decide +kernel
theorem dM_pop_101 : decode cM_pop 101 = .ok (.return_, 1) := by decide +kernel
theorem dM_deposit_0 : decode cM_deposit 0 = .ok (.iload_n 1, 1) := by decide +kernel
theorem dM_deposit_1 : decode cM_deposit 1 = .ok (.ifCond .lt 10, 3) := by decide +kernel
theorem dM_deposit_4 : decode cM_deposit 4 = .ok (.iload_n 1, 1) := by decide +kernel
theorem dM_deposit_5 : decode cM_deposit 5 = .ok (.sipush 1023, 3) := by decide +kernel
theorem dM_deposit_8 : decode cM_deposit 8 = .ok (.if_icmp .le 5, 3) := by decide +kernel
theorem dM_deposit_11 : decode cM_deposit 11 = .ok (.iconst 0, 1) := by decide +kernel
theorem dM_deposit_12 : decode cM_deposit 12 = .ok (.ireturn, 1) := by decide +kernel
theorem dM_deposit_13 : decode cM_deposit 13 = .ok (.aload_n 0, 1) := by decide +kernel
theorem dM_deposit_14 : decode cM_deposit 14 = .ok (.getfield 7, 3) := by decide +kernel
theorem dM_deposit_17 : decode cM_deposit 17 = .ok (.iload_n 1, 1) := by decide +kernel
theorem dM_deposit_18 : decode cM_deposit 18 = .ok (.lload_n 2, 1) := by decide +kernel
theorem dM_deposit_19 : decode cM_deposit 19 = .ok (.ldc2_w 22, 3) := by decide +kernel
theorem dM_deposit_22 : decode cM_deposit 22 = .ok (.land, 1) := by decide +kernel
theorem dM_deposit_23 : decode cM_deposit 23 = .ok (.lastore, 1) := by decide +kernel
theorem dM_deposit_24 : decode cM_deposit 24 = .ok (.iconst 1, 1) := by decide +kernel
theorem dM_deposit_25 : decode cM_deposit 25 = .ok (.ireturn, 1) := by decide +kernel
theorem dM_examine_0 : decode cM_examine 0 = .ok (.iload_n 1, 1) := by decide +kernel
theorem dM_examine_1 : decode cM_examine 1 = .ok (.ifCond .lt 10, 3) := by decide +kernel
theorem dM_examine_4 : decode cM_examine 4 = .ok (.iload_n 1, 1) := by decide +kernel
theorem dM_examine_5 : decode cM_examine 5 = .ok (.sipush 1023, 3) := by decide +kernel
theorem dM_examine_8 : decode cM_examine 8 = .ok (.if_icmp .le 9, 3) := by decide +kernel
theorem dM_examine_11 : decode cM_examine 11 = .ok (.ldc2_w 150, 3) := by decide +kernel
theorem dM_examine_14 : decode cM_examine 14 = .ok (.goto 9, 3) := by decide +kernel
theorem dM_examine_17 : decode cM_examine 17 = .ok (.aload_n 0, 1) := by decide +kernel
theorem dM_examine_18 : decode cM_examine 18 = .ok (.getfield 7, 3) := by decide +kernel
theorem dM_examine_21 : decode cM_examine 21 = .ok (.iload_n 1, 1) := by decide +kernel
theorem dM_examine_22 : decode cM_examine 22 = .ok (.laload, 1) := by decide +kernel
theorem dM_examine_23 : decode cM_examine 23 = .ok (.lreturn, 1) := by decide +kernel
theorem dM_number_0 : decode cM_number 0 = .ok (.iload_n 1, 1) := by decide +kernel
theorem dM_number_1 : decode cM_number 1 = .ok (.ifCond .lt 10, 3) := by decide +kernel
theorem dM_number_4 : decode cM_number 4 = .ok (.iload_n 1, 1) := by decide +kernel
theorem dM_number_5 : decode cM_number 5 = .ok (.sipush 1023, 3) := by decide +kernel
theorem dM_number_8 : decode cM_number 8 = .ok (.if_icmp .le 7, 3) := by decide +kernel
theorem dM_number_11 : decode cM_number 11 = .ok (.lconst 0, 1) := by decide +kernel
theorem dM_number_12 : decode cM_number 12 = .ok (.goto 12, 3) := by decide +kernel
theorem dM_number_15 : decode cM_number 15 = .ok (.aload_n 0, 1) := by decide +kernel
theorem dM_number_16 : decode cM_number 16 = .ok (.getfield 7, 3) := by decide +kernel
theorem dM_number_19 : decode cM_number 19 = .ok (.iload_n 1, 1) := by decide +kernel
theorem dM_number_20 : decode cM_number 20 = .ok (.laload, 1) := by decide +kernel
theorem dM_number_21 : decode cM_number 21 = .ok (.invokestatic 146, 3) := by decide +kernel
theorem dM_number_24 : decode cM_number 24 = .ok (.lreturn, 1) := by decide +kernel
theorem dM_segment_0 : decode cM_segment 0 = .ok (.iload_n 1, 1) := by decide +kernel
theorem dM_segment_1 : decode cM_segment 1 = .ok (.ifCond .lt 30, 3) := by decide +kernel
theorem dM_segment_4 : decode cM_segment 4 = .ok (.iload_n 1, 1) := by decide +kernel
theorem dM_segment_5 : decode cM_segment 5 = .ok (.iconst 1, 1) := by decide +kernel
theorem dM_segment_6 : decode cM_segment 6 = .ok (.if_icmp .gt 25, 3) := by decide +kernel
theorem dM_segment_9 : decode cM_segment 9 = .ok (.iload_n 2, 1) := by decide +kernel
theorem dM_segment_10 : decode cM_segment 10 = .ok (.ifCond .lt 21, 3) := by decide +kernel
theorem dM_segment_13 : decode cM_segment 13 = .ok (.iload_n 2, 1) := by decide +kernel
theorem dM_segment_14 : decode cM_segment 14 = .ok (.sipush 1024, 3) := by decide +kernel
theorem dM_segment_17 : decode cM_segment 17 = .ok (.if_icmp .gt 14, 3) := by decide +kernel
theorem dM_segment_20 : decode cM_segment 20 = .ok (.iload_n 3, 1) := by decide +kernel
theorem dM_segment_21 : decode cM_segment 21 = .ok (.ifCond .lt 10, 3) := by decide +kernel
theorem dM_segment_24 : decode cM_segment 24 = .ok (.iload_n 3, 1) := by decide +kernel
theorem dM_segment_25 : decode cM_segment 25 = .ok (.sipush 1024, 3) := by decide +kernel
theorem dM_segment_28 : decode cM_segment 28 = .ok (.if_icmp .le 5, 3) := by decide +kernel
theorem dM_segment_31 : decode cM_segment 31 = .ok (.iconst 0, 1) := by decide +kernel
theorem dM_segment_32 : decode cM_segment 32 = .ok (.ireturn, 1) := by decide +kernel
theorem dM_segment_33 : decode cM_segment 33 = .ok (.aload_n 0, 1) := by decide +kernel
theorem dM_segment_34 : decode cM_segment 34 = .ok (.getfield 13, 3) := by decide +kernel
theorem dM_segment_37 : decode cM_segment 37 = .ok (.iload_n 1, 1) := by decide +kernel
theorem dM_segment_38 : decode cM_segment 38 = .ok (.iload_n 2, 1) := by decide +kernel
theorem dM_segment_39 : decode cM_segment 39 = .ok (.iastore, 1) := by decide +kernel
theorem dM_segment_40 : decode cM_segment 40 = .ok (.aload_n 0, 1) := by decide +kernel
theorem dM_segment_41 : decode cM_segment 41 = .ok (.getfield 17, 3) := by decide +kernel
theorem dM_segment_44 : decode cM_segment 44 = .ok (.iload_n 1, 1) := by decide +kernel
theorem dM_segment_45 : decode cM_segment 45 = .ok (.iload_n 3, 1) := by decide +kernel
theorem dM_segment_46 : decode cM_segment 46 = .ok (.iastore, 1) := by decide +kernel
theorem dM_segment_47 : decode cM_segment 47 = .ok (.iconst 1, 1) := by decide +kernel
theorem dM_segment_48 : decode cM_segment 48 = .ok (.ireturn, 1) := by decide +kernel
theorem dM_start_0 : decode cM_start 0 = .ok (.aload_n 0, 1) := by decide +kernel
theorem dM_start_1 : decode cM_start 1 = .ok (.iload_n 1, 1) := by decide +kernel
theorem dM_start_2 : decode cM_start 2 = .ok (.ldc 26, 2) := by decide +kernel
theorem dM_start_4 : decode cM_start 4 = .ok (.iand, 1) := by decide +kernel
theorem dM_start_5 : decode cM_start 5 = .ok (.putfield 47, 3) := by decide +kernel
theorem dM_start_8 : decode cM_start 8 = .ok (.aload_n 0, 1) := by decide +kernel
theorem dM_start_9 : decode cM_start 9 = .ok (.iload_n 2, 1) := by decide +kernel
theorem dM_start_10 : decode cM_start 10 = .ok (.putfield 31, 3) := by decide +kernel
theorem dM_start_13 : decode cM_start 13 = .ok (.aload_n 0, 1) := by decide +kernel
theorem dM_start_14 : decode cM_start 14 = .ok (.iconst 0, 1) := by decide +kernel
theorem dM_start_15 : decode cM_start 15 = .ok (.putfield 202, 3) := by decide +kernel
theorem dM_start_18 : decode cM_start 18 = .ok (.aload_n 0, 1) := by decide +kernel
theorem dM_start_19 : decode cM_start 19 = .ok (.iconst 0, 1) := by decide +kernel
theorem dM_start_20 : decode cM_start 20 = .ok (.putfield 44, 3) := by decide +kernel
theorem dM_start_23 : decode cM_start 23 = .ok (.return_, 1) := by decide +kernel
theorem dM_run_0 : decode cM_run 0 = .ok (.iload_n 1, 1) := by decide +kernel
theorem dM_run_1 : decode cM_run 1 = .ok (.iconst 1, 1) := by decide +kernel
theorem dM_run_2 : decode cM_run 2 = .ok (.if_icmp .lt 9, 3) := by decide +kernel
theorem dM_run_5 : decode cM_run 5 = .ok (.iload_n 1, 1) := by decide +kernel
theorem dM_run_6 : decode cM_run 6 = .ok (.bipush 100, 2) := by decide +kernel
theorem dM_run_8 : decode cM_run 8 = .ok (.if_icmp .le 5, 3) := by decide +kernel
theorem dM_run_11 : decode cM_run 11 = .ok (.iconst (-1), 1) := by decide +kernel
theorem dM_run_12 : decode cM_run 12 = .ok (.ireturn, 1) := by decide +kernel
theorem dM_run_13 : decode cM_run 13 = .ok (.iconst 0, 1) := by decide +kernel
theorem dM_run_14 : decode cM_run 14 = .ok (.istore_n 2, 1) := by decide +kernel
theorem dM_run_15 : decode cM_run 15 = .ok (.iload_n 2, 1) := by decide +kernel
theorem dM_run_16 : decode cM_run 16 = .ok (.iload_n 1, 1) := by decide +kernel
theorem dM_run_17 : decode cM_run 17 = .ok (.if_icmp .ge 20, 3) := by decide +kernel
theorem dM_run_20 : decode cM_run 20 = .ok (.aload_n 0, 1) := by decide +kernel
theorem dM_run_21 : decode cM_run 21 = .ok (.getfield 202, 3) := by decide +kernel
theorem dM_run_24 : decode cM_run 24 = .ok (.ifCond .ne 13, 3) := by decide +kernel
theorem dM_run_27 : decode cM_run 27 = .ok (.aload_n 0, 1) := by decide +kernel
theorem dM_run_28 : decode cM_run 28 = .ok (.invokevirtual 205, 3) := by decide +kernel
theorem dM_run_31 : decode cM_run 31 = .ok (.iinc 2 1, 3) := by decide +kernel
theorem dM_run_34 : decode cM_run 34 = .ok (.goto (-19), 3) := by decide +kernel
theorem dM_run_37 : decode cM_run 37 = .ok (.iload_n 2, 1) := by decide +kernel
theorem dM_run_38 : decode cM_run 38 = .ok (.ireturn, 1) := by decide +kernel
theorem dM_look_0 : decode cM_look 0 = .ok (.iload_n 1, 1) := by decide +kernel
theorem dM_look_1 : decode cM_look 1 = .ok (.iconst 3, 1) := by decide +kernel
theorem dM_look_2 : decode cM_look 2 = .ok (.if_icmp .ge 56, 3) := by decide +kernel
theorem dM_look_5 : decode cM_look 5 = .ok (.iload_n 1, 1) := by decide +kernel
theorem dM_look_6 : decode cM_look 6 = .ok (.ifCond .ne 10, 3) := by decide +kernel
theorem dM_look_9 : decode cM_look 9 = .ok (.aload_n 0, 1) := by decide +kernel
theorem dM_look_10 : decode cM_look 10 = .ok (.getfield 47, 3) := by decide +kernel
theorem dM_look_13 : decode cM_look 13 = .ok (.goto 44, 3) := by decide +kernel
theorem dM_look_16 : decode cM_look 16 = .ok (.iload_n 1, 1) := by decide +kernel
theorem dM_look_17 : decode cM_look 17 = .ok (.iconst 1, 1) := by decide +kernel
theorem dM_look_18 : decode cM_look 18 = .ok (.if_icmp .ne 18, 3) := by decide +kernel
theorem dM_look_21 : decode cM_look 21 = .ok (.aload_n 0, 1) := by decide +kernel
theorem dM_look_22 : decode cM_look 22 = .ok (.getfield 31, 3) := by decide +kernel
theorem dM_look_25 : decode cM_look 25 = .ok (.ifCond .eq 7, 3) := by decide +kernel
theorem dM_look_28 : decode cM_look 28 = .ok (.iconst 1, 1) := by decide +kernel
theorem dM_look_29 : decode cM_look 29 = .ok (.goto 28, 3) := by decide +kernel
theorem dM_look_32 : decode cM_look 32 = .ok (.iconst 0, 1) := by decide +kernel
theorem dM_look_33 : decode cM_look 33 = .ok (.goto 24, 3) := by decide +kernel
theorem dM_look_36 : decode cM_look 36 = .ok (.iload_n 1, 1) := by decide +kernel
theorem dM_look_37 : decode cM_look 37 = .ok (.iconst 2, 1) := by decide +kernel
theorem dM_look_38 : decode cM_look 38 = .ok (.if_icmp .ne 18, 3) := by decide +kernel
theorem dM_look_41 : decode cM_look 41 = .ok (.aload_n 0, 1) := by decide +kernel
theorem dM_look_42 : decode cM_look 42 = .ok (.getfield 44, 3) := by decide +kernel
theorem dM_look_45 : decode cM_look 45 = .ok (.ifCond .eq 7, 3) := by decide +kernel
theorem dM_look_48 : decode cM_look 48 = .ok (.iconst 1, 1) := by decide +kernel
theorem dM_look_49 : decode cM_look 49 = .ok (.goto 8, 3) := by decide +kernel
theorem dM_look_52 : decode cM_look 52 = .ok (.iconst 0, 1) := by decide +kernel
theorem dM_look_53 : decode cM_look 53 = .ok (.goto 4, 3) := by decide +kernel
theorem dM_look_56 : decode cM_look 56 = .ok (.iconst (-1), 1) := by decide +kernel
theorem dM_look_57 : decode cM_look 57 = .ok (.ireturn, 1) := by decide +kernel
theorem dM_look_58 : decode cM_look 58 = .ok (.iload_n 1, 1) := by decide +kernel
theorem dM_look_59 : decode cM_look 59 = .ok (.iconst 3, 1) := by decide +kernel
theorem dM_look_60 : decode cM_look 60 = .ok (.if_icmp .ne 18, 3) := by decide +kernel
theorem dM_look_63 : decode cM_look 63 = .ok (.aload_n 0, 1) := by decide +kernel
theorem dM_look_64 : decode cM_look 64 = .ok (.getfield 202, 3) := by decide +kernel
theorem dM_look_67 : decode cM_look 67 = .ok (.ifCond .eq 7, 3) := by decide +kernel
theorem dM_look_70 : decode cM_look 70 = .ok (.iconst 1, 1) := by decide +kernel
theorem dM_look_71 : decode cM_look 71 = .ok (.goto 45, 3) := by decide +kernel
theorem dM_look_74 : decode cM_look 74 = .ok (.iconst 0, 1) := by decide +kernel
theorem dM_look_75 : decode cM_look 75 = .ok (.goto 41, 3) := by decide +kernel
theorem dM_look_78 : decode cM_look 78 = .ok (.iload_n 1, 1) := by decide +kernel
theorem dM_look_79 : decode cM_look 79 = .ok (.iconst 4, 1) := by decide +kernel
theorem dM_look_80 : decode cM_look 80 = .ok (.if_icmp .ne 10, 3) := by decide +kernel
theorem dM_look_83 : decode cM_look 83 = .ok (.aload_n 0, 1) := by decide +kernel
theorem dM_look_84 : decode cM_look 84 = .ok (.getfield 81, 3) := by decide +kernel
theorem dM_look_87 : decode cM_look 87 = .ok (.goto 29, 3) := by decide +kernel
theorem dM_look_90 : decode cM_look 90 = .ok (.iload_n 1, 1) := by decide +kernel
theorem dM_look_91 : decode cM_look 91 = .ok (.iconst 5, 1) := by decide +kernel
theorem dM_look_92 : decode cM_look 92 = .ok (.if_icmp .ne 10, 3) := by decide +kernel
theorem dM_look_95 : decode cM_look 95 = .ok (.aload_n 0, 1) := by decide +kernel
theorem dM_look_96 : decode cM_look 96 = .ok (.getfield 93, 3) := by decide +kernel
theorem dM_look_99 : decode cM_look 99 = .ok (.goto 17, 3) := by decide +kernel
theorem dM_look_102 : decode cM_look 102 = .ok (.iload_n 1, 1) := by decide +kernel
theorem dM_look_103 : decode cM_look 103 = .ok (.bipush 6, 2) := by decide +kernel
theorem dM_look_105 : decode cM_look 105 = .ok (.if_icmp .ne 10, 3) := by decide +kernel
theorem dM_look_108 : decode cM_look 108 = .ok (.aload_n 0, 1) := by decide +kernel
theorem dM_look_109 : decode cM_look 109 = .ok (.getfield 96, 3) := by decide +kernel
theorem dM_look_112 : decode cM_look 112 = .ok (.goto 4, 3) := by decide +kernel
theorem dM_look_115 : decode cM_look 115 = .ok (.iconst (-1), 1) := by decide +kernel
theorem dM_look_116 : decode cM_look 116 = .ok (.ireturn, 1) := by decide +kernel
theorem dL_law_0 : decode code 0 = .ok (.new 7, 3) := by decide +kernel
theorem dL_law_3 : decode code 3 = .ok (.dup, 1) := by decide +kernel
theorem dL_law_4 : decode code 4 = .ok (.invokespecial 9, 3) := by decide +kernel
theorem dL_law_7 : decode code 7 = .ok (.astore_n 1, 1) := by decide +kernel
theorem dL_law_8 : decode code 8 = .ok (.new 10, 3) := by decide +kernel
theorem dL_law_11 : decode code 11 = .ok (.dup, 1) := by decide +kernel
theorem dL_law_12 : decode code 12 = .ok (.invokespecial 12, 3) := by decide +kernel
theorem dL_law_15 : decode code 15 = .ok (.astore_n 2, 1) := by decide +kernel
theorem dL_law_16 : decode code 16 = .ok (.iconst 0, 1) := by decide +kernel
theorem dL_law_17 : decode code 17 = .ok (.istore_n 3, 1) := by decide +kernel
theorem dL_law_18 : decode code 18 = .ok (.iload_n 3, 1) := by decide +kernel
theorem dL_law_19 : decode code 19 = .ok (.aload_n 0, 1) := by decide +kernel
theorem dL_law_20 : decode code 20 = .ok (.arraylength, 1) := by decide +kernel
theorem dL_law_21 : decode code 21 = .ok (.iconst 4, 1) := by decide +kernel
theorem dL_law_22 : decode code 22 = .ok (.isub, 1) := by decide +kernel
theorem dL_law_23 : decode code 23 = .ok (.if_icmp .gt 306, 3) := by decide +kernel
theorem dL_law_26 : decode code 26 = .ok (.aload_n 0, 1) := by decide +kernel
theorem dL_law_27 : decode code 27 = .ok (.iload_n 3, 1) := by decide +kernel
theorem dL_law_28 : decode code 28 = .ok (.iaload, 1) := by decide +kernel
theorem dL_law_29 : decode code 29 = .ok (.bipush 7, 2) := by decide +kernel
theorem dL_law_31 : decode code 31 = .ok (.iand, 1) := by decide +kernel
theorem dL_law_32 : decode code 32 = .ok (.tableswitch 291 0 6 #[44, 107, 131, 155, 198, 245, 268], 44) := by decide +kernel
theorem dL_law_76 : decode code 76 = .ok (.aload_n 1, 1) := by decide +kernel
theorem dL_law_77 : decode code 77 = .ok (.aload_n 0, 1) := by decide +kernel
theorem dL_law_78 : decode code 78 = .ok (.iload_n 3, 1) := by decide +kernel
theorem dL_law_79 : decode code 79 = .ok (.iconst 1, 1) := by decide +kernel
theorem dL_law_80 : decode code 80 = .ok (.iadd, 1) := by decide +kernel
theorem dL_law_81 : decode code 81 = .ok (.iaload, 1) := by decide +kernel
theorem dL_law_82 : decode code 82 = .ok (.aload_n 0, 1) := by decide +kernel
theorem dL_law_83 : decode code 83 = .ok (.iload_n 3, 1) := by decide +kernel
theorem dL_law_84 : decode code 84 = .ok (.iconst 2, 1) := by decide +kernel
theorem dL_law_85 : decode code 85 = .ok (.iadd, 1) := by decide +kernel
theorem dL_law_86 : decode code 86 = .ok (.iaload, 1) := by decide +kernel
theorem dL_law_87 : decode code 87 = .ok (.i2l, 1) := by decide +kernel
theorem dL_law_88 : decode code 88 = .ok (.bipush 32, 2) := by decide +kernel
theorem dL_law_90 : decode code 90 = .ok (.lshl, 1) := by decide +kernel
theorem dL_law_91 : decode code 91 = .ok (.aload_n 0, 1) := by decide +kernel
theorem dL_law_92 : decode code 92 = .ok (.iload_n 3, 1) := by decide +kernel
theorem dL_law_93 : decode code 93 = .ok (.iconst 3, 1) := by decide +kernel
theorem dL_law_94 : decode code 94 = .ok (.iadd, 1) := by decide +kernel
theorem dL_law_95 : decode code 95 = .ok (.iaload, 1) := by decide +kernel
theorem dL_law_96 : decode code 96 = .ok (.i2l, 1) := by decide +kernel
theorem dL_law_97 : decode code 97 = .ok (.ldc2_w 13, 3) := by decide +kernel
theorem dL_law_100 : decode code 100 = .ok (.land, 1) := by decide +kernel
theorem dL_law_101 : decode code 101 = .ok (.lor, 1) := by decide +kernel
theorem dL_law_102 : decode code 102 = .ok (.invokevirtual 15, 3) := by decide +kernel
theorem dL_law_105 : decode code 105 = .ok (.aload_n 2, 1) := by decide +kernel
theorem dL_law_106 : decode code 106 = .ok (.aload_n 0, 1) := by decide +kernel
theorem dL_law_107 : decode code 107 = .ok (.iload_n 3, 1) := by decide +kernel
theorem dL_law_108 : decode code 108 = .ok (.iconst 1, 1) := by decide +kernel
theorem dL_law_109 : decode code 109 = .ok (.iadd, 1) := by decide +kernel
theorem dL_law_110 : decode code 110 = .ok (.iaload, 1) := by decide +kernel
theorem dL_law_111 : decode code 111 = .ok (.aload_n 0, 1) := by decide +kernel
theorem dL_law_112 : decode code 112 = .ok (.iload_n 3, 1) := by decide +kernel
theorem dL_law_113 : decode code 113 = .ok (.iconst 2, 1) := by decide +kernel
theorem dL_law_114 : decode code 114 = .ok (.iadd, 1) := by decide +kernel
theorem dL_law_115 : decode code 115 = .ok (.iaload, 1) := by decide +kernel
theorem dL_law_116 : decode code 116 = .ok (.i2l, 1) := by decide +kernel
theorem dL_law_117 : decode code 117 = .ok (.bipush 32, 2) := by decide +kernel
theorem dL_law_119 : decode code 119 = .ok (.lshl, 1) := by decide +kernel
theorem dL_law_120 : decode code 120 = .ok (.aload_n 0, 1) := by decide +kernel
theorem dL_law_121 : decode code 121 = .ok (.iload_n 3, 1) := by decide +kernel
theorem dL_law_122 : decode code 122 = .ok (.iconst 3, 1) := by decide +kernel
theorem dL_law_123 : decode code 123 = .ok (.iadd, 1) := by decide +kernel
theorem dL_law_124 : decode code 124 = .ok (.iaload, 1) := by decide +kernel
theorem dL_law_125 : decode code 125 = .ok (.i2l, 1) := by decide +kernel
theorem dL_law_126 : decode code 126 = .ok (.ldc2_w 13, 3) := by decide +kernel
theorem dL_law_129 : decode code 129 = .ok (.land, 1) := by decide +kernel
theorem dL_law_130 : decode code 130 = .ok (.lor, 1) := by decide +kernel
theorem dL_law_131 : decode code 131 = .ok (.invokevirtual 19, 3) := by decide +kernel
theorem dL_law_134 : decode code 134 = .ok (.if_icmp .eq 189, 3) := by decide +kernel
theorem dL_law_137 : decode code 137 = .ok (.iconst 0, 1) := by decide +kernel
theorem dL_law_138 : decode code 138 = .ok (.ireturn, 1) := by decide +kernel
theorem dL_law_139 : decode code 139 = .ok (.aload_n 1, 1) := by decide +kernel
theorem dL_law_140 : decode code 140 = .ok (.aload_n 0, 1) := by decide +kernel
theorem dL_law_141 : decode code 141 = .ok (.iload_n 3, 1) := by decide +kernel
theorem dL_law_142 : decode code 142 = .ok (.iconst 1, 1) := by decide +kernel
theorem dL_law_143 : decode code 143 = .ok (.iadd, 1) := by decide +kernel
theorem dL_law_144 : decode code 144 = .ok (.iaload, 1) := by decide +kernel
theorem dL_law_145 : decode code 145 = .ok (.invokevirtual 20, 3) := by decide +kernel
theorem dL_law_148 : decode code 148 = .ok (.aload_n 2, 1) := by decide +kernel
theorem dL_law_149 : decode code 149 = .ok (.aload_n 0, 1) := by decide +kernel
theorem dL_law_150 : decode code 150 = .ok (.iload_n 3, 1) := by decide +kernel
theorem dL_law_151 : decode code 151 = .ok (.iconst 1, 1) := by decide +kernel
theorem dL_law_152 : decode code 152 = .ok (.iadd, 1) := by decide +kernel
theorem dL_law_153 : decode code 153 = .ok (.iaload, 1) := by decide +kernel
theorem dL_law_154 : decode code 154 = .ok (.invokevirtual 24, 3) := by decide +kernel
theorem dL_law_157 : decode code 157 = .ok (.lcmp, 1) := by decide +kernel
theorem dL_law_158 : decode code 158 = .ok (.ifCond .eq 165, 3) := by decide +kernel
theorem dL_law_161 : decode code 161 = .ok (.iconst 0, 1) := by decide +kernel
theorem dL_law_162 : decode code 162 = .ok (.ireturn, 1) := by decide +kernel
theorem dL_law_163 : decode code 163 = .ok (.aload_n 1, 1) := by decide +kernel
theorem dL_law_164 : decode code 164 = .ok (.aload_n 0, 1) := by decide +kernel
theorem dL_law_165 : decode code 165 = .ok (.iload_n 3, 1) := by decide +kernel
theorem dL_law_166 : decode code 166 = .ok (.iconst 1, 1) := by decide +kernel
theorem dL_law_167 : decode code 167 = .ok (.iadd, 1) := by decide +kernel
theorem dL_law_168 : decode code 168 = .ok (.iaload, 1) := by decide +kernel
theorem dL_law_169 : decode code 169 = .ok (.invokevirtual 25, 3) := by decide +kernel
theorem dL_law_172 : decode code 172 = .ok (.aload_n 2, 1) := by decide +kernel
theorem dL_law_173 : decode code 173 = .ok (.aload_n 0, 1) := by decide +kernel
theorem dL_law_174 : decode code 174 = .ok (.iload_n 3, 1) := by decide +kernel
theorem dL_law_175 : decode code 175 = .ok (.iconst 1, 1) := by decide +kernel
theorem dL_law_176 : decode code 176 = .ok (.iadd, 1) := by decide +kernel
theorem dL_law_177 : decode code 177 = .ok (.iaload, 1) := by decide +kernel
theorem dL_law_178 : decode code 178 = .ok (.invokevirtual 28, 3) := by decide +kernel
theorem dL_law_181 : decode code 181 = .ok (.lcmp, 1) := by decide +kernel
theorem dL_law_182 : decode code 182 = .ok (.ifCond .eq 141, 3) := by decide +kernel
theorem dL_law_185 : decode code 185 = .ok (.iconst 0, 1) := by decide +kernel
theorem dL_law_186 : decode code 186 = .ok (.ireturn, 1) := by decide +kernel
theorem dL_law_187 : decode code 187 = .ok (.aload_n 1, 1) := by decide +kernel
theorem dL_law_188 : decode code 188 = .ok (.aload_n 0, 1) := by decide +kernel
theorem dL_law_189 : decode code 189 = .ok (.iload_n 3, 1) := by decide +kernel
theorem dL_law_190 : decode code 190 = .ok (.iconst 1, 1) := by decide +kernel
theorem dL_law_191 : decode code 191 = .ok (.iadd, 1) := by decide +kernel
theorem dL_law_192 : decode code 192 = .ok (.iaload, 1) := by decide +kernel
theorem dL_law_193 : decode code 193 = .ok (.aload_n 0, 1) := by decide +kernel
theorem dL_law_194 : decode code 194 = .ok (.iload_n 3, 1) := by decide +kernel
theorem dL_law_195 : decode code 195 = .ok (.iconst 2, 1) := by decide +kernel
theorem dL_law_196 : decode code 196 = .ok (.iadd, 1) := by decide +kernel
theorem dL_law_197 : decode code 197 = .ok (.iaload, 1) := by decide +kernel
theorem dL_law_198 : decode code 198 = .ok (.aload_n 0, 1) := by decide +kernel
theorem dL_law_199 : decode code 199 = .ok (.iload_n 3, 1) := by decide +kernel
theorem dL_law_200 : decode code 200 = .ok (.iconst 3, 1) := by decide +kernel
theorem dL_law_201 : decode code 201 = .ok (.iadd, 1) := by decide +kernel
theorem dL_law_202 : decode code 202 = .ok (.iaload, 1) := by decide +kernel
theorem dL_law_203 : decode code 203 = .ok (.invokevirtual 29, 3) := by decide +kernel
theorem dL_law_206 : decode code 206 = .ok (.aload_n 2, 1) := by decide +kernel
theorem dL_law_207 : decode code 207 = .ok (.aload_n 0, 1) := by decide +kernel
theorem dL_law_208 : decode code 208 = .ok (.iload_n 3, 1) := by decide +kernel
theorem dL_law_209 : decode code 209 = .ok (.iconst 1, 1) := by decide +kernel
theorem dL_law_210 : decode code 210 = .ok (.iadd, 1) := by decide +kernel
theorem dL_law_211 : decode code 211 = .ok (.iaload, 1) := by decide +kernel
theorem dL_law_212 : decode code 212 = .ok (.aload_n 0, 1) := by decide +kernel
theorem dL_law_213 : decode code 213 = .ok (.iload_n 3, 1) := by decide +kernel
theorem dL_law_214 : decode code 214 = .ok (.iconst 2, 1) := by decide +kernel
theorem dL_law_215 : decode code 215 = .ok (.iadd, 1) := by decide +kernel
theorem dL_law_216 : decode code 216 = .ok (.iaload, 1) := by decide +kernel
theorem dL_law_217 : decode code 217 = .ok (.aload_n 0, 1) := by decide +kernel
theorem dL_law_218 : decode code 218 = .ok (.iload_n 3, 1) := by decide +kernel
theorem dL_law_219 : decode code 219 = .ok (.iconst 3, 1) := by decide +kernel
theorem dL_law_220 : decode code 220 = .ok (.iadd, 1) := by decide +kernel
theorem dL_law_221 : decode code 221 = .ok (.iaload, 1) := by decide +kernel
theorem dL_law_222 : decode code 222 = .ok (.invokevirtual 33, 3) := by decide +kernel
theorem dL_law_225 : decode code 225 = .ok (.if_icmp .eq 98, 3) := by decide +kernel
theorem dL_law_228 : decode code 228 = .ok (.iconst 0, 1) := by decide +kernel
theorem dL_law_229 : decode code 229 = .ok (.ireturn, 1) := by decide +kernel
theorem dL_law_230 : decode code 230 = .ok (.aload_n 1, 1) := by decide +kernel
theorem dL_law_231 : decode code 231 = .ok (.aload_n 0, 1) := by decide +kernel
theorem dL_law_232 : decode code 232 = .ok (.iload_n 3, 1) := by decide +kernel
theorem dL_law_233 : decode code 233 = .ok (.iconst 1, 1) := by decide +kernel
theorem dL_law_234 : decode code 234 = .ok (.iadd, 1) := by decide +kernel
theorem dL_law_235 : decode code 235 = .ok (.iaload, 1) := by decide +kernel
theorem dL_law_236 : decode code 236 = .ok (.aload_n 0, 1) := by decide +kernel
theorem dL_law_237 : decode code 237 = .ok (.iload_n 3, 1) := by decide +kernel
theorem dL_law_238 : decode code 238 = .ok (.iconst 2, 1) := by decide +kernel
theorem dL_law_239 : decode code 239 = .ok (.iadd, 1) := by decide +kernel
theorem dL_law_240 : decode code 240 = .ok (.iaload, 1) := by decide +kernel
theorem dL_law_241 : decode code 241 = .ok (.ifCond .eq 7, 3) := by decide +kernel
theorem dL_law_244 : decode code 244 = .ok (.iconst 1, 1) := by decide +kernel
theorem dL_law_245 : decode code 245 = .ok (.goto 4, 3) := by decide +kernel
theorem dL_law_248 : decode code 248 = .ok (.iconst 0, 1) := by decide +kernel
theorem dL_law_249 : decode code 249 = .ok (.invokevirtual 34, 3) := by decide +kernel
theorem dL_law_252 : decode code 252 = .ok (.aload_n 2, 1) := by decide +kernel
theorem dL_law_253 : decode code 253 = .ok (.aload_n 0, 1) := by decide +kernel
theorem dL_law_254 : decode code 254 = .ok (.iload_n 3, 1) := by decide +kernel
theorem dL_law_255 : decode code 255 = .ok (.iconst 1, 1) := by decide +kernel
theorem dL_law_256 : decode code 256 = .ok (.iadd, 1) := by decide +kernel
theorem dL_law_257 : decode code 257 = .ok (.iaload, 1) := by decide +kernel
theorem dL_law_258 : decode code 258 = .ok (.aload_n 0, 1) := by decide +kernel
theorem dL_law_259 : decode code 259 = .ok (.iload_n 3, 1) := by decide +kernel
theorem dL_law_260 : decode code 260 = .ok (.iconst 2, 1) := by decide +kernel
theorem dL_law_261 : decode code 261 = .ok (.iadd, 1) := by decide +kernel
theorem dL_law_262 : decode code 262 = .ok (.iaload, 1) := by decide +kernel
theorem dL_law_263 : decode code 263 = .ok (.ifCond .eq 7, 3) := by decide +kernel
theorem dL_law_266 : decode code 266 = .ok (.iconst 1, 1) := by decide +kernel
theorem dL_law_267 : decode code 267 = .ok (.goto 4, 3) := by decide +kernel
theorem dL_law_270 : decode code 270 = .ok (.iconst 0, 1) := by decide +kernel
theorem dL_law_271 : decode code 271 = .ok (.invokevirtual 38, 3) := by decide +kernel
theorem dL_law_274 : decode code 274 = .ok (.goto 49, 3) := by decide +kernel
theorem dL_law_277 : decode code 277 = .ok (.aload_n 1, 1) := by decide +kernel
theorem dL_law_278 : decode code 278 = .ok (.aload_n 0, 1) := by decide +kernel
theorem dL_law_279 : decode code 279 = .ok (.iload_n 3, 1) := by decide +kernel
theorem dL_law_280 : decode code 280 = .ok (.iconst 1, 1) := by decide +kernel
theorem dL_law_281 : decode code 281 = .ok (.iadd, 1) := by decide +kernel
theorem dL_law_282 : decode code 282 = .ok (.iaload, 1) := by decide +kernel
theorem dL_law_283 : decode code 283 = .ok (.invokevirtual 39, 3) := by decide +kernel
theorem dL_law_286 : decode code 286 = .ok (.aload_n 2, 1) := by decide +kernel
theorem dL_law_287 : decode code 287 = .ok (.aload_n 0, 1) := by decide +kernel
theorem dL_law_288 : decode code 288 = .ok (.iload_n 3, 1) := by decide +kernel
theorem dL_law_289 : decode code 289 = .ok (.iconst 1, 1) := by decide +kernel
theorem dL_law_290 : decode code 290 = .ok (.iadd, 1) := by decide +kernel
theorem dL_law_291 : decode code 291 = .ok (.iaload, 1) := by decide +kernel
theorem dL_law_292 : decode code 292 = .ok (.invokevirtual 43, 3) := by decide +kernel
theorem dL_law_295 : decode code 295 = .ok (.if_icmp .eq 28, 3) := by decide +kernel
theorem dL_law_298 : decode code 298 = .ok (.iconst 0, 1) := by decide +kernel
theorem dL_law_299 : decode code 299 = .ok (.ireturn, 1) := by decide +kernel
theorem dL_law_300 : decode code 300 = .ok (.aload_n 1, 1) := by decide +kernel
theorem dL_law_301 : decode code 301 = .ok (.aload_n 0, 1) := by decide +kernel
theorem dL_law_302 : decode code 302 = .ok (.iload_n 3, 1) := by decide +kernel
theorem dL_law_303 : decode code 303 = .ok (.iconst 1, 1) := by decide +kernel
theorem dL_law_304 : decode code 304 = .ok (.iadd, 1) := by decide +kernel
theorem dL_law_305 : decode code 305 = .ok (.iaload, 1) := by decide +kernel
theorem dL_law_306 : decode code 306 = .ok (.invokevirtual 44, 3) := by decide +kernel
theorem dL_law_309 : decode code 309 = .ok (.aload_n 2, 1) := by decide +kernel
theorem dL_law_310 : decode code 310 = .ok (.aload_n 0, 1) := by decide +kernel
theorem dL_law_311 : decode code 311 = .ok (.iload_n 3, 1) := by decide +kernel
theorem dL_law_312 : decode code 312 = .ok (.iconst 1, 1) := by decide +kernel
theorem dL_law_313 : decode code 313 = .ok (.iadd, 1) := by decide +kernel
theorem dL_law_314 : decode code 314 = .ok (.iaload, 1) := by decide +kernel
theorem dL_law_315 : decode code 315 = .ok (.invokevirtual 47, 3) := by decide +kernel
theorem dL_law_318 : decode code 318 = .ok (.if_icmp .eq 5, 3) := by decide +kernel
theorem dL_law_321 : decode code 321 = .ok (.iconst 0, 1) := by decide +kernel
theorem dL_law_322 : decode code 322 = .ok (.ireturn, 1) := by decide +kernel
theorem dL_law_323 : decode code 323 = .ok (.iinc 3 4, 3) := by decide +kernel
theorem dL_law_326 : decode code 326 = .ok (.goto (-308), 3) := by decide +kernel
theorem dL_law_329 : decode code 329 = .ok (.iconst 1, 1) := by decide +kernel
theorem dL_law_330 : decode code 330 = .ok (.ireturn, 1) := by decide +kernel
