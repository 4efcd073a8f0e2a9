theorem dL_cell_0 : decode cL_cell 0 = .ok (.aload_n 0, 1) := by decide +kernel
theorem dL_cell_1 : decode cL_cell 1 = .ok (.arraylength, 1) := by decide +kernel
theorem dL_cell_2 : decode cL_cell 2 = .ok (.ifCond .ne 7, 3) := by decide +kernel
theorem dL_cell_5 : decode cL_cell 5 = .ok (.iconst 0, 1) := by decide +kernel
theorem dL_cell_6 : decode cL_cell 6 = .ok (.goto 17, 3) := by decide +kernel
theorem dL_cell_9 : decode cL_cell 9 = .ok (.aload_n 0, 1) := by decide +kernel
theorem dL_cell_10 : decode cL_cell 10 = .ok (.iload_n 1, 1) := by decide +kernel
theorem dL_cell_11 : decode cL_cell 11 = .ok (.aload_n 0, 1) := by decide +kernel
theorem dL_cell_12 : decode cL_cell 12 = .ok (.arraylength, 1) := by decide +kernel
theorem dL_cell_13 : decode cL_cell 13 = .ok (.irem, 1) := by decide +kernel
theorem dL_cell_14 : decode cL_cell 14 = .ok (.iaload, 1) := by decide +kernel
theorem dL_cell_15 : decode cL_cell 15 = .ok (.ldc 7, 2) := by decide +kernel
theorem dL_cell_17 : decode cL_cell 17 = .ok (.iload_n 1, 1) := by decide +kernel
theorem dL_cell_18 : decode cL_cell 18 = .ok (.aload_n 0, 1) := by decide +kernel
theorem dL_cell_19 : decode cL_cell 19 = .ok (.arraylength, 1) := by decide +kernel
theorem dL_cell_20 : decode cL_cell 20 = .ok (.idiv, 1) := by decide +kernel
theorem dL_cell_21 : decode cL_cell 21 = .ok (.imul, 1) := by decide +kernel
theorem dL_cell_22 : decode cL_cell 22 = .ok (.ixor, 1) := by decide +kernel
theorem dL_cell_23 : decode cL_cell 23 = .ok (.ireturn, 1) := by decide +kernel
theorem dL_pick_0 : decode cL_pick 0 = .ok (.aload_n 0, 1) := by decide +kernel
theorem dL_pick_1 : decode cL_pick 1 = .ok (.iload_n 1, 1) := by decide +kernel
theorem dL_pick_2 : decode cL_pick 2 = .ok (.invokestatic 8, 3) := by decide +kernel
theorem dL_pick_5 : decode cL_pick 5 = .ok (.ldc 14, 2) := by decide +kernel
theorem dL_pick_7 : decode cL_pick 7 = .ok (.iand, 1) := by decide +kernel
theorem dL_pick_8 : decode cL_pick 8 = .ok (.iload_n 2, 1) := by decide +kernel
theorem dL_pick_9 : decode cL_pick 9 = .ok (.irem, 1) := by decide +kernel
theorem dL_pick_10 : decode cL_pick 10 = .ok (.ireturn, 1) := by decide +kernel
theorem dL_rule_0 : decode cL_rule 0 = .ok (.aload_n 0, 1) := by decide +kernel
theorem dL_rule_1 : decode cL_rule 1 = .ok (.ldc 15, 2) := by decide +kernel
theorem dL_rule_3 : decode cL_rule 3 = .ok (.invokevirtual 17, 3) := by decide +kernel
theorem dL_rule_6 : decode cL_rule 6 = .ok (.bipush 97, 2) := by decide +kernel
theorem dL_rule_8 : decode cL_rule 8 = .ok (.iload_n 2, 1) := by decide +kernel
theorem dL_rule_9 : decode cL_rule 9 = .ok (.iadd, 1) := by decide +kernel
theorem dL_rule_10 : decode cL_rule 10 = .ok (.i2c, 1) := by decide +kernel
theorem dL_rule_11 : decode cL_rule 11 = .ok (.invokevirtual 23, 3) := by decide +kernel
theorem dL_rule_14 : decode cL_rule 14 = .ok (.ldc 26, 2) := by decide +kernel
theorem dL_rule_16 : decode cL_rule 16 = .ok (.invokevirtual 17, 3) := by decide +kernel
theorem dL_rule_19 : decode cL_rule 19 = .ok (.pop, 1) := by decide +kernel
theorem dL_rule_20 : decode cL_rule 20 = .ok (.aload_n 1, 1) := by decide +kernel
theorem dL_rule_21 : decode cL_rule 21 = .ok (.bipush 10, 2) := by decide +kernel
theorem dL_rule_23 : decode cL_rule 23 = .ok (.bipush 10, 2) := by decide +kernel
theorem dL_rule_25 : decode cL_rule 25 = .ok (.iload_n 2, 1) := by decide +kernel
theorem dL_rule_26 : decode cL_rule 26 = .ok (.imul, 1) := by decide +kernel
theorem dL_rule_27 : decode cL_rule 27 = .ok (.iadd, 1) := by decide +kernel
theorem dL_rule_28 : decode cL_rule 28 = .ok (.bipush 6, 2) := by decide +kernel
theorem dL_rule_30 : decode cL_rule 30 = .ok (.invokestatic 28, 3) := by decide +kernel
theorem dL_rule_33 : decode cL_rule 33 = .ok (.tableswitch 71 0 3 #[31, 41, 51, 61], 31) := by decide +kernel
theorem dL_rule_64 : decode cL_rule 64 = .ok (.aload_n 0, 1) := by decide +kernel
theorem dL_rule_65 : decode cL_rule 65 = .ok (.ldc 32, 2) := by decide +kernel
theorem dL_rule_67 : decode cL_rule 67 = .ok (.invokevirtual 17, 3) := by decide +kernel
theorem dL_rule_70 : decode cL_rule 70 = .ok (.pop, 1) := by decide +kernel
theorem dL_rule_71 : decode cL_rule 71 = .ok (.goto 108, 3) := by decide +kernel
theorem dL_rule_74 : decode cL_rule 74 = .ok (.aload_n 0, 1) := by decide +kernel
theorem dL_rule_75 : decode cL_rule 75 = .ok (.ldc 34, 2) := by decide +kernel
theorem dL_rule_77 : decode cL_rule 77 = .ok (.invokevirtual 17, 3) := by decide +kernel
theorem dL_rule_80 : decode cL_rule 80 = .ok (.pop, 1) := by decide +kernel
theorem dL_rule_81 : decode cL_rule 81 = .ok (.goto 98, 3) := by decide +kernel
theorem dL_rule_84 : decode cL_rule 84 = .ok (.aload_n 0, 1) := by decide +kernel
theorem dL_rule_85 : decode cL_rule 85 = .ok (.ldc 36, 2) := by decide +kernel
theorem dL_rule_87 : decode cL_rule 87 = .ok (.invokevirtual 17, 3) := by decide +kernel
theorem dL_rule_90 : decode cL_rule 90 = .ok (.pop, 1) := by decide +kernel
theorem dL_rule_91 : decode cL_rule 91 = .ok (.goto 88, 3) := by decide +kernel
theorem dL_rule_94 : decode cL_rule 94 = .ok (.aload_n 0, 1) := by decide +kernel
theorem dL_rule_95 : decode cL_rule 95 = .ok (.ldc 38, 2) := by decide +kernel
theorem dL_rule_97 : decode cL_rule 97 = .ok (.invokevirtual 17, 3) := by decide +kernel
theorem dL_rule_100 : decode cL_rule 100 = .ok (.pop, 1) := by decide +kernel
theorem dL_rule_101 : decode cL_rule 101 = .ok (.goto 78, 3) := by decide +kernel
theorem dL_rule_104 : decode cL_rule 104 = .ok (.aload_n 0, 1) := by decide +kernel
theorem dL_rule_105 : decode cL_rule 105 = .ok (.ldc 40, 2) := by decide +kernel
theorem dL_rule_107 : decode cL_rule 107 = .ok (.invokevirtual 17, 3) := by decide +kernel
theorem dL_rule_110 : decode cL_rule 110 = .ok (.pop, 1) := by decide +kernel
theorem dL_rule_111 : decode cL_rule 111 = .ok (.iconst 0, 1) := by decide +kernel
theorem dL_rule_112 : decode cL_rule 112 = .ok (.istore_n 3, 1) := by decide +kernel
theorem dL_rule_113 : decode cL_rule 113 = .ok (.iconst 0, 1) := by decide +kernel
theorem dL_rule_114 : decode cL_rule 114 = .ok (.istore 4, 2) := by decide +kernel
theorem dL_rule_116 : decode cL_rule 116 = .ok (.iload 4, 2) := by decide +kernel
theorem dL_rule_118 : decode cL_rule 118 = .ok (.iconst 1, 1) := by decide +kernel
theorem dL_rule_119 : decode cL_rule 119 = .ok (.aload_n 1, 1) := by decide +kernel
theorem dL_rule_120 : decode cL_rule 120 = .ok (.bipush 11, 2) := by decide +kernel
theorem dL_rule_122 : decode cL_rule 122 = .ok (.bipush 10, 2) := by decide +kernel
theorem dL_rule_124 : decode cL_rule 124 = .ok (.iload_n 2, 1) := by decide +kernel
theorem dL_rule_125 : decode cL_rule 125 = .ok (.imul, 1) := by decide +kernel
theorem dL_rule_126 : decode cL_rule 126 = .ok (.iadd, 1) := by decide +kernel
theorem dL_rule_127 : decode cL_rule 127 = .ok (.iconst 4, 1) := by decide +kernel
theorem dL_rule_128 : decode cL_rule 128 = .ok (.invokestatic 28, 3) := by decide +kernel
theorem dL_rule_131 : decode cL_rule 131 = .ok (.iadd, 1) := by decide +kernel
theorem dL_rule_132 : decode cL_rule 132 = .ok (.if_icmp .ge 40, 3) := by decide +kernel
theorem dL_rule_135 : decode cL_rule 135 = .ok (.iload_n 3, 1) := by decide +kernel
theorem dL_rule_136 : decode cL_rule 136 = .ok (.iconst 1, 1) := by decide +kernel
theorem dL_rule_137 : decode cL_rule 137 = .ok (.aload_n 1, 1) := by decide +kernel
theorem dL_rule_138 : decode cL_rule 138 = .ok (.bipush 12, 2) := by decide +kernel
theorem dL_rule_140 : decode cL_rule 140 = .ok (.bipush 10, 2) := by decide +kernel
theorem dL_rule_142 : decode cL_rule 142 = .ok (.iload_n 2, 1) := by decide +kernel
theorem dL_rule_143 : decode cL_rule 143 = .ok (.imul, 1) := by decide +kernel
theorem dL_rule_144 : decode cL_rule 144 = .ok (.iadd, 1) := by decide +kernel
theorem dL_rule_145 : decode cL_rule 145 = .ok (.iload 4, 2) := by decide +kernel
theorem dL_rule_147 : decode cL_rule 147 = .ok (.iadd, 1) := by decide +kernel
theorem dL_rule_148 : decode cL_rule 148 = .ok (.iconst 4, 1) := by decide +kernel
theorem dL_rule_149 : decode cL_rule 149 = .ok (.invokestatic 28, 3) := by decide +kernel
theorem dL_rule_152 : decode cL_rule 152 = .ok (.iadd, 1) := by decide +kernel
theorem dL_rule_153 : decode cL_rule 153 = .ok (.iadd, 1) := by decide +kernel
theorem dL_rule_154 : decode cL_rule 154 = .ok (.istore_n 3, 1) := by decide +kernel
theorem dL_rule_155 : decode cL_rule 155 = .ok (.aload_n 0, 1) := by decide +kernel
theorem dL_rule_156 : decode cL_rule 156 = .ok (.ldc 26, 2) := by decide +kernel
theorem dL_rule_158 : decode cL_rule 158 = .ok (.invokevirtual 17, 3) := by decide +kernel
theorem dL_rule_161 : decode cL_rule 161 = .ok (.iload_n 3, 1) := by decide +kernel
theorem dL_rule_162 : decode cL_rule 162 = .ok (.invokevirtual 42, 3) := by decide +kernel
theorem dL_rule_165 : decode cL_rule 165 = .ok (.pop, 1) := by decide +kernel
theorem dL_rule_166 : decode cL_rule 166 = .ok (.iinc 4 1, 3) := by decide +kernel
theorem dL_rule_169 : decode cL_rule 169 = .ok (.goto (-53), 3) := by decide +kernel
theorem dL_rule_172 : decode cL_rule 172 = .ok (.aload_n 0, 1) := by decide +kernel
theorem dL_rule_173 : decode cL_rule 173 = .ok (.ldc 45, 2) := by decide +kernel
theorem dL_rule_175 : decode cL_rule 175 = .ok (.invokevirtual 17, 3) := by decide +kernel
theorem dL_rule_178 : decode cL_rule 178 = .ok (.pop, 1) := by decide +kernel
theorem dL_rule_179 : decode cL_rule 179 = .ok (.return_, 1) := by decide +kernel
theorem dL_begins_0 : decode cL_begins 0 = .ok (.new 18, 3) := by decide +kernel
theorem dL_begins_3 : decode cL_begins 3 = .ok (.dup, 1) := by decide +kernel
theorem dL_begins_4 : decode cL_begins 4 = .ok (.invokespecial 47, 3) := by decide +kernel
theorem dL_begins_7 : decode cL_begins 7 = .ok (.astore_n 2, 1) := by decide +kernel
theorem dL_begins_8 : decode cL_begins 8 = .ok (.iconst 1, 1) := by decide +kernel
theorem dL_begins_9 : decode cL_begins 9 = .ok (.aload_n 1, 1) := by decide +kernel
theorem dL_begins_10 : decode cL_begins 10 = .ok (.iconst 0, 1) := by decide +kernel
theorem dL_begins_11 : decode cL_begins 11 = .ok (.iconst 3, 1) := by decide +kernel
theorem dL_begins_12 : decode cL_begins 12 = .ok (.invokestatic 28, 3) := by decide +kernel
theorem dL_begins_15 : decode cL_begins 15 = .ok (.iadd, 1) := by decide +kernel
theorem dL_begins_16 : decode cL_begins 16 = .ok (.istore_n 3, 1) := by decide +kernel
theorem dL_begins_17 : decode cL_begins 17 = .ok (.iconst 0, 1) := by decide +kernel
theorem dL_begins_18 : decode cL_begins 18 = .ok (.istore 4, 2) := by decide +kernel
theorem dL_begins_20 : decode cL_begins 20 = .ok (.iload 4, 2) := by decide +kernel
theorem dL_begins_22 : decode cL_begins 22 = .ok (.iload_n 3, 1) := by decide +kernel
theorem dL_begins_23 : decode cL_begins 23 = .ok (.if_icmp .ge 16, 3) := by decide +kernel
theorem dL_begins_26 : decode cL_begins 26 = .ok (.aload_n 2, 1) := by decide +kernel
theorem dL_begins_27 : decode cL_begins 27 = .ok (.aload_n 1, 1) := by decide +kernel
theorem dL_begins_28 : decode cL_begins 28 = .ok (.iload 4, 2) := by decide +kernel
theorem dL_begins_30 : decode cL_begins 30 = .ok (.invokestatic 48, 3) := by decide +kernel
theorem dL_begins_33 : decode cL_begins 33 = .ok (.iinc 4 1, 3) := by decide +kernel
theorem dL_begins_36 : decode cL_begins 36 = .ok (.goto (-16), 3) := by decide +kernel
theorem dL_begins_39 : decode cL_begins 39 = .ok (.aload_n 1, 1) := by decide +kernel
theorem dL_begins_40 : decode cL_begins 40 = .ok (.iconst 1, 1) := by decide +kernel
theorem dL_begins_41 : decode cL_begins 41 = .ok (.iconst 4, 1) := by decide +kernel
theorem dL_begins_42 : decode cL_begins 42 = .ok (.invokestatic 28, 3) := by decide +kernel
theorem dL_begins_45 : decode cL_begins 45 = .ok (.istore 4, 2) := by decide +kernel
theorem dL_begins_47 : decode cL_begins 47 = .ok (.iconst 0, 1) := by decide +kernel
theorem dL_begins_48 : decode cL_begins 48 = .ok (.istore 5, 2) := by decide +kernel
theorem dL_begins_50 : decode cL_begins 50 = .ok (.iload 5, 2) := by decide +kernel
theorem dL_begins_52 : decode cL_begins 52 = .ok (.iload 4, 2) := by decide +kernel
theorem dL_begins_54 : decode cL_begins 54 = .ok (.if_icmp .ge 61, 3) := by decide +kernel
theorem dL_begins_57 : decode cL_begins 57 = .ok (.aload_n 2, 1) := by decide +kernel
theorem dL_begins_58 : decode cL_begins 58 = .ok (.ldc 52, 2) := by decide +kernel
theorem dL_begins_60 : decode cL_begins 60 = .ok (.invokevirtual 17, 3) := by decide +kernel
theorem dL_begins_63 : decode cL_begins 63 = .ok (.bipush 97, 2) := by decide +kernel
theorem dL_begins_65 : decode cL_begins 65 = .ok (.aload_n 1, 1) := by decide +kernel
theorem dL_begins_66 : decode cL_begins 66 = .ok (.bipush 50, 2) := by decide +kernel
theorem dL_begins_68 : decode cL_begins 68 = .ok (.iconst 2, 1) := by decide +kernel
theorem dL_begins_69 : decode cL_begins 69 = .ok (.iload 5, 2) := by decide +kernel
theorem dL_begins_71 : decode cL_begins 71 = .ok (.imul, 1) := by decide +kernel
theorem dL_begins_72 : decode cL_begins 72 = .ok (.iadd, 1) := by decide +kernel
theorem dL_begins_73 : decode cL_begins 73 = .ok (.iload_n 3, 1) := by decide +kernel
theorem dL_begins_74 : decode cL_begins 74 = .ok (.invokestatic 28, 3) := by decide +kernel
theorem dL_begins_77 : decode cL_begins 77 = .ok (.iadd, 1) := by decide +kernel
theorem dL_begins_78 : decode cL_begins 78 = .ok (.i2c, 1) := by decide +kernel
theorem dL_begins_79 : decode cL_begins 79 = .ok (.invokevirtual 23, 3) := by decide +kernel
theorem dL_begins_82 : decode cL_begins 82 = .ok (.ldc 26, 2) := by decide +kernel
theorem dL_begins_84 : decode cL_begins 84 = .ok (.invokevirtual 17, 3) := by decide +kernel
theorem dL_begins_87 : decode cL_begins 87 = .ok (.aload_n 1, 1) := by decide +kernel
theorem dL_begins_88 : decode cL_begins 88 = .ok (.bipush 51, 2) := by decide +kernel
theorem dL_begins_90 : decode cL_begins 90 = .ok (.iconst 2, 1) := by decide +kernel
theorem dL_begins_91 : decode cL_begins 91 = .ok (.iload 5, 2) := by decide +kernel
theorem dL_begins_93 : decode cL_begins 93 = .ok (.imul, 1) := by decide +kernel
theorem dL_begins_94 : decode cL_begins 94 = .ok (.iadd, 1) := by decide +kernel
theorem dL_begins_95 : decode cL_begins 95 = .ok (.bipush 10, 2) := by decide +kernel
theorem dL_begins_97 : decode cL_begins 97 = .ok (.invokestatic 28, 3) := by decide +kernel
theorem dL_begins_100 : decode cL_begins 100 = .ok (.invokevirtual 42, 3) := by decide +kernel
theorem dL_begins_103 : decode cL_begins 103 = .ok (.ldc 45, 2) := by decide +kernel
theorem dL_begins_105 : decode cL_begins 105 = .ok (.invokevirtual 17, 3) := by decide +kernel
theorem dL_begins_108 : decode cL_begins 108 = .ok (.pop, 1) := by decide +kernel
theorem dL_begins_109 : decode cL_begins 109 = .ok (.iinc 5 1, 3) := by decide +kernel
theorem dL_begins_112 : decode cL_begins 112 = .ok (.goto (-62), 3) := by decide +kernel
theorem dL_begins_115 : decode cL_begins 115 = .ok (.aload_n 1, 1) := by decide +kernel
theorem dL_begins_116 : decode cL_begins 116 = .ok (.iconst 2, 1) := by decide +kernel
theorem dL_begins_117 : decode cL_begins 117 = .ok (.iconst 2, 1) := by decide +kernel
theorem dL_begins_118 : decode cL_begins 118 = .ok (.invokestatic 28, 3) := by decide +kernel
theorem dL_begins_121 : decode cL_begins 121 = .ok (.ifCond .ne 42, 3) := by decide +kernel
theorem dL_begins_124 : decode cL_begins 124 = .ok (.aload_n 2, 1) := by decide +kernel
theorem dL_begins_125 : decode cL_begins 125 = .ok (.ldc 54, 2) := by decide +kernel
theorem dL_begins_127 : decode cL_begins 127 = .ok (.invokevirtual 17, 3) := by decide +kernel
theorem dL_begins_130 : decode cL_begins 130 = .ok (.iconst 1, 1) := by decide +kernel
theorem dL_begins_131 : decode cL_begins 131 = .ok (.aload_n 1, 1) := by decide +kernel
theorem dL_begins_132 : decode cL_begins 132 = .ok (.iconst 3, 1) := by decide +kernel
theorem dL_begins_133 : decode cL_begins 133 = .ok (.iconst 3, 1) := by decide +kernel
theorem dL_begins_134 : decode cL_begins 134 = .ok (.invokestatic 28, 3) := by decide +kernel
theorem dL_begins_137 : decode cL_begins 137 = .ok (.iadd, 1) := by decide +kernel
theorem dL_begins_138 : decode cL_begins 138 = .ok (.invokevirtual 42, 3) := by decide +kernel
theorem dL_begins_141 : decode cL_begins 141 = .ok (.ldc 26, 2) := by decide +kernel
theorem dL_begins_143 : decode cL_begins 143 = .ok (.invokevirtual 17, 3) := by decide +kernel
theorem dL_begins_146 : decode cL_begins 146 = .ok (.iconst 4, 1) := by decide +kernel
theorem dL_begins_147 : decode cL_begins 147 = .ok (.aload_n 1, 1) := by decide +kernel
theorem dL_begins_148 : decode cL_begins 148 = .ok (.iconst 4, 1) := by decide +kernel
theorem dL_begins_149 : decode cL_begins 149 = .ok (.iconst 3, 1) := by decide +kernel
theorem dL_begins_150 : decode cL_begins 150 = .ok (.invokestatic 28, 3) := by decide +kernel
theorem dL_begins_153 : decode cL_begins 153 = .ok (.iadd, 1) := by decide +kernel
theorem dL_begins_154 : decode cL_begins 154 = .ok (.invokevirtual 42, 3) := by decide +kernel
theorem dL_begins_157 : decode cL_begins 157 = .ok (.ldc 45, 2) := by decide +kernel
theorem dL_begins_159 : decode cL_begins 159 = .ok (.invokevirtual 17, 3) := by decide +kernel
theorem dL_begins_162 : decode cL_begins 162 = .ok (.pop, 1) := by decide +kernel
theorem dL_begins_163 : decode cL_begins 163 = .ok (.aload_n 1, 1) := by decide +kernel
theorem dL_begins_164 : decode cL_begins 164 = .ok (.iconst 5, 1) := by decide +kernel
theorem dL_begins_165 : decode cL_begins 165 = .ok (.iconst 2, 1) := by decide +kernel
theorem dL_begins_166 : decode cL_begins 166 = .ok (.invokestatic 28, 3) := by decide +kernel
theorem dL_begins_169 : decode cL_begins 169 = .ok (.ifCond .ne 25, 3) := by decide +kernel
theorem dL_begins_172 : decode cL_begins 172 = .ok (.aload_n 2, 1) := by decide +kernel
theorem dL_begins_173 : decode cL_begins 173 = .ok (.ldc 56, 2) := by decide +kernel
theorem dL_begins_175 : decode cL_begins 175 = .ok (.invokevirtual 17, 3) := by decide +kernel
theorem dL_begins_178 : decode cL_begins 178 = .ok (.aload_n 1, 1) := by decide +kernel
theorem dL_begins_179 : decode cL_begins 179 = .ok (.bipush 6, 2) := by decide +kernel
theorem dL_begins_181 : decode cL_begins 181 = .ok (.iconst 4, 1) := by decide +kernel
theorem dL_begins_182 : decode cL_begins 182 = .ok (.invokestatic 28, 3) := by decide +kernel
theorem dL_begins_185 : decode cL_begins 185 = .ok (.invokevirtual 42, 3) := by decide +kernel
theorem dL_begins_188 : decode cL_begins 188 = .ok (.ldc 45, 2) := by decide +kernel
theorem dL_begins_190 : decode cL_begins 190 = .ok (.invokevirtual 17, 3) := by decide +kernel
theorem dL_begins_193 : decode cL_begins 193 = .ok (.pop, 1) := by decide +kernel
theorem dL_begins_194 : decode cL_begins 194 = .ok (.aload_n 1, 1) := by decide +kernel
theorem dL_begins_195 : decode cL_begins 195 = .ok (.bipush 7, 2) := by decide +kernel
theorem dL_begins_197 : decode cL_begins 197 = .ok (.iconst 2, 1) := by decide +kernel
theorem dL_begins_198 : decode cL_begins 198 = .ok (.invokestatic 28, 3) := by decide +kernel
theorem dL_begins_201 : decode cL_begins 201 = .ok (.ifCond .ne 10, 3) := by decide +kernel
theorem dL_begins_204 : decode cL_begins 204 = .ok (.aload_n 2, 1) := by decide +kernel
theorem dL_begins_205 : decode cL_begins 205 = .ok (.ldc 58, 2) := by decide +kernel
theorem dL_begins_207 : decode cL_begins 207 = .ok (.invokevirtual 17, 3) := by decide +kernel
theorem dL_begins_210 : decode cL_begins 210 = .ok (.pop, 1) := by decide +kernel
theorem dL_begins_211 : decode cL_begins 211 = .ok (.aload_n 2, 1) := by decide +kernel
theorem dL_begins_212 : decode cL_begins 212 = .ok (.invokevirtual 60, 3) := by decide +kernel
theorem dL_begins_215 : decode cL_begins 215 = .ok (.istore 5, 2) := by decide +kernel
theorem dL_begins_217 : decode cL_begins 217 = .ok (.iconst 0, 1) := by decide +kernel
theorem dL_begins_218 : decode cL_begins 218 = .ok (.istore 6, 2) := by decide +kernel
theorem dL_begins_220 : decode cL_begins 220 = .ok (.iload 6, 2) := by decide +kernel
theorem dL_begins_222 : decode cL_begins 222 = .ok (.iload 5, 2) := by decide +kernel
theorem dL_begins_224 : decode cL_begins 224 = .ok (.if_icmp .ge 97, 3) := by decide +kernel
theorem dL_begins_227 : decode cL_begins 227 = .ok (.iconst 5, 1) := by decide +kernel
theorem dL_begins_228 : decode cL_begins 228 = .ok (.newarray .int, 2) := by decide +kernel
theorem dL_begins_230 : decode cL_begins 230 = .ok (.astore 7, 2) := by decide +kernel
theorem dL_begins_232 : decode cL_begins 232 = .ok (.iconst 0, 1) := by decide +kernel
theorem dL_begins_233 : decode cL_begins 233 = .ok (.istore 8, 2) := by decide +kernel
theorem dL_begins_235 : decode cL_begins 235 = .ok (.iload 8, 2) := by decide +kernel
theorem dL_begins_237 : decode cL_begins 237 = .ok (.bipush 20, 2) := by decide +kernel
theorem dL_begins_239 : decode cL_begins 239 = .ok (.if_icmp .ge 51, 3) := by decide +kernel
theorem dL_begins_242 : decode cL_begins 242 = .ok (.aload 7, 2) := by decide +kernel
theorem dL_begins_244 : decode cL_begins 244 = .ok (.iload 8, 2) := by decide +kernel
theorem dL_begins_246 : decode cL_begins 246 = .ok (.iconst 4, 1) := by decide +kernel
theorem dL_begins_247 : decode cL_begins 247 = .ok (.idiv, 1) := by decide +kernel
theorem dL_begins_248 : decode cL_begins 248 = .ok (.aload 7, 2) := by decide +kernel
theorem dL_begins_250 : decode cL_begins 250 = .ok (.iload 8, 2) := by decide +kernel
theorem dL_begins_252 : decode cL_begins 252 = .ok (.iconst 4, 1) := by decide +kernel
theorem dL_begins_253 : decode cL_begins 253 = .ok (.idiv, 1) := by decide +kernel
theorem dL_begins_254 : decode cL_begins 254 = .ok (.iaload, 1) := by decide +kernel
theorem dL_begins_255 : decode cL_begins 255 = .ok (.bipush 8, 2) := by decide +kernel
theorem dL_begins_257 : decode cL_begins 257 = .ok (.ishl, 1) := by decide +kernel
theorem dL_begins_258 : decode cL_begins 258 = .ok (.iload 6, 2) := by decide +kernel
theorem dL_begins_260 : decode cL_begins 260 = .ok (.iload 8, 2) := by decide +kernel
theorem dL_begins_262 : decode cL_begins 262 = .ok (.iadd, 1) := by decide +kernel
theorem dL_begins_263 : decode cL_begins 263 = .ok (.iload 5, 2) := by decide +kernel
theorem dL_begins_265 : decode cL_begins 265 = .ok (.if_icmp .ge 15, 3) := by decide +kernel
theorem dL_begins_268 : decode cL_begins 268 = .ok (.aload_n 2, 1) := by decide +kernel
theorem dL_begins_269 : decode cL_begins 269 = .ok (.iload 6, 2) := by decide +kernel
theorem dL_begins_271 : decode cL_begins 271 = .ok (.iload 8, 2) := by decide +kernel
theorem dL_begins_273 : decode cL_begins 273 = .ok (.iadd, 1) := by decide +kernel
theorem dL_begins_274 : decode cL_begins 274 = .ok (.invokevirtual 64, 3) := by decide +kernel
theorem dL_begins_277 : decode cL_begins 277 = .ok (.goto 5, 3) := by decide +kernel
theorem dL_begins_280 : decode cL_begins 280 = .ok (.bipush 32, 2) := by decide +kernel
theorem dL_begins_282 : decode cL_begins 282 = .ok (.ior, 1) := by decide +kernel
theorem dL_begins_283 : decode cL_begins 283 = .ok (.iastore, 1) := by decide +kernel
theorem dL_begins_284 : decode cL_begins 284 = .ok (.iinc 8 1, 3) := by decide +kernel
theorem dL_begins_287 : decode cL_begins 287 = .ok (.goto (-52), 3) := by decide +kernel
theorem dL_begins_290 : decode cL_begins 290 = .ok (.aload_n 0, 1) := by decide +kernel
theorem dL_begins_291 : decode cL_begins 291 = .ok (.aload 7, 2) := by decide +kernel
theorem dL_begins_293 : decode cL_begins 293 = .ok (.iconst 0, 1) := by decide +kernel
theorem dL_begins_294 : decode cL_begins 294 = .ok (.iaload, 1) := by decide +kernel
theorem dL_begins_295 : decode cL_begins 295 = .ok (.aload 7, 2) := by decide +kernel
theorem dL_begins_297 : decode cL_begins 297 = .ok (.iconst 1, 1) := by decide +kernel
theorem dL_begins_298 : decode cL_begins 298 = .ok (.iaload, 1) := by decide +kernel
theorem dL_begins_299 : decode cL_begins 299 = .ok (.aload 7, 2) := by decide +kernel
theorem dL_begins_301 : decode cL_begins 301 = .ok (.iconst 2, 1) := by decide +kernel
theorem dL_begins_302 : decode cL_begins 302 = .ok (.iaload, 1) := by decide +kernel
theorem dL_begins_303 : decode cL_begins 303 = .ok (.aload 7, 2) := by decide +kernel
theorem dL_begins_305 : decode cL_begins 305 = .ok (.iconst 3, 1) := by decide +kernel
theorem dL_begins_306 : decode cL_begins 306 = .ok (.iaload, 1) := by decide +kernel
theorem dL_begins_307 : decode cL_begins 307 = .ok (.aload 7, 2) := by decide +kernel
theorem dL_begins_309 : decode cL_begins 309 = .ok (.iconst 4, 1) := by decide +kernel
theorem dL_begins_310 : decode cL_begins 310 = .ok (.iaload, 1) := by decide +kernel
theorem dL_begins_311 : decode cL_begins 311 = .ok (.invokevirtual 68, 3) := by decide +kernel
theorem dL_begins_314 : decode cL_begins 314 = .ok (.pop, 1) := by decide +kernel
theorem dL_begins_315 : decode cL_begins 315 = .ok (.iinc 6 20, 3) := by decide +kernel
theorem dL_begins_318 : decode cL_begins 318 = .ok (.goto (-98), 3) := by decide +kernel
theorem dL_begins_321 : decode cL_begins 321 = .ok (.aload_n 0, 1) := by decide +kernel
theorem dL_begins_322 : decode cL_begins 322 = .ok (.iload 5, 2) := by decide +kernel
theorem dL_begins_324 : decode cL_begins 324 = .ok (.invokevirtual 73, 3) := by decide +kernel
theorem dL_begins_327 : decode cL_begins 327 = .ok (.iload_n 3, 1) := by decide +kernel
theorem dL_begins_328 : decode cL_begins 328 = .ok (.if_icmp .ne 17, 3) := by decide +kernel
theorem dL_begins_331 : decode cL_begins 331 = .ok (.aload_n 0, 1) := by decide +kernel
theorem dL_begins_332 : decode cL_begins 332 = .ok (.iconst 1, 1) := by decide +kernel
theorem dL_begins_333 : decode cL_begins 333 = .ok (.invokevirtual 77, 3) := by decide +kernel
theorem dL_begins_336 : decode cL_begins 336 = .ok (.iload 4, 2) := by decide +kernel
theorem dL_begins_338 : decode cL_begins 338 = .ok (.if_icmp .ne 7, 3) := by decide +kernel
theorem dL_begins_341 : decode cL_begins 341 = .ok (.iconst 1, 1) := by decide +kernel
theorem dL_begins_342 : decode cL_begins 342 = .ok (.goto 4, 3) := by decide +kernel
theorem dL_begins_345 : decode cL_begins 345 = .ok (.iconst 0, 1) := by decide +kernel
theorem dL_begins_346 : decode cL_begins 346 = .ok (.ireturn, 1) := by decide +kernel
theorem dL_isPosition_0 : decode cL_isPosition 0 = .ok (.sipush 128, 3) := by decide +kernel
theorem dL_isPosition_3 : decode cL_isPosition 3 = .ok (.newarray .boolean, 2) := by decide +kernel
theorem dL_isPosition_5 : decode cL_isPosition 5 = .ok (.astore_n 1, 1) := by decide +kernel
theorem dL_isPosition_6 : decode cL_isPosition 6 = .ok (.iconst 0, 1) := by decide +kernel
theorem dL_isPosition_7 : decode cL_isPosition 7 = .ok (.istore_n 2, 1) := by decide +kernel
theorem dL_isPosition_8 : decode cL_isPosition 8 = .ok (.sipush 1000, 3) := by decide +kernel
theorem dL_isPosition_11 : decode cL_isPosition 11 = .ok (.istore_n 3, 1) := by decide +kernel
theorem dL_isPosition_12 : decode cL_isPosition 12 = .ok (.iconst 0, 1) := by decide +kernel
theorem dL_isPosition_13 : decode cL_isPosition 13 = .ok (.istore 4, 2) := by decide +kernel
theorem dL_isPosition_15 : decode cL_isPosition 15 = .ok (.iconst 0, 1) := by decide +kernel
theorem dL_isPosition_16 : decode cL_isPosition 16 = .ok (.istore 5, 2) := by decide +kernel
theorem dL_isPosition_18 : decode cL_isPosition 18 = .ok (.iload 5, 2) := by decide +kernel
theorem dL_isPosition_20 : decode cL_isPosition 20 = .ok (.aload_n 0, 1) := by decide +kernel
theorem dL_isPosition_21 : decode cL_isPosition 21 = .ok (.invokevirtual 80, 3) := by decide +kernel
theorem dL_isPosition_24 : decode cL_isPosition 24 = .ok (.if_icmp .ge 68, 3) := by decide +kernel
theorem dL_isPosition_27 : decode cL_isPosition 27 = .ok (.aload_n 1, 1) := by decide +kernel
theorem dL_isPosition_28 : decode cL_isPosition 28 = .ok (.aload_n 0, 1) := by decide +kernel
theorem dL_isPosition_29 : decode cL_isPosition 29 = .ok (.iload 5, 2) := by decide +kernel
theorem dL_isPosition_31 : decode cL_isPosition 31 = .ok (.iconst 4, 1) := by decide +kernel
theorem dL_isPosition_32 : decode cL_isPosition 32 = .ok (.invokevirtual 83, 3) := by decide +kernel
theorem dL_isPosition_35 : decode cL_isPosition 35 = .ok (.iconst 1, 1) := by decide +kernel
theorem dL_isPosition_36 : decode cL_isPosition 36 = .ok (.bastore, 1) := by decide +kernel
theorem dL_isPosition_37 : decode cL_isPosition 37 = .ok (.iload_n 2, 1) := by decide +kernel
theorem dL_isPosition_38 : decode cL_isPosition 38 = .ok (.aload_n 0, 1) := by decide +kernel
theorem dL_isPosition_39 : decode cL_isPosition 39 = .ok (.iload 5, 2) := by decide +kernel
theorem dL_isPosition_41 : decode cL_isPosition 41 = .ok (.iconst 5, 1) := by decide +kernel
theorem dL_isPosition_42 : decode cL_isPosition 42 = .ok (.invokevirtual 83, 3) := by decide +kernel
theorem dL_isPosition_45 : decode cL_isPosition 45 = .ok (.iadd, 1) := by decide +kernel
theorem dL_isPosition_46 : decode cL_isPosition 46 = .ok (.istore_n 2, 1) := by decide +kernel
theorem dL_isPosition_47 : decode cL_isPosition 47 = .ok (.aload_n 0, 1) := by decide +kernel
theorem dL_isPosition_48 : decode cL_isPosition 48 = .ok (.iload 5, 2) := by decide +kernel
theorem dL_isPosition_50 : decode cL_isPosition 50 = .ok (.iconst 5, 1) := by decide +kernel
theorem dL_isPosition_51 : decode cL_isPosition 51 = .ok (.invokevirtual 83, 3) := by decide +kernel
theorem dL_isPosition_54 : decode cL_isPosition 54 = .ok (.iconst 1, 1) := by decide +kernel
theorem dL_isPosition_55 : decode cL_isPosition 55 = .ok (.if_icmp .ne 16, 3) := by decide +kernel
theorem dL_isPosition_58 : decode cL_isPosition 58 = .ok (.iload_n 3, 1) := by decide +kernel
theorem dL_isPosition_59 : decode cL_isPosition 59 = .ok (.aload_n 0, 1) := by decide +kernel
theorem dL_isPosition_60 : decode cL_isPosition 60 = .ok (.iload 5, 2) := by decide +kernel
theorem dL_isPosition_62 : decode cL_isPosition 62 = .ok (.bipush 6, 2) := by decide +kernel
theorem dL_isPosition_64 : decode cL_isPosition 64 = .ok (.invokevirtual 83, 3) := by decide +kernel
theorem dL_isPosition_67 : decode cL_isPosition 67 = .ok (.invokestatic 87, 3) := by decide +kernel
theorem dL_isPosition_70 : decode cL_isPosition 70 = .ok (.istore_n 3, 1) := by decide +kernel
theorem dL_isPosition_71 : decode cL_isPosition 71 = .ok (.iload 4, 2) := by decide +kernel
theorem dL_isPosition_73 : decode cL_isPosition 73 = .ok (.aload_n 0, 1) := by decide +kernel
theorem dL_isPosition_74 : decode cL_isPosition 74 = .ok (.iload 5, 2) := by decide +kernel
theorem dL_isPosition_76 : decode cL_isPosition 76 = .ok (.bipush 6, 2) := by decide +kernel
theorem dL_isPosition_78 : decode cL_isPosition 78 = .ok (.invokevirtual 83, 3) := by decide +kernel
theorem dL_isPosition_81 : decode cL_isPosition 81 = .ok (.invokestatic 92, 3) := by decide +kernel
theorem dL_isPosition_84 : decode cL_isPosition 84 = .ok (.istore 4, 2) := by decide +kernel
theorem dL_isPosition_86 : decode cL_isPosition 86 = .ok (.iinc 5 1, 3) := by decide +kernel
theorem dL_isPosition_89 : decode cL_isPosition 89 = .ok (.goto (-71), 3) := by decide +kernel
theorem dL_isPosition_92 : decode cL_isPosition 92 = .ok (.iconst 0, 1) := by decide +kernel
theorem dL_isPosition_93 : decode cL_isPosition 93 = .ok (.istore 5, 2) := by decide +kernel
theorem dL_isPosition_95 : decode cL_isPosition 95 = .ok (.aload_n 1, 1) := by decide +kernel
theorem dL_isPosition_96 : decode cL_isPosition 96 = .ok (.iload 5, 2) := by decide +kernel
theorem dL_isPosition_98 : decode cL_isPosition 98 = .ok (.baload, 1) := by decide +kernel
theorem dL_isPosition_99 : decode cL_isPosition 99 = .ok (.ifCond .eq 9, 3) := by decide +kernel
theorem dL_isPosition_102 : decode cL_isPosition 102 = .ok (.iinc 5 1, 3) := by decide +kernel
theorem dL_isPosition_105 : decode cL_isPosition 105 = .ok (.goto (-10), 3) := by decide +kernel
theorem dL_isPosition_108 : decode cL_isPosition 108 = .ok (.aload_n 0, 1) := by decide +kernel
theorem dL_isPosition_109 : decode cL_isPosition 109 = .ok (.invokevirtual 80, 3) := by decide +kernel
theorem dL_isPosition_112 : decode cL_isPosition 112 = .ok (.ifCond .ne 20, 3) := by decide +kernel
theorem dL_isPosition_115 : decode cL_isPosition 115 = .ok (.aload_n 0, 1) := by decide +kernel
theorem dL_isPosition_116 : decode cL_isPosition 116 = .ok (.iconst 4, 1) := by decide +kernel
theorem dL_isPosition_117 : decode cL_isPosition 117 = .ok (.invokevirtual 77, 3) := by decide +kernel
theorem dL_isPosition_120 : decode cL_isPosition 120 = .ok (.iconst 1, 1) := by decide +kernel
theorem dL_isPosition_121 : decode cL_isPosition 121 = .ok (.if_icmp .ne 7, 3) := by decide +kernel
theorem dL_isPosition_124 : decode cL_isPosition 124 = .ok (.iconst 1, 1) := by decide +kernel
theorem dL_isPosition_125 : decode cL_isPosition 125 = .ok (.goto 16, 3) := by decide +kernel
theorem dL_isPosition_128 : decode cL_isPosition 128 = .ok (.iconst 0, 1) := by decide +kernel
theorem dL_isPosition_129 : decode cL_isPosition 129 = .ok (.goto 12, 3) := by decide +kernel
theorem dL_isPosition_132 : decode cL_isPosition 132 = .ok (.iload_n 2, 1) := by decide +kernel
theorem dL_isPosition_133 : decode cL_isPosition 133 = .ok (.ifCond .le 7, 3) := by decide +kernel
theorem dL_isPosition_136 : decode cL_isPosition 136 = .ok (.iconst 1, 1) := by decide +kernel
theorem dL_isPosition_137 : decode cL_isPosition 137 = .ok (.goto 4, 3) := by decide +kernel
theorem dL_isPosition_140 : decode cL_isPosition 140 = .ok (.iconst 0, 1) := by decide +kernel
theorem dL_isPosition_141 : decode cL_isPosition 141 = .ok (.istore 6, 2) := by decide +kernel
theorem dL_isPosition_143 : decode cL_isPosition 143 = .ok (.aload_n 0, 1) := by decide +kernel
theorem dL_isPosition_144 : decode cL_isPosition 144 = .ok (.invokevirtual 80, 3) := by decide +kernel
theorem dL_isPosition_147 : decode cL_isPosition 147 = .ok (.ifCond .ne 7, 3) := by decide +kernel
theorem dL_isPosition_150 : decode cL_isPosition 150 = .ok (.iconst 0, 1) := by decide +kernel
theorem dL_isPosition_151 : decode cL_isPosition 151 = .ok (.goto 16, 3) := by decide +kernel
theorem dL_isPosition_154 : decode cL_isPosition 154 = .ok (.iconst 1, 1) := by decide +kernel
theorem dL_isPosition_155 : decode cL_isPosition 155 = .ok (.iload 6, 2) := by decide +kernel
theorem dL_isPosition_157 : decode cL_isPosition 157 = .ok (.ifCond .eq 7, 3) := by decide +kernel
theorem dL_isPosition_160 : decode cL_isPosition 160 = .ok (.iload_n 3, 1) := by decide +kernel
theorem dL_isPosition_161 : decode cL_isPosition 161 = .ok (.goto 5, 3) := by decide +kernel
theorem dL_isPosition_164 : decode cL_isPosition 164 = .ok (.iload 4, 2) := by decide +kernel
theorem dL_isPosition_166 : decode cL_isPosition 166 = .ok (.iadd, 1) := by decide +kernel
theorem dL_isPosition_167 : decode cL_isPosition 167 = .ok (.istore 7, 2) := by decide +kernel
theorem dL_isPosition_169 : decode cL_isPosition 169 = .ok (.aload_n 0, 1) := by decide +kernel
theorem dL_isPosition_170 : decode cL_isPosition 170 = .ok (.invokevirtual 95, 3) := by decide +kernel
theorem dL_isPosition_173 : decode cL_isPosition 173 = .ok (.iload 5, 2) := by decide +kernel
theorem dL_isPosition_175 : decode cL_isPosition 175 = .ok (.if_icmp .ne 29, 3) := by decide +kernel
theorem dL_isPosition_178 : decode cL_isPosition 178 = .ok (.aload_n 0, 1) := by decide +kernel
theorem dL_isPosition_179 : decode cL_isPosition 179 = .ok (.invokevirtual 98, 3) := by decide +kernel
theorem dL_isPosition_182 : decode cL_isPosition 182 = .ok (.iload 6, 2) := by decide +kernel
theorem dL_isPosition_184 : decode cL_isPosition 184 = .ok (.if_icmp .ne 20, 3) := by decide +kernel
theorem dL_isPosition_187 : decode cL_isPosition 187 = .ok (.aload_n 0, 1) := by decide +kernel
theorem dL_isPosition_188 : decode cL_isPosition 188 = .ok (.invokevirtual 102, 3) := by decide +kernel
theorem dL_isPosition_191 : decode cL_isPosition 191 = .ok (.iload 7, 2) := by decide +kernel
theorem dL_isPosition_193 : decode cL_isPosition 193 = .ok (.if_icmp .ne 11, 3) := by decide +kernel
theorem dL_isPosition_196 : decode cL_isPosition 196 = .ok (.aload_n 0, 1) := by decide +kernel
theorem dL_isPosition_197 : decode cL_isPosition 197 = .ok (.invokevirtual 103, 3) := by decide +kernel
theorem dL_isPosition_200 : decode cL_isPosition 200 = .ok (.iload_n 2, 1) := by decide +kernel
theorem dL_isPosition_201 : decode cL_isPosition 201 = .ok (.if_icmp .eq 5, 3) := by decide +kernel
theorem dL_isPosition_204 : decode cL_isPosition 204 = .ok (.iconst 0, 1) := by decide +kernel
theorem dL_isPosition_205 : decode cL_isPosition 205 = .ok (.ireturn, 1) := by decide +kernel
theorem dL_isPosition_206 : decode cL_isPosition 206 = .ok (.aload_n 0, 1) := by decide +kernel
theorem dL_isPosition_207 : decode cL_isPosition 207 = .ok (.invokevirtual 80, 3) := by decide +kernel
theorem dL_isPosition_210 : decode cL_isPosition 210 = .ok (.ifCond .ne 19, 3) := by decide +kernel
theorem dL_isPosition_213 : decode cL_isPosition 213 = .ok (.aload_n 0, 1) := by decide +kernel
theorem dL_isPosition_214 : decode cL_isPosition 214 = .ok (.invokevirtual 106, 3) := by decide +kernel
theorem dL_isPosition_217 : decode cL_isPosition 217 = .ok (.iconst (-1), 1) := by decide +kernel
theorem dL_isPosition_218 : decode cL_isPosition 218 = .ok (.if_icmp .ne 7, 3) := by decide +kernel
theorem dL_isPosition_221 : decode cL_isPosition 221 = .ok (.iconst 1, 1) := by decide +kernel
theorem dL_isPosition_222 : decode cL_isPosition 222 = .ok (.goto 51, 3) := by decide +kernel
theorem dL_isPosition_225 : decode cL_isPosition 225 = .ok (.iconst 0, 1) := by decide +kernel
theorem dL_isPosition_226 : decode cL_isPosition 226 = .ok (.goto 47, 3) := by decide +kernel
theorem dL_isPosition_229 : decode cL_isPosition 229 = .ok (.aload_n 0, 1) := by decide +kernel
theorem dL_isPosition_230 : decode cL_isPosition 230 = .ok (.aload_n 0, 1) := by decide +kernel
theorem dL_isPosition_231 : decode cL_isPosition 231 = .ok (.invokevirtual 106, 3) := by decide +kernel
theorem dL_isPosition_234 : decode cL_isPosition 234 = .ok (.bipush 6, 2) := by decide +kernel
theorem dL_isPosition_236 : decode cL_isPosition 236 = .ok (.invokevirtual 83, 3) := by decide +kernel
theorem dL_isPosition_239 : decode cL_isPosition 239 = .ok (.iload 7, 2) := by decide +kernel
theorem dL_isPosition_241 : decode cL_isPosition 241 = .ok (.iconst 1, 1) := by decide +kernel
theorem dL_isPosition_242 : decode cL_isPosition 242 = .ok (.isub, 1) := by decide +kernel
theorem dL_isPosition_243 : decode cL_isPosition 243 = .ok (.if_icmp .ne 29, 3) := by decide +kernel
theorem dL_isPosition_246 : decode cL_isPosition 246 = .ok (.aload_n 0, 1) := by decide +kernel
theorem dL_isPosition_247 : decode cL_isPosition 247 = .ok (.aload_n 0, 1) := by decide +kernel
theorem dL_isPosition_248 : decode cL_isPosition 248 = .ok (.invokevirtual 106, 3) := by decide +kernel
theorem dL_isPosition_251 : decode cL_isPosition 251 = .ok (.iconst 5, 1) := by decide +kernel
theorem dL_isPosition_252 : decode cL_isPosition 252 = .ok (.invokevirtual 83, 3) := by decide +kernel
theorem dL_isPosition_255 : decode cL_isPosition 255 = .ok (.iload 6, 2) := by decide +kernel
theorem dL_isPosition_257 : decode cL_isPosition 257 = .ok (.ifCond .eq 7, 3) := by decide +kernel
theorem dL_isPosition_260 : decode cL_isPosition 260 = .ok (.iconst 1, 1) := by decide +kernel
theorem dL_isPosition_261 : decode cL_isPosition 261 = .ok (.goto 4, 3) := by decide +kernel
theorem dL_isPosition_264 : decode cL_isPosition 264 = .ok (.iconst 0, 1) := by decide +kernel
theorem dL_isPosition_265 : decode cL_isPosition 265 = .ok (.if_icmp .ne 7, 3) := by decide +kernel
theorem dL_isPosition_268 : decode cL_isPosition 268 = .ok (.iconst 1, 1) := by decide +kernel
theorem dL_isPosition_269 : decode cL_isPosition 269 = .ok (.goto 4, 3) := by decide +kernel
theorem dL_isPosition_272 : decode cL_isPosition 272 = .ok (.iconst 0, 1) := by decide +kernel
theorem dL_isPosition_273 : decode cL_isPosition 273 = .ok (.ireturn, 1) := by decide +kernel
theorem dL_isSum_0 : decode cL_isSum 0 = .ok (.aload_n 0, 1) := by decide +kernel
theorem dL_isSum_1 : decode cL_isSum 1 = .ok (.iconst 3, 1) := by decide +kernel
theorem dL_isSum_2 : decode cL_isSum 2 = .ok (.invokevirtual 77, 3) := by decide +kernel
theorem dL_isSum_5 : decode cL_isSum 5 = .ok (.ifCond .ne 24, 3) := by decide +kernel
theorem dL_isSum_8 : decode cL_isSum 8 = .ok (.aload_n 0, 1) := by decide +kernel
theorem dL_isSum_9 : decode cL_isSum 9 = .ok (.iconst 2, 1) := by decide +kernel
theorem dL_isSum_10 : decode cL_isSum 10 = .ok (.invokevirtual 77, 3) := by decide +kernel
theorem dL_isSum_13 : decode cL_isSum 13 = .ok (.ifCond .ne 16, 3) := by decide +kernel
theorem dL_isSum_16 : decode cL_isSum 16 = .ok (.aload_n 0, 1) := by decide +kernel
theorem dL_isSum_17 : decode cL_isSum 17 = .ok (.invokevirtual 95, 3) := by decide +kernel
theorem dL_isSum_20 : decode cL_isSum 20 = .ok (.aload_n 0, 1) := by decide +kernel
theorem dL_isSum_21 : decode cL_isSum 21 = .ok (.invokevirtual 109, 3) := by decide +kernel
theorem dL_isSum_24 : decode cL_isSum 24 = .ok (.if_icmp .eq 5, 3) := by decide +kernel
theorem dL_isSum_27 : decode cL_isSum 27 = .ok (.iconst 0, 1) := by decide +kernel
theorem dL_isSum_28 : decode cL_isSum 28 = .ok (.ireturn, 1) := by decide +kernel
theorem dL_isSum_29 : decode cL_isSum 29 = .ok (.aload_n 0, 1) := by decide +kernel
theorem dL_isSum_30 : decode cL_isSum 30 = .ok (.iconst 4, 1) := by decide +kernel
theorem dL_isSum_31 : decode cL_isSum 31 = .ok (.invokevirtual 77, 3) := by decide +kernel
theorem dL_isSum_34 : decode cL_isSum 34 = .ok (.iconst 1, 1) := by decide +kernel
theorem dL_isSum_35 : decode cL_isSum 35 = .ok (.if_icmp .eq 22, 3) := by decide +kernel
theorem dL_isSum_38 : decode cL_isSum 38 = .ok (.aload_n 0, 1) := by decide +kernel
theorem dL_isSum_39 : decode cL_isSum 39 = .ok (.invokevirtual 98, 3) := by decide +kernel
theorem dL_isSum_42 : decode cL_isSum 42 = .ok (.aload_n 0, 1) := by decide +kernel
theorem dL_isSum_43 : decode cL_isSum 43 = .ok (.invokevirtual 95, 3) := by decide +kernel
theorem dL_isSum_46 : decode cL_isSum 46 = .ok (.ifCond .eq 7, 3) := by decide +kernel
theorem dL_isSum_49 : decode cL_isSum 49 = .ok (.iconst 1, 1) := by decide +kernel
theorem dL_isSum_50 : decode cL_isSum 50 = .ok (.goto 4, 3) := by decide +kernel
theorem dL_isSum_53 : decode cL_isSum 53 = .ok (.iconst 0, 1) := by decide +kernel
theorem dL_isSum_54 : decode cL_isSum 54 = .ok (.if_icmp .ne 7, 3) := by decide +kernel
theorem dL_isSum_57 : decode cL_isSum 57 = .ok (.iconst 1, 1) := by decide +kernel
theorem dL_isSum_58 : decode cL_isSum 58 = .ok (.goto 4, 3) := by decide +kernel
theorem dL_isSum_61 : decode cL_isSum 61 = .ok (.iconst 0, 1) := by decide +kernel
theorem dL_isSum_62 : decode cL_isSum 62 = .ok (.ireturn, 1) := by decide +kernel
theorem dL_refuses_0 : decode cL_refuses 0 = .ok (.aload_n 0, 1) := by decide +kernel
theorem dL_refuses_1 : decode cL_refuses 1 = .ok (.invokevirtual 112, 3) := by decide +kernel
theorem dL_refuses_4 : decode cL_refuses 4 = .ok (.pop, 1) := by decide +kernel
theorem dL_refuses_5 : decode cL_refuses 5 = .ok (.goto 6, 3) := by decide +kernel
theorem dL_refuses_8 : decode cL_refuses 8 = .ok (.astore_n 1, 1) := by decide +kernel
theorem dL_refuses_9 : decode cL_refuses 9 = .ok (.iconst 1, 1) := by decide +kernel
theorem dL_refuses_10 : decode cL_refuses 10 = .ok (.ireturn, 1) := by decide +kernel
theorem dL_refuses_11 : decode cL_refuses 11 = .ok (.iconst 0, 1) := by decide +kernel
theorem dL_refuses_12 : decode cL_refuses 12 = .ok (.ireturn, 1) := by decide +kernel
theorem dL_law_0 : decode cL_law 0 = .ok (.new 69, 3) := by decide +kernel
theorem dL_law_3 : decode cL_law 3 = .ok (.dup, 1) := by decide +kernel
theorem dL_law_4 : decode cL_law 4 = .ok (.invokespecial 117, 3) := by decide +kernel
theorem dL_law_7 : decode cL_law 7 = .ok (.astore_n 1, 1) := by decide +kernel
theorem dL_law_8 : decode cL_law 8 = .ok (.aload_n 1, 1) := by decide +kernel
theorem dL_law_9 : decode cL_law 9 = .ok (.invokevirtual 118, 3) := by decide +kernel
theorem dL_law_12 : decode cL_law 12 = .ok (.lconst 0, 1) := by decide +kernel
theorem dL_law_13 : decode cL_law 13 = .ok (.lcmp, 1) := by decide +kernel
theorem dL_law_14 : decode cL_law 14 = .ok (.ifCond .ne 42, 3) := by decide +kernel
theorem dL_law_17 : decode cL_law 17 = .ok (.aload_n 1, 1) := by decide +kernel
theorem dL_law_18 : decode cL_law 18 = .ok (.invokevirtual 80, 3) := by decide +kernel
theorem dL_law_21 : decode cL_law 21 = .ok (.ifCond .ne 35, 3) := by decide +kernel
theorem dL_law_24 : decode cL_law 24 = .ok (.aload_n 1, 1) := by decide +kernel
theorem dL_law_25 : decode cL_law 25 = .ok (.invokevirtual 98, 3) := by decide +kernel
theorem dL_law_28 : decode cL_law 28 = .ok (.ifCond .ne 28, 3) := by decide +kernel
theorem dL_law_31 : decode cL_law 31 = .ok (.aload_n 1, 1) := by decide +kernel
theorem dL_law_32 : decode cL_law 32 = .ok (.bipush 8, 2) := by decide +kernel
theorem dL_law_34 : decode cL_law 34 = .ok (.invokevirtual 77, 3) := by decide +kernel
theorem dL_law_37 : decode cL_law 37 = .ok (.iconst 1, 1) := by decide +kernel
theorem dL_law_38 : decode cL_law 38 = .ok (.if_icmp .ne 18, 3) := by decide +kernel
theorem dL_law_41 : decode cL_law 41 = .ok (.aload_n 1, 1) := by decide +kernel
theorem dL_law_42 : decode cL_law 42 = .ok (.invokestatic 122, 3) := by decide +kernel
theorem dL_law_45 : decode cL_law 45 = .ok (.ifCond .eq 11, 3) := by decide +kernel
theorem dL_law_48 : decode cL_law 48 = .ok (.aload_n 1, 1) := by decide +kernel
theorem dL_law_49 : decode cL_law 49 = .ok (.aload_n 0, 1) := by decide +kernel
theorem dL_law_50 : decode cL_law 50 = .ok (.invokestatic 126, 3) := by decide +kernel
theorem dL_law_53 : decode cL_law 53 = .ok (.ifCond .ne 5, 3) := by decide +kernel
theorem dL_law_56 : decode cL_law 56 = .ok (.iconst 0, 1) := by decide +kernel
theorem dL_law_57 : decode cL_law 57 = .ok (.ireturn, 1) := by decide +kernel
theorem dL_law_58 : decode cL_law 58 = .ok (.iconst 0, 1) := by decide +kernel
theorem dL_law_59 : decode cL_law 59 = .ok (.istore_n 2, 1) := by decide +kernel
theorem dL_law_60 : decode cL_law 60 = .ok (.iload_n 2, 1) := by decide +kernel
theorem dL_law_61 : decode cL_law 61 = .ok (.bipush 7, 2) := by decide +kernel
theorem dL_law_63 : decode cL_law 63 = .ok (.if_icmp .ge 209, 3) := by decide +kernel
theorem dL_law_66 : decode cL_law 66 = .ok (.aload_n 1, 1) := by decide +kernel
theorem dL_law_67 : decode cL_law 67 = .ok (.invokestatic 130, 3) := by decide +kernel
theorem dL_law_70 : decode cL_law 70 = .ok (.ifCond .eq 10, 3) := by decide +kernel
theorem dL_law_73 : decode cL_law 73 = .ok (.aload_n 1, 1) := by decide +kernel
theorem dL_law_74 : decode cL_law 74 = .ok (.invokestatic 133, 3) := by decide +kernel
theorem dL_law_77 : decode cL_law 77 = .ok (.ifCond .ne 5, 3) := by decide +kernel
theorem dL_law_80 : decode cL_law 80 = .ok (.iconst 0, 1) := by decide +kernel
theorem dL_law_81 : decode cL_law 81 = .ok (.ireturn, 1) := by decide +kernel
theorem dL_law_82 : decode cL_law 82 = .ok (.aload_n 1, 1) := by decide +kernel
theorem dL_law_83 : decode cL_law 83 = .ok (.invokevirtual 80, 3) := by decide +kernel
theorem dL_law_86 : decode cL_law 86 = .ok (.ifCond .ne 40, 3) := by decide +kernel
theorem dL_law_89 : decode cL_law 89 = .ok (.aload_n 1, 1) := by decide +kernel
theorem dL_law_90 : decode cL_law 90 = .ok (.bipush 8, 2) := by decide +kernel
theorem dL_law_92 : decode cL_law 92 = .ok (.invokevirtual 77, 3) := by decide +kernel
theorem dL_law_95 : decode cL_law 95 = .ok (.aload_n 1, 1) := by decide +kernel
theorem dL_law_96 : decode cL_law 96 = .ok (.iconst 4, 1) := by decide +kernel
theorem dL_law_97 : decode cL_law 97 = .ok (.invokevirtual 77, 3) := by decide +kernel
theorem dL_law_100 : decode cL_law 100 = .ok (.iconst 1, 1) := by decide +kernel
theorem dL_law_101 : decode cL_law 101 = .ok (.if_icmp .ne 12, 3) := by decide +kernel
theorem dL_law_104 : decode cL_law 104 = .ok (.aload_n 1, 1) := by decide +kernel
theorem dL_law_105 : decode cL_law 105 = .ok (.bipush 7, 2) := by decide +kernel
theorem dL_law_107 : decode cL_law 107 = .ok (.invokevirtual 77, 3) := by decide +kernel
theorem dL_law_110 : decode cL_law 110 = .ok (.goto 11, 3) := by decide +kernel
theorem dL_law_113 : decode cL_law 113 = .ok (.iconst 1, 1) := by decide +kernel
theorem dL_law_114 : decode cL_law 114 = .ok (.aload_n 1, 1) := by decide +kernel
theorem dL_law_115 : decode cL_law 115 = .ok (.bipush 7, 2) := by decide +kernel
theorem dL_law_117 : decode cL_law 117 = .ok (.invokevirtual 77, 3) := by decide +kernel
theorem dL_law_120 : decode cL_law 120 = .ok (.isub, 1) := by decide +kernel
theorem dL_law_121 : decode cL_law 121 = .ok (.if_icmp .eq 5, 3) := by decide +kernel
theorem dL_law_124 : decode cL_law 124 = .ok (.iconst 0, 1) := by decide +kernel
theorem dL_law_125 : decode cL_law 125 = .ok (.ireturn, 1) := by decide +kernel
theorem dL_law_126 : decode cL_law 126 = .ok (.aload_n 0, 1) := by decide +kernel
theorem dL_law_127 : decode cL_law 127 = .ok (.bipush 100, 2) := by decide +kernel
theorem dL_law_129 : decode cL_law 129 = .ok (.iconst 3, 1) := by decide +kernel
theorem dL_law_130 : decode cL_law 130 = .ok (.iload_n 2, 1) := by decide +kernel
theorem dL_law_131 : decode cL_law 131 = .ok (.imul, 1) := by decide +kernel
theorem dL_law_132 : decode cL_law 132 = .ok (.iadd, 1) := by decide +kernel
theorem dL_law_133 : decode cL_law 133 = .ok (.iconst 5, 1) := by decide +kernel
theorem dL_law_134 : decode cL_law 134 = .ok (.invokestatic 28, 3) := by decide +kernel
theorem dL_law_137 : decode cL_law 137 = .ok (.istore_n 3, 1) := by decide +kernel
theorem dL_law_138 : decode cL_law 138 = .ok (.aload_n 0, 1) := by decide +kernel
theorem dL_law_139 : decode cL_law 139 = .ok (.bipush 101, 2) := by decide +kernel
theorem dL_law_141 : decode cL_law 141 = .ok (.iconst 3, 1) := by decide +kernel
theorem dL_law_142 : decode cL_law 142 = .ok (.iload_n 2, 1) := by decide +kernel
theorem dL_law_143 : decode cL_law 143 = .ok (.imul, 1) := by decide +kernel
theorem dL_law_144 : decode cL_law 144 = .ok (.iadd, 1) := by decide +kernel
theorem dL_law_145 : decode cL_law 145 = .ok (.bipush 10, 2) := by decide +kernel
theorem dL_law_147 : decode cL_law 147 = .ok (.invokestatic 28, 3) := by decide +kernel
theorem dL_law_150 : decode cL_law 150 = .ok (.istore 4, 2) := by decide +kernel
theorem dL_law_152 : decode cL_law 152 = .ok (.iload_n 3, 1) := by decide +kernel
theorem dL_law_153 : decode cL_law 153 = .ok (.ifCond .ne 24, 3) := by decide +kernel
theorem dL_law_156 : decode cL_law 156 = .ok (.aload_n 1, 1) := by decide +kernel
theorem dL_law_157 : decode cL_law 157 = .ok (.iload 4, 2) := by decide +kernel
theorem dL_law_159 : decode cL_law 159 = .ok (.iconst 2, 1) := by decide +kernel
theorem dL_law_160 : decode cL_law 160 = .ok (.irem, 1) := by decide +kernel
theorem dL_law_161 : decode cL_law 161 = .ok (.ifCond .ne 7, 3) := by decide +kernel
theorem dL_law_164 : decode cL_law 164 = .ok (.iconst 1, 1) := by decide +kernel
theorem dL_law_165 : decode cL_law 165 = .ok (.goto 4, 3) := by decide +kernel
theorem dL_law_168 : decode cL_law 168 = .ok (.iconst 0, 1) := by decide +kernel
theorem dL_law_169 : decode cL_law 169 = .ok (.invokevirtual 136, 3) := by decide +kernel
theorem dL_law_172 : decode cL_law 172 = .ok (.istore 5, 2) := by decide +kernel
theorem dL_law_174 : decode cL_law 174 = .ok (.goto 92, 3) := by decide +kernel
theorem dL_law_177 : decode cL_law 177 = .ok (.iload_n 3, 1) := by decide +kernel
theorem dL_law_178 : decode cL_law 178 = .ok (.iconst 1, 1) := by decide +kernel
theorem dL_law_179 : decode cL_law 179 = .ok (.if_icmp .ne 16, 3) := by decide +kernel
theorem dL_law_182 : decode cL_law 182 = .ok (.aload_n 1, 1) := by decide +kernel
theorem dL_law_183 : decode cL_law 183 = .ok (.iload 4, 2) := by decide +kernel
theorem dL_law_185 : decode cL_law 185 = .ok (.iconst 4, 1) := by decide +kernel
theorem dL_law_186 : decode cL_law 186 = .ok (.irem, 1) := by decide +kernel
theorem dL_law_187 : decode cL_law 187 = .ok (.invokevirtual 140, 3) := by decide +kernel
theorem dL_law_190 : decode cL_law 190 = .ok (.istore 5, 2) := by decide +kernel
theorem dL_law_192 : decode cL_law 192 = .ok (.goto 74, 3) := by decide +kernel
theorem dL_law_195 : decode cL_law 195 = .ok (.iload_n 3, 1) := by decide +kernel
theorem dL_law_196 : decode cL_law 196 = .ok (.iconst 2, 1) := by decide +kernel
theorem dL_law_197 : decode cL_law 197 = .ok (.if_icmp .ne 38, 3) := by decide +kernel
theorem dL_law_200 : decode cL_law 200 = .ok (.aload_n 1, 1) := by decide +kernel
theorem dL_law_201 : decode cL_law 201 = .ok (.iconst 1, 1) := by decide +kernel
theorem dL_law_202 : decode cL_law 202 = .ok (.invokevirtual 77, 3) := by decide +kernel
theorem dL_law_205 : decode cL_law 205 = .ok (.iconst 3, 1) := by decide +kernel
theorem dL_law_206 : decode cL_law 206 = .ok (.if_icmp .ge 29, 3) := by decide +kernel
theorem dL_law_209 : decode cL_law 209 = .ok (.aload_n 1, 1) := by decide +kernel
theorem dL_law_210 : decode cL_law 210 = .ok (.aload_n 0, 1) := by decide +kernel
theorem dL_law_211 : decode cL_law 211 = .ok (.bipush 102, 2) := by decide +kernel
theorem dL_law_213 : decode cL_law 213 = .ok (.iconst 3, 1) := by decide +kernel
theorem dL_law_214 : decode cL_law 214 = .ok (.iload_n 2, 1) := by decide +kernel
theorem dL_law_215 : decode cL_law 215 = .ok (.imul, 1) := by decide +kernel
theorem dL_law_216 : decode cL_law 216 = .ok (.iadd, 1) := by decide +kernel
theorem dL_law_217 : decode cL_law 217 = .ok (.aload_n 1, 1) := by decide +kernel
theorem dL_law_218 : decode cL_law 218 = .ok (.iconst 0, 1) := by decide +kernel
theorem dL_law_219 : decode cL_law 219 = .ok (.invokevirtual 77, 3) := by decide +kernel
theorem dL_law_222 : decode cL_law 222 = .ok (.invokestatic 28, 3) := by decide +kernel
theorem dL_law_225 : decode cL_law 225 = .ok (.iload 4, 2) := by decide +kernel
theorem dL_law_227 : decode cL_law 227 = .ok (.invokevirtual 143, 3) := by decide +kernel
theorem dL_law_230 : decode cL_law 230 = .ok (.istore 5, 2) := by decide +kernel
theorem dL_law_232 : decode cL_law 232 = .ok (.goto 34, 3) := by decide +kernel
theorem dL_law_235 : decode cL_law 235 = .ok (.aload_n 1, 1) := by decide +kernel
theorem dL_law_236 : decode cL_law 236 = .ok (.iconst 1, 1) := by decide +kernel
theorem dL_law_237 : decode cL_law 237 = .ok (.invokevirtual 77, 3) := by decide +kernel
theorem dL_law_240 : decode cL_law 240 = .ok (.ifCond .le 26, 3) := by decide +kernel
theorem dL_law_243 : decode cL_law 243 = .ok (.aload_n 1, 1) := by decide +kernel
theorem dL_law_244 : decode cL_law 244 = .ok (.aload_n 0, 1) := by decide +kernel
theorem dL_law_245 : decode cL_law 245 = .ok (.bipush 102, 2) := by decide +kernel
theorem dL_law_247 : decode cL_law 247 = .ok (.iconst 3, 1) := by decide +kernel
theorem dL_law_248 : decode cL_law 248 = .ok (.iload_n 2, 1) := by decide +kernel
theorem dL_law_249 : decode cL_law 249 = .ok (.imul, 1) := by decide +kernel
theorem dL_law_250 : decode cL_law 250 = .ok (.iadd, 1) := by decide +kernel
theorem dL_law_251 : decode cL_law 251 = .ok (.aload_n 1, 1) := by decide +kernel
theorem dL_law_252 : decode cL_law 252 = .ok (.iconst 1, 1) := by decide +kernel
theorem dL_law_253 : decode cL_law 253 = .ok (.invokevirtual 77, 3) := by decide +kernel
theorem dL_law_256 : decode cL_law 256 = .ok (.invokestatic 28, 3) := by decide +kernel
theorem dL_law_259 : decode cL_law 259 = .ok (.iload 4, 2) := by decide +kernel
theorem dL_law_261 : decode cL_law 261 = .ok (.invokevirtual 146, 3) := by decide +kernel
theorem dL_law_264 : decode cL_law 264 = .ok (.istore 5, 2) := by decide +kernel
theorem dL_law_266 : decode cL_law 266 = .ok (.iinc 2 1, 3) := by decide +kernel
theorem dL_law_269 : decode cL_law 269 = .ok (.goto (-209), 3) := by decide +kernel
theorem dL_law_272 : decode cL_law 272 = .ok (.iconst 1, 1) := by decide +kernel
theorem dL_law_273 : decode cL_law 273 = .ok (.ireturn, 1) := by decide +kernel
