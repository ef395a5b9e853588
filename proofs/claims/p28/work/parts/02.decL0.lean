theorem dL_below_0 : decode cL_below 0 = .ok (.iload_n 0, 1) := by decide +kernel
theorem dL_below_1 : decode cL_below 1 = .ok (.ldc 7, 2) := by decide +kernel
theorem dL_below_3 : decode cL_below 3 = .ok (.iand, 1) := by decide +kernel
theorem dL_below_4 : decode cL_below 4 = .ok (.iload_n 1, 1) := by decide +kernel
theorem dL_below_5 : decode cL_below 5 = .ok (.irem, 1) := by decide +kernel
theorem dL_below_6 : decode cL_below 6 = .ok (.ireturn, 1) := by decide +kernel
theorem dL_cell_0 : decode cL_cell 0 = .ok (.iload_n 1, 1) := by decide +kernel
theorem dL_cell_1 : decode cL_cell 1 = .ok (.aload_n 0, 1) := by decide +kernel
theorem dL_cell_2 : decode cL_cell 2 = .ok (.arraylength, 1) := by decide +kernel
theorem dL_cell_3 : decode cL_cell 3 = .ok (.if_icmp .ge 9, 3) := by decide +kernel
theorem dL_cell_6 : decode cL_cell 6 = .ok (.aload_n 0, 1) := by decide +kernel
theorem dL_cell_7 : decode cL_cell 7 = .ok (.iload_n 1, 1) := by decide +kernel
theorem dL_cell_8 : decode cL_cell 8 = .ok (.iaload, 1) := by decide +kernel
theorem dL_cell_9 : decode cL_cell 9 = .ok (.goto 9, 3) := by decide +kernel
theorem dL_cell_12 : decode cL_cell 12 = .ok (.ldc 8, 2) := by decide +kernel
theorem dL_cell_14 : decode cL_cell 14 = .ok (.iload_n 1, 1) := by decide +kernel
theorem dL_cell_15 : decode cL_cell 15 = .ok (.iconst 3, 1) := by decide +kernel
theorem dL_cell_16 : decode cL_cell 16 = .ok (.iadd, 1) := by decide +kernel
theorem dL_cell_17 : decode cL_cell 17 = .ok (.imul, 1) := by decide +kernel
theorem dL_cell_18 : decode cL_cell 18 = .ok (.ireturn, 1) := by decide +kernel
theorem dL_law_0 : decode cL_law 0 = .ok (.new 9, 3) := by decide +kernel
theorem dL_law_3 : decode cL_law 3 = .ok (.dup, 1) := by decide +kernel
theorem dL_law_4 : decode cL_law 4 = .ok (.invokespecial 11, 3) := by decide +kernel
theorem dL_law_7 : decode cL_law 7 = .ok (.astore_n 1, 1) := by decide +kernel
theorem dL_law_8 : decode cL_law 8 = .ok (.iconst 0, 1) := by decide +kernel
theorem dL_law_9 : decode cL_law 9 = .ok (.istore_n 2, 1) := by decide +kernel
theorem dL_law_10 : decode cL_law 10 = .ok (.iload_n 2, 1) := by decide +kernel
theorem dL_law_11 : decode cL_law 11 = .ok (.iconst 3, 1) := by decide +kernel
theorem dL_law_12 : decode cL_law 12 = .ok (.if_icmp .ge 17, 3) := by decide +kernel
theorem dL_law_15 : decode cL_law 15 = .ok (.aload_n 1, 1) := by decide +kernel
theorem dL_law_16 : decode cL_law 16 = .ok (.iload_n 2, 1) := by decide +kernel
theorem dL_law_17 : decode cL_law 17 = .ok (.iconst 2, 1) := by decide +kernel
theorem dL_law_18 : decode cL_law 18 = .ok (.irem, 1) := by decide +kernel
theorem dL_law_19 : decode cL_law 19 = .ok (.invokevirtual 12, 3) := by decide +kernel
theorem dL_law_22 : decode cL_law 22 = .ok (.pop, 1) := by decide +kernel
theorem dL_law_23 : decode cL_law 23 = .ok (.iinc 2 1, 3) := by decide +kernel
theorem dL_law_26 : decode cL_law 26 = .ok (.goto (-16), 3) := by decide +kernel
theorem dL_law_29 : decode cL_law 29 = .ok (.iconst 0, 1) := by decide +kernel
theorem dL_law_30 : decode cL_law 30 = .ok (.istore_n 2, 1) := by decide +kernel
theorem dL_law_31 : decode cL_law 31 = .ok (.iload_n 2, 1) := by decide +kernel
theorem dL_law_32 : decode cL_law 32 = .ok (.iconst 2, 1) := by decide +kernel
theorem dL_law_33 : decode cL_law 33 = .ok (.if_icmp .ge 14, 3) := by decide +kernel
theorem dL_law_36 : decode cL_law 36 = .ok (.aload_n 1, 1) := by decide +kernel
theorem dL_law_37 : decode cL_law 37 = .ok (.invokevirtual 16, 3) := by decide +kernel
theorem dL_law_40 : decode cL_law 40 = .ok (.pop, 1) := by decide +kernel
theorem dL_law_41 : decode cL_law 41 = .ok (.iinc 2 1, 3) := by decide +kernel
theorem dL_law_44 : decode cL_law 44 = .ok (.goto (-13), 3) := by decide +kernel
theorem dL_law_47 : decode cL_law 47 = .ok (.iconst 0, 1) := by decide +kernel
theorem dL_law_48 : decode cL_law 48 = .ok (.istore_n 2, 1) := by decide +kernel
theorem dL_law_49 : decode cL_law 49 = .ok (.iload_n 2, 1) := by decide +kernel
theorem dL_law_50 : decode cL_law 50 = .ok (.bipush 6, 2) := by decide +kernel
theorem dL_law_52 : decode cL_law 52 = .ok (.if_icmp .ge 30, 3) := by decide +kernel
theorem dL_law_55 : decode cL_law 55 = .ok (.aload_n 1, 1) := by decide +kernel
theorem dL_law_56 : decode cL_law 56 = .ok (.iload_n 2, 1) := by decide +kernel
theorem dL_law_57 : decode cL_law 57 = .ok (.iconst 3, 1) := by decide +kernel
theorem dL_law_58 : decode cL_law 58 = .ok (.irem, 1) := by decide +kernel
theorem dL_law_59 : decode cL_law 59 = .ok (.iload_n 2, 1) := by decide +kernel
theorem dL_law_60 : decode cL_law 60 = .ok (.iconst 3, 1) := by decide +kernel
theorem dL_law_61 : decode cL_law 61 = .ok (.idiv, 1) := by decide +kernel
theorem dL_law_62 : decode cL_law 62 = .ok (.iload_n 2, 1) := by decide +kernel
theorem dL_law_63 : decode cL_law 63 = .ok (.iconst 5, 1) := by decide +kernel
theorem dL_law_64 : decode cL_law 64 = .ok (.if_icmp .ge 7, 3) := by decide +kernel
theorem dL_law_67 : decode cL_law 67 = .ok (.iconst 2, 1) := by decide +kernel
theorem dL_law_68 : decode cL_law 68 = .ok (.goto 4, 3) := by decide +kernel
theorem dL_law_71 : decode cL_law 71 = .ok (.iconst 3, 1) := by decide +kernel
theorem dL_law_72 : decode cL_law 72 = .ok (.invokevirtual 20, 3) := by decide +kernel
theorem dL_law_75 : decode cL_law 75 = .ok (.pop, 1) := by decide +kernel
theorem dL_law_76 : decode cL_law 76 = .ok (.iinc 2 1, 3) := by decide +kernel
theorem dL_law_79 : decode cL_law 79 = .ok (.goto (-30), 3) := by decide +kernel
theorem dL_law_82 : decode cL_law 82 = .ok (.iconst 0, 1) := by decide +kernel
theorem dL_law_83 : decode cL_law 83 = .ok (.istore_n 2, 1) := by decide +kernel
theorem dL_law_84 : decode cL_law 84 = .ok (.iload_n 2, 1) := by decide +kernel
theorem dL_law_85 : decode cL_law 85 = .ok (.bipush 80, 2) := by decide +kernel
theorem dL_law_87 : decode cL_law 87 = .ok (.if_icmp .ge 117, 3) := by decide +kernel
theorem dL_law_90 : decode cL_law 90 = .ok (.aload_n 0, 1) := by decide +kernel
theorem dL_law_91 : decode cL_law 91 = .ok (.iload_n 2, 1) := by decide +kernel
theorem dL_law_92 : decode cL_law 92 = .ok (.bipush 29, 2) := by decide +kernel
theorem dL_law_94 : decode cL_law 94 = .ok (.irem, 1) := by decide +kernel
theorem dL_law_95 : decode cL_law 95 = .ok (.invokestatic 24, 3) := by decide +kernel
theorem dL_law_98 : decode cL_law 98 = .ok (.iload_n 2, 1) := by decide +kernel
theorem dL_law_99 : decode cL_law 99 = .ok (.bipush 29, 2) := by decide +kernel
theorem dL_law_101 : decode cL_law 101 = .ok (.idiv, 1) := by decide +kernel
theorem dL_law_102 : decode cL_law 102 = .ok (.bipush 6, 2) := by decide +kernel
theorem dL_law_104 : decode cL_law 104 = .ok (.imul, 1) := by decide +kernel
theorem dL_law_105 : decode cL_law 105 = .ok (.ishr, 1) := by decide +kernel
theorem dL_law_106 : decode cL_law 106 = .ok (.istore_n 3, 1) := by decide +kernel
theorem dL_law_107 : decode cL_law 107 = .ok (.aload_n 1, 1) := by decide +kernel
theorem dL_law_108 : decode cL_law 108 = .ok (.bipush 10, 2) := by decide +kernel
theorem dL_law_110 : decode cL_law 110 = .ok (.invokevirtual 30, 3) := by decide +kernel
theorem dL_law_113 : decode cL_law 113 = .ok (.istore 4, 2) := by decide +kernel
theorem dL_law_115 : decode cL_law 115 = .ok (.aload_n 1, 1) := by decide +kernel
theorem dL_law_116 : decode cL_law 116 = .ok (.iload_n 3, 1) := by decide +kernel
theorem dL_law_117 : decode cL_law 117 = .ok (.invokestatic 33, 3) := by decide +kernel
theorem dL_law_120 : decode cL_law 120 = .ok (.ifCond .eq 25, 3) := by decide +kernel
theorem dL_law_123 : decode cL_law 123 = .ok (.aload_n 1, 1) := by decide +kernel
theorem dL_law_124 : decode cL_law 124 = .ok (.bipush 10, 2) := by decide +kernel
theorem dL_law_126 : decode cL_law 126 = .ok (.invokevirtual 30, 3) := by decide +kernel
theorem dL_law_129 : decode cL_law 129 = .ok (.iload 4, 2) := by decide +kernel
theorem dL_law_131 : decode cL_law 131 = .ok (.if_icmp .ge 16, 3) := by decide +kernel
theorem dL_law_134 : decode cL_law 134 = .ok (.iload_n 3, 1) := by decide +kernel
theorem dL_law_135 : decode cL_law 135 = .ok (.bipush 20, 2) := by decide +kernel
theorem dL_law_137 : decode cL_law 137 = .ok (.invokestatic 37, 3) := by decide +kernel
theorem dL_law_140 : decode cL_law 140 = .ok (.bipush 13, 2) := by decide +kernel
theorem dL_law_142 : decode cL_law 142 = .ok (.if_icmp .ge 5, 3) := by decide +kernel
theorem dL_law_145 : decode cL_law 145 = .ok (.iconst 0, 1) := by decide +kernel
theorem dL_law_146 : decode cL_law 146 = .ok (.ireturn, 1) := by decide +kernel
theorem dL_law_147 : decode cL_law 147 = .ok (.iload_n 2, 1) := by decide +kernel
theorem dL_law_148 : decode cL_law 148 = .ok (.bipush 8, 2) := by decide +kernel
theorem dL_law_150 : decode cL_law 150 = .ok (.irem, 1) := by decide +kernel
theorem dL_law_151 : decode cL_law 151 = .ok (.bipush 7, 2) := by decide +kernel
theorem dL_law_153 : decode cL_law 153 = .ok (.if_icmp .eq 6, 3) := by decide +kernel
theorem dL_law_156 : decode cL_law 156 = .ok (.goto 42, 3) := by decide +kernel
theorem dL_law_159 : decode cL_law 159 = .ok (.aload_n 1, 1) := by decide +kernel
theorem dL_law_160 : decode cL_law 160 = .ok (.invokevirtual 41, 3) := by decide +kernel
theorem dL_law_163 : decode cL_law 163 = .ok (.lstore 5, 2) := by decide +kernel
theorem dL_law_165 : decode cL_law 165 = .ok (.aload_n 1, 1) := by decide +kernel
theorem dL_law_166 : decode cL_law 166 = .ok (.invokestatic 45, 3) := by decide +kernel
theorem dL_law_169 : decode cL_law 169 = .ok (.ifCond .eq 27, 3) := by decide +kernel
theorem dL_law_172 : decode cL_law 172 = .ok (.aload_n 1, 1) := by decide +kernel
theorem dL_law_173 : decode cL_law 173 = .ok (.invokestatic 49, 3) := by decide +kernel
theorem dL_law_176 : decode cL_law 176 = .ok (.ifCond .eq 20, 3) := by decide +kernel
theorem dL_law_179 : decode cL_law 179 = .ok (.aload_n 1, 1) := by decide +kernel
theorem dL_law_180 : decode cL_law 180 = .ok (.invokestatic 52, 3) := by decide +kernel
theorem dL_law_183 : decode cL_law 183 = .ok (.ifCond .eq 13, 3) := by decide +kernel
theorem dL_law_186 : decode cL_law 186 = .ok (.aload_n 1, 1) := by decide +kernel
theorem dL_law_187 : decode cL_law 187 = .ok (.invokevirtual 41, 3) := by decide +kernel
theorem dL_law_190 : decode cL_law 190 = .ok (.lload 5, 2) := by decide +kernel
theorem dL_law_192 : decode cL_law 192 = .ok (.lcmp, 1) := by decide +kernel
theorem dL_law_193 : decode cL_law 193 = .ok (.ifCond .eq 5, 3) := by decide +kernel
theorem dL_law_196 : decode cL_law 196 = .ok (.iconst 0, 1) := by decide +kernel
theorem dL_law_197 : decode cL_law 197 = .ok (.ireturn, 1) := by decide +kernel
theorem dL_law_198 : decode cL_law 198 = .ok (.iinc 2 1, 3) := by decide +kernel
theorem dL_law_201 : decode cL_law 201 = .ok (.goto (-117), 3) := by decide +kernel
theorem dL_law_204 : decode cL_law 204 = .ok (.iconst 1, 1) := by decide +kernel
theorem dL_law_205 : decode cL_law 205 = .ok (.ireturn, 1) := by decide +kernel
theorem dL_act_0 : decode cL_act 0 = .ok (.aload_n 0, 1) := by decide +kernel
theorem dL_act_1 : decode cL_act 1 = .ok (.iconst 2, 1) := by decide +kernel
theorem dL_act_2 : decode cL_act 2 = .ok (.invokevirtual 30, 3) := by decide +kernel
theorem dL_act_5 : decode cL_act 5 = .ok (.istore_n 2, 1) := by decide +kernel
theorem dL_act_6 : decode cL_act 6 = .ok (.iload_n 1, 1) := by decide +kernel
theorem dL_act_7 : decode cL_act 7 = .ok (.iconst 4, 1) := by decide +kernel
theorem dL_act_8 : decode cL_act 8 = .ok (.ishr, 1) := by decide +kernel
theorem dL_act_9 : decode cL_act 9 = .ok (.iconst 1, 1) := by decide +kernel
theorem dL_act_10 : decode cL_act 10 = .ok (.iload_n 2, 1) := by decide +kernel
theorem dL_act_11 : decode cL_act 11 = .ok (.invokestatic 55, 3) := by decide +kernel
theorem dL_act_14 : decode cL_act 14 = .ok (.invokestatic 37, 3) := by decide +kernel
theorem dL_act_17 : decode cL_act 17 = .ok (.istore_n 3, 1) := by decide +kernel
theorem dL_act_18 : decode cL_act 18 = .ok (.iload_n 1, 1) := by decide +kernel
theorem dL_act_19 : decode cL_act 19 = .ok (.iconst 3, 1) := by decide +kernel
theorem dL_act_20 : decode cL_act 20 = .ok (.ishr, 1) := by decide +kernel
theorem dL_act_21 : decode cL_act 21 = .ok (.iconst 2, 1) := by decide +kernel
theorem dL_act_22 : decode cL_act 22 = .ok (.invokestatic 37, 3) := by decide +kernel
theorem dL_act_25 : decode cL_act 25 = .ok (.istore 4, 2) := by decide +kernel
theorem dL_act_27 : decode cL_act 27 = .ok (.iload_n 1, 1) := by decide +kernel
theorem dL_act_28 : decode cL_act 28 = .ok (.bipush 6, 2) := by decide +kernel
theorem dL_act_30 : decode cL_act 30 = .ok (.ishr, 1) := by decide +kernel
theorem dL_act_31 : decode cL_act 31 = .ok (.iconst 2, 1) := by decide +kernel
theorem dL_act_32 : decode cL_act 32 = .ok (.invokestatic 37, 3) := by decide +kernel
theorem dL_act_35 : decode cL_act 35 = .ok (.istore 5, 2) := by decide +kernel
theorem dL_act_37 : decode cL_act 37 = .ok (.aload_n 0, 1) := by decide +kernel
theorem dL_act_38 : decode cL_act 38 = .ok (.iconst 0, 1) := by decide +kernel
theorem dL_act_39 : decode cL_act 39 = .ok (.invokevirtual 30, 3) := by decide +kernel
theorem dL_act_42 : decode cL_act 42 = .ok (.istore 6, 2) := by decide +kernel
theorem dL_act_44 : decode cL_act 44 = .ok (.aload_n 0, 1) := by decide +kernel
theorem dL_act_45 : decode cL_act 45 = .ok (.bipush 9, 2) := by decide +kernel
theorem dL_act_47 : decode cL_act 47 = .ok (.invokevirtual 30, 3) := by decide +kernel
theorem dL_act_50 : decode cL_act 50 = .ok (.istore 7, 2) := by decide +kernel
theorem dL_act_52 : decode cL_act 52 = .ok (.iload_n 1, 1) := by decide +kernel
theorem dL_act_53 : decode cL_act 53 = .ok (.bipush 20, 2) := by decide +kernel
theorem dL_act_55 : decode cL_act 55 = .ok (.invokestatic 37, 3) := by decide +kernel
theorem dL_act_58 : decode cL_act 58 = .ok (.tableswitch 613 0 16 #[82, 123, 123, 123, 123, 163, 210, 288, 288, 312, 370, 424, 424, 491, 491, 491, 559], 82) := by decide +kernel
theorem dL_act_140 : decode cL_act 140 = .ok (.aload_n 0, 1) := by decide +kernel
theorem dL_act_141 : decode cL_act 141 = .ok (.iload_n 1, 1) := by decide +kernel
theorem dL_act_142 : decode cL_act 142 = .ok (.iconst 3, 1) := by decide +kernel
theorem dL_act_143 : decode cL_act 143 = .ok (.ishr, 1) := by decide +kernel
theorem dL_act_144 : decode cL_act 144 = .ok (.iload 6, 2) := by decide +kernel
theorem dL_act_146 : decode cL_act 146 = .ok (.invokestatic 37, 3) := by decide +kernel
theorem dL_act_149 : decode cL_act 149 = .ok (.iload 5, 2) := by decide +kernel
theorem dL_act_151 : decode cL_act 151 = .ok (.iload_n 1, 1) := by decide +kernel
theorem dL_act_152 : decode cL_act 152 = .ok (.bipush 7, 2) := by decide +kernel
theorem dL_act_154 : decode cL_act 154 = .ok (.ishr, 1) := by decide +kernel
theorem dL_act_155 : decode cL_act 155 = .ok (.iconst 4, 1) := by decide +kernel
theorem dL_act_156 : decode cL_act 156 = .ok (.invokestatic 37, 3) := by decide +kernel
theorem dL_act_159 : decode cL_act 159 = .ok (.invokevirtual 20, 3) := by decide +kernel
theorem dL_act_162 : decode cL_act 162 = .ok (.iload_n 2, 1) := by decide +kernel
theorem dL_act_163 : decode cL_act 163 = .ok (.if_icmp .ne 16, 3) := by decide +kernel
theorem dL_act_166 : decode cL_act 166 = .ok (.aload_n 0, 1) := by decide +kernel
theorem dL_act_167 : decode cL_act 167 = .ok (.iload_n 2, 1) := by decide +kernel
theorem dL_act_168 : decode cL_act 168 = .ok (.iconst 3, 1) := by decide +kernel
theorem dL_act_169 : decode cL_act 169 = .ok (.invokevirtual 60, 3) := by decide +kernel
theorem dL_act_172 : decode cL_act 172 = .ok (.ifCond .ne 7, 3) := by decide +kernel
theorem dL_act_175 : decode cL_act 175 = .ok (.iconst 1, 1) := by decide +kernel
theorem dL_act_176 : decode cL_act 176 = .ok (.goto 4, 3) := by decide +kernel
theorem dL_act_179 : decode cL_act 179 = .ok (.iconst 0, 1) := by decide +kernel
theorem dL_act_180 : decode cL_act 180 = .ok (.ireturn, 1) := by decide +kernel
theorem dL_act_181 : decode cL_act 181 = .ok (.iconst 0, 1) := by decide +kernel
theorem dL_act_182 : decode cL_act 182 = .ok (.istore 8, 2) := by decide +kernel
theorem dL_act_184 : decode cL_act 184 = .ok (.iload 8, 2) := by decide +kernel
theorem dL_act_186 : decode cL_act 186 = .ok (.iconst 3, 1) := by decide +kernel
theorem dL_act_187 : decode cL_act 187 = .ok (.if_icmp .ge 18, 3) := by decide +kernel
theorem dL_act_190 : decode cL_act 190 = .ok (.aload_n 0, 1) := by decide +kernel
theorem dL_act_191 : decode cL_act 191 = .ok (.iload_n 3, 1) := by decide +kernel
theorem dL_act_192 : decode cL_act 192 = .ok (.iload 8, 2) := by decide +kernel
theorem dL_act_194 : decode cL_act 194 = .ok (.iconst 1, 1) := by decide +kernel
theorem dL_act_195 : decode cL_act 195 = .ok (.invokevirtual 63, 3) := by decide +kernel
theorem dL_act_198 : decode cL_act 198 = .ok (.pop, 1) := by decide +kernel
theorem dL_act_199 : decode cL_act 199 = .ok (.iinc 8 1, 3) := by decide +kernel
theorem dL_act_202 : decode cL_act 202 = .ok (.goto (-18), 3) := by decide +kernel
theorem dL_act_205 : decode cL_act 205 = .ok (.aload_n 0, 1) := by decide +kernel
theorem dL_act_206 : decode cL_act 206 = .ok (.iload_n 3, 1) := by decide +kernel
theorem dL_act_207 : decode cL_act 207 = .ok (.iconst 3, 1) := by decide +kernel
theorem dL_act_208 : decode cL_act 208 = .ok (.invokevirtual 60, 3) := by decide +kernel
theorem dL_act_211 : decode cL_act 211 = .ok (.iconst 1, 1) := by decide +kernel
theorem dL_act_212 : decode cL_act 212 = .ok (.if_icmp .ne 7, 3) := by decide +kernel
theorem dL_act_215 : decode cL_act 215 = .ok (.iconst 1, 1) := by decide +kernel
theorem dL_act_216 : decode cL_act 216 = .ok (.goto 4, 3) := by decide +kernel
theorem dL_act_219 : decode cL_act 219 = .ok (.iconst 0, 1) := by decide +kernel
theorem dL_act_220 : decode cL_act 220 = .ok (.ireturn, 1) := by decide +kernel
theorem dL_act_221 : decode cL_act 221 = .ok (.aload_n 0, 1) := by decide +kernel
theorem dL_act_222 : decode cL_act 222 = .ok (.iload_n 3, 1) := by decide +kernel
theorem dL_act_223 : decode cL_act 223 = .ok (.invokevirtual 67, 3) := by decide +kernel
theorem dL_act_226 : decode cL_act 226 = .ok (.iload_n 3, 1) := by decide +kernel
theorem dL_act_227 : decode cL_act 227 = .ok (.if_icmp .eq 39, 3) := by decide +kernel
theorem dL_act_230 : decode cL_act 230 = .ok (.aload_n 0, 1) := by decide +kernel
theorem dL_act_231 : decode cL_act 231 = .ok (.iload_n 3, 1) := by decide +kernel
theorem dL_act_232 : decode cL_act 232 = .ok (.iconst 3, 1) := by decide +kernel
theorem dL_act_233 : decode cL_act 233 = .ok (.invokevirtual 60, 3) := by decide +kernel
theorem dL_act_236 : decode cL_act 236 = .ok (.iconst 2, 1) := by decide +kernel
theorem dL_act_237 : decode cL_act 237 = .ok (.if_icmp .ne 29, 3) := by decide +kernel
theorem dL_act_240 : decode cL_act 240 = .ok (.aload_n 0, 1) := by decide +kernel
theorem dL_act_241 : decode cL_act 241 = .ok (.aload_n 0, 1) := by decide +kernel
theorem dL_act_242 : decode cL_act 242 = .ok (.iload_n 3, 1) := by decide +kernel
theorem dL_act_243 : decode cL_act 243 = .ok (.iconst 0, 1) := by decide +kernel
theorem dL_act_244 : decode cL_act 244 = .ok (.invokevirtual 60, 3) := by decide +kernel
theorem dL_act_247 : decode cL_act 247 = .ok (.iconst 2, 1) := by decide +kernel
theorem dL_act_248 : decode cL_act 248 = .ok (.aload_n 0, 1) := by decide +kernel
theorem dL_act_249 : decode cL_act 249 = .ok (.iload_n 3, 1) := by decide +kernel
theorem dL_act_250 : decode cL_act 250 = .ok (.iconst 1, 1) := by decide +kernel
theorem dL_act_251 : decode cL_act 251 = .ok (.invokevirtual 60, 3) := by decide +kernel
theorem dL_act_254 : decode cL_act 254 = .ok (.iadd, 1) := by decide +kernel
theorem dL_act_255 : decode cL_act 255 = .ok (.invokevirtual 70, 3) := by decide +kernel
theorem dL_act_258 : decode cL_act 258 = .ok (.iload_n 3, 1) := by decide +kernel
theorem dL_act_259 : decode cL_act 259 = .ok (.if_icmp .ne 7, 3) := by decide +kernel
theorem dL_act_262 : decode cL_act 262 = .ok (.iconst 1, 1) := by decide +kernel
theorem dL_act_263 : decode cL_act 263 = .ok (.goto 4, 3) := by decide +kernel
theorem dL_act_266 : decode cL_act 266 = .ok (.iconst 0, 1) := by decide +kernel
theorem dL_act_267 : decode cL_act 267 = .ok (.ireturn, 1) := by decide +kernel
theorem dL_act_268 : decode cL_act 268 = .ok (.aload_n 0, 1) := by decide +kernel
theorem dL_act_269 : decode cL_act 269 = .ok (.iload_n 3, 1) := by decide +kernel
theorem dL_act_270 : decode cL_act 270 = .ok (.invokevirtual 73, 3) := by decide +kernel
theorem dL_act_273 : decode cL_act 273 = .ok (.istore 8, 2) := by decide +kernel
theorem dL_act_275 : decode cL_act 275 = .ok (.iload_n 1, 1) := by decide +kernel
theorem dL_act_276 : decode cL_act 276 = .ok (.bipush 6, 2) := by decide +kernel
theorem dL_act_278 : decode cL_act 278 = .ok (.ishr, 1) := by decide +kernel
theorem dL_act_279 : decode cL_act 279 = .ok (.iconst 5, 1) := by decide +kernel
theorem dL_act_280 : decode cL_act 280 = .ok (.invokestatic 37, 3) := by decide +kernel
theorem dL_act_283 : decode cL_act 283 = .ok (.istore 9, 2) := by decide +kernel
theorem dL_act_285 : decode cL_act 285 = .ok (.aload_n 0, 1) := by decide +kernel
theorem dL_act_286 : decode cL_act 286 = .ok (.iload_n 3, 1) := by decide +kernel
theorem dL_act_287 : decode cL_act 287 = .ok (.iload 9, 2) := by decide +kernel
theorem dL_act_289 : decode cL_act 289 = .ok (.invokevirtual 76, 3) := by decide +kernel
theorem dL_act_292 : decode cL_act 292 = .ok (.istore 10, 2) := by decide +kernel
theorem dL_act_294 : decode cL_act 294 = .ok (.iload 10, 2) := by decide +kernel
theorem dL_act_296 : decode cL_act 296 = .ok (.iload 9, 2) := by decide +kernel
theorem dL_act_298 : decode cL_act 298 = .ok (.ifCond .ne 8, 3) := by decide +kernel
theorem dL_act_301 : decode cL_act 301 = .ok (.iload 8, 2) := by decide +kernel
theorem dL_act_303 : decode cL_act 303 = .ok (.goto 4, 3) := by decide +kernel
theorem dL_act_306 : decode cL_act 306 = .ok (.iconst 0, 1) := by decide +kernel
theorem dL_act_307 : decode cL_act 307 = .ok (.if_icmp .ne 37, 3) := by decide +kernel
theorem dL_act_310 : decode cL_act 310 = .ok (.aload_n 0, 1) := by decide +kernel
theorem dL_act_311 : decode cL_act 311 = .ok (.bipush 9, 2) := by decide +kernel
theorem dL_act_313 : decode cL_act 313 = .ok (.invokevirtual 30, 3) := by decide +kernel
theorem dL_act_316 : decode cL_act 316 = .ok (.iload 7, 2) := by decide +kernel
theorem dL_act_318 : decode cL_act 318 = .ok (.iload 10, 2) := by decide +kernel
theorem dL_act_320 : decode cL_act 320 = .ok (.isub, 1) := by decide +kernel
theorem dL_act_321 : decode cL_act 321 = .ok (.if_icmp .ne 23, 3) := by decide +kernel
theorem dL_act_324 : decode cL_act 324 = .ok (.aload_n 0, 1) := by decide +kernel
theorem dL_act_325 : decode cL_act 325 = .ok (.iload_n 3, 1) := by decide +kernel
theorem dL_act_326 : decode cL_act 326 = .ok (.bipush 6, 2) := by decide +kernel
theorem dL_act_328 : decode cL_act 328 = .ok (.invokevirtual 60, 3) := by decide +kernel
theorem dL_act_331 : decode cL_act 331 = .ok (.aload_n 0, 1) := by decide +kernel
theorem dL_act_332 : decode cL_act 332 = .ok (.bipush 12, 2) := by decide +kernel
theorem dL_act_334 : decode cL_act 334 = .ok (.invokevirtual 30, 3) := by decide +kernel
theorem dL_act_337 : decode cL_act 337 = .ok (.if_icmp .ne 7, 3) := by decide +kernel
theorem dL_act_340 : decode cL_act 340 = .ok (.iconst 1, 1) := by decide +kernel
theorem dL_act_341 : decode cL_act 341 = .ok (.goto 4, 3) := by decide +kernel
theorem dL_act_344 : decode cL_act 344 = .ok (.iconst 0, 1) := by decide +kernel
theorem dL_act_345 : decode cL_act 345 = .ok (.ireturn, 1) := by decide +kernel
theorem dL_act_346 : decode cL_act 346 = .ok (.aload_n 0, 1) := by decide +kernel
theorem dL_act_347 : decode cL_act 347 = .ok (.iload_n 3, 1) := by decide +kernel
theorem dL_act_348 : decode cL_act 348 = .ok (.invokevirtual 79, 3) := by decide +kernel
theorem dL_act_351 : decode cL_act 351 = .ok (.ifCond .lt 17, 3) := by decide +kernel
theorem dL_act_354 : decode cL_act 354 = .ok (.aload_n 0, 1) := by decide +kernel
theorem dL_act_355 : decode cL_act 355 = .ok (.iload_n 3, 1) := by decide +kernel
theorem dL_act_356 : decode cL_act 356 = .ok (.iconst 3, 1) := by decide +kernel
theorem dL_act_357 : decode cL_act 357 = .ok (.invokevirtual 60, 3) := by decide +kernel
theorem dL_act_360 : decode cL_act 360 = .ok (.iconst 1, 1) := by decide +kernel
theorem dL_act_361 : decode cL_act 361 = .ok (.if_icmp .ne 7, 3) := by decide +kernel
theorem dL_act_364 : decode cL_act 364 = .ok (.iconst 1, 1) := by decide +kernel
theorem dL_act_365 : decode cL_act 365 = .ok (.goto 4, 3) := by decide +kernel
theorem dL_act_368 : decode cL_act 368 = .ok (.iconst 0, 1) := by decide +kernel
theorem dL_act_369 : decode cL_act 369 = .ok (.ireturn, 1) := by decide +kernel
theorem dL_act_370 : decode cL_act 370 = .ok (.aload_n 0, 1) := by decide +kernel
theorem dL_act_371 : decode cL_act 371 = .ok (.iload_n 1, 1) := by decide +kernel
theorem dL_act_372 : decode cL_act 372 = .ok (.iconst 3, 1) := by decide +kernel
theorem dL_act_373 : decode cL_act 373 = .ok (.ishr, 1) := by decide +kernel
theorem dL_act_374 : decode cL_act 374 = .ok (.iload 6, 2) := by decide +kernel
theorem dL_act_376 : decode cL_act 376 = .ok (.invokestatic 37, 3) := by decide +kernel
theorem dL_act_379 : decode cL_act 379 = .ok (.iload_n 1, 1) := by decide +kernel
theorem dL_act_380 : decode cL_act 380 = .ok (.bipush 7, 2) := by decide +kernel
theorem dL_act_382 : decode cL_act 382 = .ok (.ishr, 1) := by decide +kernel
theorem dL_act_383 : decode cL_act 383 = .ok (.iload 6, 2) := by decide +kernel
theorem dL_act_385 : decode cL_act 385 = .ok (.invokestatic 37, 3) := by decide +kernel
theorem dL_act_388 : decode cL_act 388 = .ok (.invokevirtual 82, 3) := by decide +kernel
theorem dL_act_391 : decode cL_act 391 = .ok (.istore 11, 2) := by decide +kernel
theorem dL_act_393 : decode cL_act 393 = .ok (.aload_n 0, 1) := by decide +kernel
theorem dL_act_394 : decode cL_act 394 = .ok (.iload_n 1, 1) := by decide +kernel
theorem dL_act_395 : decode cL_act 395 = .ok (.iconst 3, 1) := by decide +kernel
theorem dL_act_396 : decode cL_act 396 = .ok (.ishr, 1) := by decide +kernel
theorem dL_act_397 : decode cL_act 397 = .ok (.iload 6, 2) := by decide +kernel
theorem dL_act_399 : decode cL_act 399 = .ok (.invokestatic 37, 3) := by decide +kernel
theorem dL_act_402 : decode cL_act 402 = .ok (.iload_n 1, 1) := by decide +kernel
theorem dL_act_403 : decode cL_act 403 = .ok (.bipush 7, 2) := by decide +kernel
theorem dL_act_405 : decode cL_act 405 = .ok (.ishr, 1) := by decide +kernel
theorem dL_act_406 : decode cL_act 406 = .ok (.iload 6, 2) := by decide +kernel
theorem dL_act_408 : decode cL_act 408 = .ok (.invokestatic 37, 3) := by decide +kernel
theorem dL_act_411 : decode cL_act 411 = .ok (.invokevirtual 85, 3) := by decide +kernel
theorem dL_act_414 : decode cL_act 414 = .ok (.ifCond .lt 12, 3) := by decide +kernel
theorem dL_act_417 : decode cL_act 417 = .ok (.iload 11, 2) := by decide +kernel
theorem dL_act_419 : decode cL_act 419 = .ok (.ifCond .lt 7, 3) := by decide +kernel
theorem dL_act_422 : decode cL_act 422 = .ok (.iconst 1, 1) := by decide +kernel
theorem dL_act_423 : decode cL_act 423 = .ok (.goto 4, 3) := by decide +kernel
theorem dL_act_426 : decode cL_act 426 = .ok (.iconst 0, 1) := by decide +kernel
theorem dL_act_427 : decode cL_act 427 = .ok (.ireturn, 1) := by decide +kernel
theorem dL_act_428 : decode cL_act 428 = .ok (.aload_n 0, 1) := by decide +kernel
theorem dL_act_429 : decode cL_act 429 = .ok (.aload_n 0, 1) := by decide +kernel
theorem dL_act_430 : decode cL_act 430 = .ok (.iload_n 3, 1) := by decide +kernel
theorem dL_act_431 : decode cL_act 431 = .ok (.iconst 0, 1) := by decide +kernel
theorem dL_act_432 : decode cL_act 432 = .ok (.invokevirtual 60, 3) := by decide +kernel
theorem dL_act_435 : decode cL_act 435 = .ok (.iconst 1, 1) := by decide +kernel
theorem dL_act_436 : decode cL_act 436 = .ok (.iload_n 3, 1) := by decide +kernel
theorem dL_act_437 : decode cL_act 437 = .ok (.ishl, 1) := by decide +kernel
theorem dL_act_438 : decode cL_act 438 = .ok (.iload_n 1, 1) := by decide +kernel
theorem dL_act_439 : decode cL_act 439 = .ok (.bipush 6, 2) := by decide +kernel
theorem dL_act_441 : decode cL_act 441 = .ok (.ishr, 1) := by decide +kernel
theorem dL_act_442 : decode cL_act 442 = .ok (.iconst 4, 1) := by decide +kernel
theorem dL_act_443 : decode cL_act 443 = .ok (.invokestatic 37, 3) := by decide +kernel
theorem dL_act_446 : decode cL_act 446 = .ok (.invokevirtual 88, 3) := by decide +kernel
theorem dL_act_449 : decode cL_act 449 = .ok (.iload 6, 2) := by decide +kernel
theorem dL_act_451 : decode cL_act 451 = .ok (.if_icmp .ne 29, 3) := by decide +kernel
theorem dL_act_454 : decode cL_act 454 = .ok (.aload_n 0, 1) := by decide +kernel
theorem dL_act_455 : decode cL_act 455 = .ok (.iload_n 3, 1) := by decide +kernel
theorem dL_act_456 : decode cL_act 456 = .ok (.iconst 0, 1) := by decide +kernel
theorem dL_act_457 : decode cL_act 457 = .ok (.invokevirtual 60, 3) := by decide +kernel
theorem dL_act_460 : decode cL_act 460 = .ok (.iload 6, 2) := by decide +kernel
theorem dL_act_462 : decode cL_act 462 = .ok (.if_icmp .ne 18, 3) := by decide +kernel
theorem dL_act_465 : decode cL_act 465 = .ok (.aload_n 0, 1) := by decide +kernel
theorem dL_act_466 : decode cL_act 466 = .ok (.iload 6, 2) := by decide +kernel
theorem dL_act_468 : decode cL_act 468 = .ok (.iconst 1, 1) := by decide +kernel
theorem dL_act_469 : decode cL_act 469 = .ok (.invokevirtual 70, 3) := by decide +kernel
theorem dL_act_472 : decode cL_act 472 = .ok (.iconst 1, 1) := by decide +kernel
theorem dL_act_473 : decode cL_act 473 = .ok (.if_icmp .ne 7, 3) := by decide +kernel
theorem dL_act_476 : decode cL_act 476 = .ok (.iconst 1, 1) := by decide +kernel
theorem dL_act_477 : decode cL_act 477 = .ok (.goto 4, 3) := by decide +kernel
theorem dL_act_480 : decode cL_act 480 = .ok (.iconst 0, 1) := by decide +kernel
theorem dL_act_481 : decode cL_act 481 = .ok (.ireturn, 1) := by decide +kernel
theorem dL_act_482 : decode cL_act 482 = .ok (.iconst 1, 1) := by decide +kernel
theorem dL_act_483 : decode cL_act 483 = .ok (.iload_n 1, 1) := by decide +kernel
theorem dL_act_484 : decode cL_act 484 = .ok (.iconst 5, 1) := by decide +kernel
theorem dL_act_485 : decode cL_act 485 = .ok (.ishr, 1) := by decide +kernel
theorem dL_act_486 : decode cL_act 486 = .ok (.iconst 4, 1) := by decide +kernel
theorem dL_act_487 : decode cL_act 487 = .ok (.invokestatic 37, 3) := by decide +kernel
theorem dL_act_490 : decode cL_act 490 = .ok (.iadd, 1) := by decide +kernel
theorem dL_act_491 : decode cL_act 491 = .ok (.istore 12, 2) := by decide +kernel
theorem dL_act_493 : decode cL_act 493 = .ok (.aload_n 0, 1) := by decide +kernel
theorem dL_act_494 : decode cL_act 494 = .ok (.bipush 12, 2) := by decide +kernel
theorem dL_act_496 : decode cL_act 496 = .ok (.invokevirtual 30, 3) := by decide +kernel
theorem dL_act_499 : decode cL_act 499 = .ok (.iload 12, 2) := by decide +kernel
theorem dL_act_501 : decode cL_act 501 = .ok (.iadd, 1) := by decide +kernel
theorem dL_act_502 : decode cL_act 502 = .ok (.sipush 199, 3) := by decide +kernel
theorem dL_act_505 : decode cL_act 505 = .ok (.if_icmp .le 5, 3) := by decide +kernel
theorem dL_act_508 : decode cL_act 508 = .ok (.iconst 1, 1) := by decide +kernel
theorem dL_act_509 : decode cL_act 509 = .ok (.ireturn, 1) := by decide +kernel
theorem dL_act_510 : decode cL_act 510 = .ok (.aload_n 0, 1) := by decide +kernel
theorem dL_act_511 : decode cL_act 511 = .ok (.iload 12, 2) := by decide +kernel
theorem dL_act_513 : decode cL_act 513 = .ok (.invokevirtual 91, 3) := by decide +kernel
theorem dL_act_516 : decode cL_act 516 = .ok (.istore 13, 2) := by decide +kernel
theorem dL_act_518 : decode cL_act 518 = .ok (.aload_n 0, 1) := by decide +kernel
theorem dL_act_519 : decode cL_act 519 = .ok (.iload 12, 2) := by decide +kernel
theorem dL_act_521 : decode cL_act 521 = .ok (.invokevirtual 94, 3) := by decide +kernel
theorem dL_act_524 : decode cL_act 524 = .ok (.iload 13, 2) := by decide +kernel
theorem dL_act_526 : decode cL_act 526 = .ok (.if_icmp .ne 21, 3) := by decide +kernel
theorem dL_act_529 : decode cL_act 529 = .ok (.aload_n 0, 1) := by decide +kernel
theorem dL_act_530 : decode cL_act 530 = .ok (.bipush 9, 2) := by decide +kernel
theorem dL_act_532 : decode cL_act 532 = .ok (.invokevirtual 30, 3) := by decide +kernel
theorem dL_act_535 : decode cL_act 535 = .ok (.iload 7, 2) := by decide +kernel
theorem dL_act_537 : decode cL_act 537 = .ok (.iload 13, 2) := by decide +kernel
theorem dL_act_539 : decode cL_act 539 = .ok (.isub, 1) := by decide +kernel
theorem dL_act_540 : decode cL_act 540 = .ok (.if_icmp .ne 7, 3) := by decide +kernel
theorem dL_act_543 : decode cL_act 543 = .ok (.iconst 1, 1) := by decide +kernel
theorem dL_act_544 : decode cL_act 544 = .ok (.goto 4, 3) := by decide +kernel
theorem dL_act_547 : decode cL_act 547 = .ok (.iconst 0, 1) := by decide +kernel
theorem dL_act_548 : decode cL_act 548 = .ok (.ireturn, 1) := by decide +kernel
theorem dL_act_549 : decode cL_act 549 = .ok (.aload_n 0, 1) := by decide +kernel
theorem dL_act_550 : decode cL_act 550 = .ok (.iload 4, 2) := by decide +kernel
theorem dL_act_552 : decode cL_act 552 = .ok (.iload 5, 2) := by decide +kernel
theorem dL_act_554 : decode cL_act 554 = .ok (.invokevirtual 97, 3) := by decide +kernel
theorem dL_act_557 : decode cL_act 557 = .ok (.istore 14, 2) := by decide +kernel
theorem dL_act_559 : decode cL_act 559 = .ok (.aload_n 0, 1) := by decide +kernel
theorem dL_act_560 : decode cL_act 560 = .ok (.iload 4, 2) := by decide +kernel
theorem dL_act_562 : decode cL_act 562 = .ok (.iload 5, 2) := by decide +kernel
theorem dL_act_564 : decode cL_act 564 = .ok (.iconst 1, 1) := by decide +kernel
theorem dL_act_565 : decode cL_act 565 = .ok (.invokevirtual 100, 3) := by decide +kernel
theorem dL_act_568 : decode cL_act 568 = .ok (.iconst 1, 1) := by decide +kernel
theorem dL_act_569 : decode cL_act 569 = .ok (.if_icmp .ne 46, 3) := by decide +kernel
theorem dL_act_572 : decode cL_act 572 = .ok (.aload_n 0, 1) := by decide +kernel
theorem dL_act_573 : decode cL_act 573 = .ok (.iload 4, 2) := by decide +kernel
theorem dL_act_575 : decode cL_act 575 = .ok (.iload 5, 2) := by decide +kernel
theorem dL_act_577 : decode cL_act 577 = .ok (.iconst 3, 1) := by decide +kernel
theorem dL_act_578 : decode cL_act 578 = .ok (.invokevirtual 100, 3) := by decide +kernel
theorem dL_act_581 : decode cL_act 581 = .ok (.ifCond .ne 34, 3) := by decide +kernel
theorem dL_act_584 : decode cL_act 584 = .ok (.iload 14, 2) := by decide +kernel
theorem dL_act_586 : decode cL_act 586 = .ok (.aload_n 0, 1) := by decide +kernel
theorem dL_act_587 : decode cL_act 587 = .ok (.iload 4, 2) := by decide +kernel
theorem dL_act_589 : decode cL_act 589 = .ok (.iload 5, 2) := by decide +kernel
theorem dL_act_591 : decode cL_act 591 = .ok (.iconst 5, 1) := by decide +kernel
theorem dL_act_592 : decode cL_act 592 = .ok (.invokevirtual 100, 3) := by decide +kernel
theorem dL_act_595 : decode cL_act 595 = .ok (.if_icmp .ne 20, 3) := by decide +kernel
theorem dL_act_598 : decode cL_act 598 = .ok (.aload_n 0, 1) := by decide +kernel
theorem dL_act_599 : decode cL_act 599 = .ok (.bipush 9, 2) := by decide +kernel
theorem dL_act_601 : decode cL_act 601 = .ok (.invokevirtual 30, 3) := by decide +kernel
theorem dL_act_604 : decode cL_act 604 = .ok (.iload 7, 2) := by decide +kernel
theorem dL_act_606 : decode cL_act 606 = .ok (.iconst 1, 1) := by decide +kernel
theorem dL_act_607 : decode cL_act 607 = .ok (.iadd, 1) := by decide +kernel
theorem dL_act_608 : decode cL_act 608 = .ok (.if_icmp .ne 7, 3) := by decide +kernel
theorem dL_act_611 : decode cL_act 611 = .ok (.iconst 1, 1) := by decide +kernel
theorem dL_act_612 : decode cL_act 612 = .ok (.goto 4, 3) := by decide +kernel
theorem dL_act_615 : decode cL_act 615 = .ok (.iconst 0, 1) := by decide +kernel
theorem dL_act_616 : decode cL_act 616 = .ok (.ireturn, 1) := by decide +kernel
theorem dL_act_617 : decode cL_act 617 = .ok (.aload_n 0, 1) := by decide +kernel
theorem dL_act_618 : decode cL_act 618 = .ok (.iload 4, 2) := by decide +kernel
theorem dL_act_620 : decode cL_act 620 = .ok (.iload 5, 2) := by decide +kernel
theorem dL_act_622 : decode cL_act 622 = .ok (.iconst 0, 1) := by decide +kernel
theorem dL_act_623 : decode cL_act 623 = .ok (.invokevirtual 100, 3) := by decide +kernel
theorem dL_act_626 : decode cL_act 626 = .ok (.istore 15, 2) := by decide +kernel
theorem dL_act_628 : decode cL_act 628 = .ok (.aload_n 0, 1) := by decide +kernel
theorem dL_act_629 : decode cL_act 629 = .ok (.iload 4, 2) := by decide +kernel
theorem dL_act_631 : decode cL_act 631 = .ok (.iload 5, 2) := by decide +kernel
theorem dL_act_633 : decode cL_act 633 = .ok (.invokevirtual 103, 3) := by decide +kernel
theorem dL_act_636 : decode cL_act 636 = .ok (.pop, 1) := by decide +kernel
theorem dL_act_637 : decode cL_act 637 = .ok (.aload_n 0, 1) := by decide +kernel
theorem dL_act_638 : decode cL_act 638 = .ok (.iload 4, 2) := by decide +kernel
theorem dL_act_640 : decode cL_act 640 = .ok (.iload 5, 2) := by decide +kernel
theorem dL_act_642 : decode cL_act 642 = .ok (.iconst 0, 1) := by decide +kernel
theorem dL_act_643 : decode cL_act 643 = .ok (.invokevirtual 100, 3) := by decide +kernel
theorem dL_act_646 : decode cL_act 646 = .ok (.iload 15, 2) := by decide +kernel
theorem dL_act_648 : decode cL_act 648 = .ok (.iconst 1, 1) := by decide +kernel
theorem dL_act_649 : decode cL_act 649 = .ok (.isub, 1) := by decide +kernel
theorem dL_act_650 : decode cL_act 650 = .ok (.if_icmp .ne 19, 3) := by decide +kernel
theorem dL_act_653 : decode cL_act 653 = .ok (.aload_n 0, 1) := by decide +kernel
theorem dL_act_654 : decode cL_act 654 = .ok (.iload 4, 2) := by decide +kernel
theorem dL_act_656 : decode cL_act 656 = .ok (.iload 5, 2) := by decide +kernel
theorem dL_act_658 : decode cL_act 658 = .ok (.iconst 1, 1) := by decide +kernel
theorem dL_act_659 : decode cL_act 659 = .ok (.invokevirtual 100, 3) := by decide +kernel
theorem dL_act_662 : decode cL_act 662 = .ok (.ifCond .ne 7, 3) := by decide +kernel
theorem dL_act_665 : decode cL_act 665 = .ok (.iconst 1, 1) := by decide +kernel
theorem dL_act_666 : decode cL_act 666 = .ok (.goto 4, 3) := by decide +kernel
theorem dL_act_669 : decode cL_act 669 = .ok (.iconst 0, 1) := by decide +kernel
theorem dL_act_670 : decode cL_act 670 = .ok (.ireturn, 1) := by decide +kernel
theorem dL_act_671 : decode cL_act 671 = .ok (.aload_n 0, 1) := by decide +kernel
theorem dL_act_672 : decode cL_act 672 = .ok (.iload_n 1, 1) := by decide +kernel
theorem dL_act_673 : decode cL_act 673 = .ok (.iload 4, 2) := by decide +kernel
theorem dL_act_675 : decode cL_act 675 = .ok (.iload 5, 2) := by decide +kernel
theorem dL_act_677 : decode cL_act 677 = .ok (.iload_n 3, 1) := by decide +kernel
theorem dL_act_678 : decode cL_act 678 = .ok (.invokestatic 106, 3) := by decide +kernel
theorem dL_act_681 : decode cL_act 681 = .ok (.ireturn, 1) := by decide +kernel
theorem dL_act_682 : decode cL_act 682 = .ok (.astore 8, 2) := by decide +kernel
theorem dL_act_684 : decode cL_act 684 = .ok (.iload_n 2, 1) := by decide +kernel
theorem dL_act_685 : decode cL_act 685 = .ok (.ifCond .ne 7, 3) := by decide +kernel
theorem dL_act_688 : decode cL_act 688 = .ok (.iconst 1, 1) := by decide +kernel
theorem dL_act_689 : decode cL_act 689 = .ok (.goto 4, 3) := by decide +kernel
theorem dL_act_692 : decode cL_act 692 = .ok (.iconst 0, 1) := by decide +kernel
theorem dL_act_693 : decode cL_act 693 = .ok (.ireturn, 1) := by decide +kernel
theorem dL_act_694 : decode cL_act 694 = .ok (.astore 8, 2) := by decide +kernel
theorem dL_act_696 : decode cL_act 696 = .ok (.iload_n 1, 1) := by decide +kernel
theorem dL_act_697 : decode cL_act 697 = .ok (.bipush 20, 2) := by decide +kernel
theorem dL_act_699 : decode cL_act 699 = .ok (.invokestatic 37, 3) := by decide +kernel
theorem dL_act_702 : decode cL_act 702 = .ok (.bipush 9, 2) := by decide +kernel
theorem dL_act_704 : decode cL_act 704 = .ok (.if_icmp .eq 14, 3) := by decide +kernel
theorem dL_act_707 : decode cL_act 707 = .ok (.iload_n 1, 1) := by decide +kernel
theorem dL_act_708 : decode cL_act 708 = .ok (.bipush 20, 2) := by decide +kernel
theorem dL_act_710 : decode cL_act 710 = .ok (.invokestatic 37, 3) := by decide +kernel
theorem dL_act_713 : decode cL_act 713 = .ok (.bipush 10, 2) := by decide +kernel
theorem dL_act_715 : decode cL_act 715 = .ok (.if_icmp .ne 7, 3) := by decide +kernel
theorem dL_act_718 : decode cL_act 718 = .ok (.iconst 1, 1) := by decide +kernel
theorem dL_act_719 : decode cL_act 719 = .ok (.goto 4, 3) := by decide +kernel
theorem dL_act_722 : decode cL_act 722 = .ok (.iconst 0, 1) := by decide +kernel
theorem dL_act_723 : decode cL_act 723 = .ok (.ireturn, 1) := by decide +kernel
theorem dL_act_724 : decode cL_act 724 = .ok (.astore 8, 2) := by decide +kernel
theorem dL_act_726 : decode cL_act 726 = .ok (.aload_n 0, 1) := by decide +kernel
theorem dL_act_727 : decode cL_act 727 = .ok (.bipush 9, 2) := by decide +kernel
theorem dL_act_729 : decode cL_act 729 = .ok (.invokevirtual 30, 3) := by decide +kernel
theorem dL_act_732 : decode cL_act 732 = .ok (.iload 7, 2) := by decide +kernel
theorem dL_act_734 : decode cL_act 734 = .ok (.if_icmp .gt 29, 3) := by decide +kernel
theorem dL_act_737 : decode cL_act 737 = .ok (.iload_n 1, 1) := by decide +kernel
theorem dL_act_738 : decode cL_act 738 = .ok (.bipush 20, 2) := by decide +kernel
theorem dL_act_740 : decode cL_act 740 = .ok (.invokestatic 37, 3) := by decide +kernel
theorem dL_act_743 : decode cL_act 743 = .ok (.bipush 11, 2) := by decide +kernel
theorem dL_act_745 : decode cL_act 745 = .ok (.if_icmp .eq 18, 3) := by decide +kernel
theorem dL_act_748 : decode cL_act 748 = .ok (.iload_n 1, 1) := by decide +kernel
theorem dL_act_749 : decode cL_act 749 = .ok (.bipush 20, 2) := by decide +kernel
theorem dL_act_751 : decode cL_act 751 = .ok (.invokestatic 37, 3) := by decide +kernel
theorem dL_act_754 : decode cL_act 754 = .ok (.bipush 12, 2) := by decide +kernel
theorem dL_act_756 : decode cL_act 756 = .ok (.if_icmp .eq 7, 3) := by decide +kernel
theorem dL_act_759 : decode cL_act 759 = .ok (.iconst 1, 1) := by decide +kernel
theorem dL_act_760 : decode cL_act 760 = .ok (.goto 4, 3) := by decide +kernel
theorem dL_act_763 : decode cL_act 763 = .ok (.iconst 0, 1) := by decide +kernel
theorem dL_act_764 : decode cL_act 764 = .ok (.ireturn, 1) := by decide +kernel
theorem dL_isWritten_0 : decode cL_isWritten 0 = .ok (.aload_n 0, 1) := by decide +kernel
theorem dL_isWritten_1 : decode cL_isWritten 1 = .ok (.iload_n 2, 1) := by decide +kernel
theorem dL_isWritten_2 : decode cL_isWritten 2 = .ok (.iload_n 3, 1) := by decide +kernel
theorem dL_isWritten_3 : decode cL_isWritten 3 = .ok (.iconst 0, 1) := by decide +kernel
theorem dL_isWritten_4 : decode cL_isWritten 4 = .ok (.invokevirtual 100, 3) := by decide +kernel
theorem dL_isWritten_7 : decode cL_isWritten 7 = .ok (.istore 5, 2) := by decide +kernel
theorem dL_isWritten_9 : decode cL_isWritten 9 = .ok (.iload 5, 2) := by decide +kernel
theorem dL_isWritten_11 : decode cL_isWritten 11 = .ok (.bipush 12, 2) := by decide +kernel
theorem dL_isWritten_13 : decode cL_isWritten 13 = .ok (.if_icmp .ge 8, 3) := by decide +kernel
theorem dL_isWritten_16 : decode cL_isWritten 16 = .ok (.iload 5, 2) := by decide +kernel
theorem dL_isWritten_18 : decode cL_isWritten 18 = .ok (.goto 11, 3) := by decide +kernel
theorem dL_isWritten_21 : decode cL_isWritten 21 = .ok (.iload_n 1, 1) := by decide +kernel
theorem dL_isWritten_22 : decode cL_isWritten 22 = .ok (.iconst 5, 1) := by decide +kernel
theorem dL_isWritten_23 : decode cL_isWritten 23 = .ok (.ishr, 1) := by decide +kernel
theorem dL_isWritten_24 : decode cL_isWritten 24 = .ok (.bipush 12, 2) := by decide +kernel
theorem dL_isWritten_26 : decode cL_isWritten 26 = .ok (.invokestatic 37, 3) := by decide +kernel
theorem dL_isWritten_29 : decode cL_isWritten 29 = .ok (.istore 6, 2) := by decide +kernel
theorem dL_isWritten_31 : decode cL_isWritten 31 = .ok (.aload_n 0, 1) := by decide +kernel
theorem dL_isWritten_32 : decode cL_isWritten 32 = .ok (.iload_n 2, 1) := by decide +kernel
theorem dL_isWritten_33 : decode cL_isWritten 33 = .ok (.iload_n 3, 1) := by decide +kernel
theorem dL_isWritten_34 : decode cL_isWritten 34 = .ok (.iload 6, 2) := by decide +kernel
theorem dL_isWritten_36 : decode cL_isWritten 36 = .ok (.iload 4, 2) := by decide +kernel
theorem dL_isWritten_38 : decode cL_isWritten 38 = .ok (.invokevirtual 116, 3) := by decide +kernel
theorem dL_isWritten_41 : decode cL_isWritten 41 = .ok (.istore 7, 2) := by decide +kernel
theorem dL_isWritten_43 : decode cL_isWritten 43 = .ok (.iload 7, 2) := by decide +kernel
theorem dL_isWritten_45 : decode cL_isWritten 45 = .ok (.ifCond .lt 14, 3) := by decide +kernel
theorem dL_isWritten_48 : decode cL_isWritten 48 = .ok (.iload_n 1, 1) := by decide +kernel
theorem dL_isWritten_49 : decode cL_isWritten 49 = .ok (.bipush 7, 2) := by decide +kernel
theorem dL_isWritten_51 : decode cL_isWritten 51 = .ok (.ishr, 1) := by decide +kernel
theorem dL_isWritten_52 : decode cL_isWritten 52 = .ok (.iconst 3, 1) := by decide +kernel
theorem dL_isWritten_53 : decode cL_isWritten 53 = .ok (.invokestatic 37, 3) := by decide +kernel
theorem dL_isWritten_56 : decode cL_isWritten 56 = .ok (.ifCond .ne 14, 3) := by decide +kernel
theorem dL_isWritten_59 : decode cL_isWritten 59 = .ok (.iload_n 1, 1) := by decide +kernel
theorem dL_isWritten_60 : decode cL_isWritten 60 = .ok (.iconst 5, 1) := by decide +kernel
theorem dL_isWritten_61 : decode cL_isWritten 61 = .ok (.ishr, 1) := by decide +kernel
theorem dL_isWritten_62 : decode cL_isWritten 62 = .ok (.bipush 24, 2) := by decide +kernel
theorem dL_isWritten_64 : decode cL_isWritten 64 = .ok (.invokestatic 37, 3) := by decide +kernel
theorem dL_isWritten_67 : decode cL_isWritten 67 = .ok (.goto 5, 3) := by decide +kernel
theorem dL_isWritten_70 : decode cL_isWritten 70 = .ok (.iload 7, 2) := by decide +kernel
theorem dL_isWritten_72 : decode cL_isWritten 72 = .ok (.istore 8, 2) := by decide +kernel
theorem dL_isWritten_74 : decode cL_isWritten 74 = .ok (.aload_n 0, 1) := by decide +kernel
theorem dL_isWritten_75 : decode cL_isWritten 75 = .ok (.iload_n 2, 1) := by decide +kernel
theorem dL_isWritten_76 : decode cL_isWritten 76 = .ok (.iload_n 3, 1) := by decide +kernel
theorem dL_isWritten_77 : decode cL_isWritten 77 = .ok (.iload 6, 2) := by decide +kernel
theorem dL_isWritten_79 : decode cL_isWritten 79 = .ok (.iload 8, 2) := by decide +kernel
theorem dL_isWritten_81 : decode cL_isWritten 81 = .ok (.invokevirtual 120, 3) := by decide +kernel
theorem dL_isWritten_84 : decode cL_isWritten 84 = .ok (.pop, 1) := by decide +kernel
theorem dL_isWritten_85 : decode cL_isWritten 85 = .ok (.aload_n 0, 1) := by decide +kernel
theorem dL_isWritten_86 : decode cL_isWritten 86 = .ok (.iload_n 2, 1) := by decide +kernel
theorem dL_isWritten_87 : decode cL_isWritten 87 = .ok (.iload_n 3, 1) := by decide +kernel
theorem dL_isWritten_88 : decode cL_isWritten 88 = .ok (.iconst 1, 1) := by decide +kernel
theorem dL_isWritten_89 : decode cL_isWritten 89 = .ok (.invokevirtual 100, 3) := by decide +kernel
theorem dL_isWritten_92 : decode cL_isWritten 92 = .ok (.ifCond .ne 27, 3) := by decide +kernel
theorem dL_isWritten_95 : decode cL_isWritten 95 = .ok (.iload 8, 2) := by decide +kernel
theorem dL_isWritten_97 : decode cL_isWritten 97 = .ok (.iload 7, 2) := by decide +kernel
theorem dL_isWritten_99 : decode cL_isWritten 99 = .ok (.if_icmp .ne 16, 3) := by decide +kernel
theorem dL_isWritten_102 : decode cL_isWritten 102 = .ok (.aload_n 0, 1) := by decide +kernel
theorem dL_isWritten_103 : decode cL_isWritten 103 = .ok (.iload_n 2, 1) := by decide +kernel
theorem dL_isWritten_104 : decode cL_isWritten 104 = .ok (.iload_n 3, 1) := by decide +kernel
theorem dL_isWritten_105 : decode cL_isWritten 105 = .ok (.iload 6, 2) := by decide +kernel
theorem dL_isWritten_107 : decode cL_isWritten 107 = .ok (.invokevirtual 123, 3) := by decide +kernel
theorem dL_isWritten_110 : decode cL_isWritten 110 = .ok (.iload 4, 2) := by decide +kernel
theorem dL_isWritten_112 : decode cL_isWritten 112 = .ok (.if_icmp .ne 7, 3) := by decide +kernel
theorem dL_isWritten_115 : decode cL_isWritten 115 = .ok (.iconst 1, 1) := by decide +kernel
theorem dL_isWritten_116 : decode cL_isWritten 116 = .ok (.goto 4, 3) := by decide +kernel
theorem dL_isWritten_119 : decode cL_isWritten 119 = .ok (.iconst 0, 1) := by decide +kernel
theorem dL_isWritten_120 : decode cL_isWritten 120 = .ok (.ireturn, 1) := by decide +kernel
theorem dL_areUsesRight_0 : decode cL_areUsesRight 0 = .ok (.bipush 24, 2) := by decide +kernel
theorem dL_areUsesRight_2 : decode cL_areUsesRight 2 = .ok (.newarray .int, 2) := by decide +kernel
theorem dL_areUsesRight_4 : decode cL_areUsesRight 4 = .ok (.astore_n 1, 1) := by decide +kernel
theorem dL_areUsesRight_5 : decode cL_areUsesRight 5 = .ok (.iconst 0, 1) := by decide +kernel
theorem dL_areUsesRight_6 : decode cL_areUsesRight 6 = .ok (.istore_n 2, 1) := by decide +kernel
theorem dL_areUsesRight_7 : decode cL_areUsesRight 7 = .ok (.iconst 0, 1) := by decide +kernel
theorem dL_areUsesRight_8 : decode cL_areUsesRight 8 = .ok (.istore_n 3, 1) := by decide +kernel
theorem dL_areUsesRight_9 : decode cL_areUsesRight 9 = .ok (.iload_n 3, 1) := by decide +kernel
theorem dL_areUsesRight_10 : decode cL_areUsesRight 10 = .ok (.iconst 2, 1) := by decide +kernel
theorem dL_areUsesRight_11 : decode cL_areUsesRight 11 = .ok (.if_icmp .ge 247, 3) := by decide +kernel
theorem dL_areUsesRight_14 : decode cL_areUsesRight 14 = .ok (.iconst 0, 1) := by decide +kernel
theorem dL_areUsesRight_15 : decode cL_areUsesRight 15 = .ok (.istore 4, 2) := by decide +kernel
theorem dL_areUsesRight_17 : decode cL_areUsesRight 17 = .ok (.iload 4, 2) := by decide +kernel
theorem dL_areUsesRight_19 : decode cL_areUsesRight 19 = .ok (.iconst 3, 1) := by decide +kernel
theorem dL_areUsesRight_20 : decode cL_areUsesRight 20 = .ok (.if_icmp .ge 212, 3) := by decide +kernel
theorem dL_areUsesRight_23 : decode cL_areUsesRight 23 = .ok (.iconst 0, 1) := by decide +kernel
theorem dL_areUsesRight_24 : decode cL_areUsesRight 24 = .ok (.istore 5, 2) := by decide +kernel
theorem dL_areUsesRight_26 : decode cL_areUsesRight 26 = .ok (.iconst 0, 1) := by decide +kernel
theorem dL_areUsesRight_27 : decode cL_areUsesRight 27 = .ok (.istore 6, 2) := by decide +kernel
theorem dL_areUsesRight_29 : decode cL_areUsesRight 29 = .ok (.iconst 0, 1) := by decide +kernel
theorem dL_areUsesRight_30 : decode cL_areUsesRight 30 = .ok (.istore 7, 2) := by decide +kernel
theorem dL_areUsesRight_32 : decode cL_areUsesRight 32 = .ok (.iload 7, 2) := by decide +kernel
theorem dL_areUsesRight_34 : decode cL_areUsesRight 34 = .ok (.aload_n 0, 1) := by decide +kernel
theorem dL_areUsesRight_35 : decode cL_areUsesRight 35 = .ok (.iload_n 3, 1) := by decide +kernel
theorem dL_areUsesRight_36 : decode cL_areUsesRight 36 = .ok (.iload 4, 2) := by decide +kernel
theorem dL_areUsesRight_38 : decode cL_areUsesRight 38 = .ok (.iconst 0, 1) := by decide +kernel
theorem dL_areUsesRight_39 : decode cL_areUsesRight 39 = .ok (.invokevirtual 100, 3) := by decide +kernel
theorem dL_areUsesRight_42 : decode cL_areUsesRight 42 = .ok (.if_icmp .ge 102, 3) := by decide +kernel
theorem dL_areUsesRight_45 : decode cL_areUsesRight 45 = .ok (.aload_n 0, 1) := by decide +kernel
theorem dL_areUsesRight_46 : decode cL_areUsesRight 46 = .ok (.iload_n 3, 1) := by decide +kernel
theorem dL_areUsesRight_47 : decode cL_areUsesRight 47 = .ok (.iload 4, 2) := by decide +kernel
theorem dL_areUsesRight_49 : decode cL_areUsesRight 49 = .ok (.iload 7, 2) := by decide +kernel
theorem dL_areUsesRight_51 : decode cL_areUsesRight 51 = .ok (.invokevirtual 123, 3) := by decide +kernel
theorem dL_areUsesRight_54 : decode cL_areUsesRight 54 = .ok (.istore 8, 2) := by decide +kernel
theorem dL_areUsesRight_56 : decode cL_areUsesRight 56 = .ok (.iload 8, 2) := by decide +kernel
theorem dL_areUsesRight_58 : decode cL_areUsesRight 58 = .ok (.iconst (-1), 1) := by decide +kernel
theorem dL_areUsesRight_59 : decode cL_areUsesRight 59 = .ok (.if_icmp .lt 13, 3) := by decide +kernel
theorem dL_areUsesRight_62 : decode cL_areUsesRight 62 = .ok (.iload 8, 2) := by decide +kernel
theorem dL_areUsesRight_64 : decode cL_areUsesRight 64 = .ok (.aload_n 0, 1) := by decide +kernel
theorem dL_areUsesRight_65 : decode cL_areUsesRight 65 = .ok (.iconst 2, 1) := by decide +kernel
theorem dL_areUsesRight_66 : decode cL_areUsesRight 66 = .ok (.invokevirtual 30, 3) := by decide +kernel
theorem dL_areUsesRight_69 : decode cL_areUsesRight 69 = .ok (.if_icmp .lt 5, 3) := by decide +kernel
theorem dL_areUsesRight_72 : decode cL_areUsesRight 72 = .ok (.iconst 0, 1) := by decide +kernel
theorem dL_areUsesRight_73 : decode cL_areUsesRight 73 = .ok (.ireturn, 1) := by decide +kernel
theorem dL_areUsesRight_74 : decode cL_areUsesRight 74 = .ok (.iload 8, 2) := by decide +kernel
theorem dL_areUsesRight_76 : decode cL_areUsesRight 76 = .ok (.ifCond .ge 6, 3) := by decide +kernel
theorem dL_areUsesRight_79 : decode cL_areUsesRight 79 = .ok (.goto 59, 3) := by decide +kernel
theorem dL_areUsesRight_82 : decode cL_areUsesRight 82 = .ok (.aload_n 0, 1) := by decide +kernel
theorem dL_areUsesRight_83 : decode cL_areUsesRight 83 = .ok (.iload 8, 2) := by decide +kernel
theorem dL_areUsesRight_85 : decode cL_areUsesRight 85 = .ok (.iconst 1, 1) := by decide +kernel
theorem dL_areUsesRight_86 : decode cL_areUsesRight 86 = .ok (.invokevirtual 60, 3) := by decide +kernel
theorem dL_areUsesRight_89 : decode cL_areUsesRight 89 = .ok (.iload 4, 2) := by decide +kernel
theorem dL_areUsesRight_91 : decode cL_areUsesRight 91 = .ok (.if_icmp .ne 13, 3) := by decide +kernel
theorem dL_areUsesRight_94 : decode cL_areUsesRight 94 = .ok (.aload_n 0, 1) := by decide +kernel
theorem dL_areUsesRight_95 : decode cL_areUsesRight 95 = .ok (.iload 8, 2) := by decide +kernel
theorem dL_areUsesRight_97 : decode cL_areUsesRight 97 = .ok (.iconst 3, 1) := by decide +kernel
theorem dL_areUsesRight_98 : decode cL_areUsesRight 98 = .ok (.invokevirtual 60, 3) := by decide +kernel
theorem dL_areUsesRight_101 : decode cL_areUsesRight 101 = .ok (.ifCond .ne 5, 3) := by decide +kernel
theorem dL_areUsesRight_104 : decode cL_areUsesRight 104 = .ok (.iconst 0, 1) := by decide +kernel
theorem dL_areUsesRight_105 : decode cL_areUsesRight 105 = .ok (.ireturn, 1) := by decide +kernel
theorem dL_areUsesRight_106 : decode cL_areUsesRight 106 = .ok (.aload_n 1, 1) := by decide +kernel
theorem dL_areUsesRight_107 : decode cL_areUsesRight 107 = .ok (.iload 8, 2) := by decide +kernel
theorem dL_areUsesRight_109 : decode cL_areUsesRight 109 = .ok (.dup2, 1) := by decide +kernel
theorem dL_areUsesRight_110 : decode cL_areUsesRight 110 = .ok (.iaload, 1) := by decide +kernel
theorem dL_areUsesRight_111 : decode cL_areUsesRight 111 = .ok (.iconst 1, 1) := by decide +kernel
theorem dL_areUsesRight_112 : decode cL_areUsesRight 112 = .ok (.iadd, 1) := by decide +kernel
theorem dL_areUsesRight_113 : decode cL_areUsesRight 113 = .ok (.iastore, 1) := by decide +kernel
theorem dL_areUsesRight_114 : decode cL_areUsesRight 114 = .ok (.iinc 5 1, 3) := by decide +kernel
theorem dL_areUsesRight_117 : decode cL_areUsesRight 117 = .ok (.iload 6, 2) := by decide +kernel
theorem dL_areUsesRight_119 : decode cL_areUsesRight 119 = .ok (.aload_n 0, 1) := by decide +kernel
theorem dL_areUsesRight_120 : decode cL_areUsesRight 120 = .ok (.iload 8, 2) := by decide +kernel
theorem dL_areUsesRight_122 : decode cL_areUsesRight 122 = .ok (.iconst 3, 1) := by decide +kernel
theorem dL_areUsesRight_123 : decode cL_areUsesRight 123 = .ok (.invokevirtual 60, 3) := by decide +kernel
theorem dL_areUsesRight_126 : decode cL_areUsesRight 126 = .ok (.iconst 3, 1) := by decide +kernel
theorem dL_areUsesRight_127 : decode cL_areUsesRight 127 = .ok (.if_icmp .ne 7, 3) := by decide +kernel
theorem dL_areUsesRight_130 : decode cL_areUsesRight 130 = .ok (.iconst 1, 1) := by decide +kernel
theorem dL_areUsesRight_131 : decode cL_areUsesRight 131 = .ok (.goto 4, 3) := by decide +kernel
theorem dL_areUsesRight_134 : decode cL_areUsesRight 134 = .ok (.iconst 0, 1) := by decide +kernel
theorem dL_areUsesRight_135 : decode cL_areUsesRight 135 = .ok (.iadd, 1) := by decide +kernel
theorem dL_areUsesRight_136 : decode cL_areUsesRight 136 = .ok (.istore 6, 2) := by decide +kernel
theorem dL_areUsesRight_138 : decode cL_areUsesRight 138 = .ok (.iinc 7 1, 3) := by decide +kernel
theorem dL_areUsesRight_141 : decode cL_areUsesRight 141 = .ok (.goto (-109), 3) := by decide +kernel
theorem dL_areUsesRight_144 : decode cL_areUsesRight 144 = .ok (.aload_n 0, 1) := by decide +kernel
theorem dL_areUsesRight_145 : decode cL_areUsesRight 145 = .ok (.iload_n 3, 1) := by decide +kernel
theorem dL_areUsesRight_146 : decode cL_areUsesRight 146 = .ok (.iload 4, 2) := by decide +kernel
theorem dL_areUsesRight_148 : decode cL_areUsesRight 148 = .ok (.iconst 2, 1) := by decide +kernel
theorem dL_areUsesRight_149 : decode cL_areUsesRight 149 = .ok (.invokevirtual 100, 3) := by decide +kernel
theorem dL_areUsesRight_152 : decode cL_areUsesRight 152 = .ok (.iload 5, 2) := by decide +kernel
theorem dL_areUsesRight_154 : decode cL_areUsesRight 154 = .ok (.if_icmp .ne 65, 3) := by decide +kernel
theorem dL_areUsesRight_157 : decode cL_areUsesRight 157 = .ok (.aload_n 0, 1) := by decide +kernel
theorem dL_areUsesRight_158 : decode cL_areUsesRight 158 = .ok (.iload_n 3, 1) := by decide +kernel
theorem dL_areUsesRight_159 : decode cL_areUsesRight 159 = .ok (.iload 4, 2) := by decide +kernel
theorem dL_areUsesRight_161 : decode cL_areUsesRight 161 = .ok (.iconst 3, 1) := by decide +kernel
theorem dL_areUsesRight_162 : decode cL_areUsesRight 162 = .ok (.invokevirtual 100, 3) := by decide +kernel
theorem dL_areUsesRight_165 : decode cL_areUsesRight 165 = .ok (.iload 6, 2) := by decide +kernel
theorem dL_areUsesRight_167 : decode cL_areUsesRight 167 = .ok (.if_icmp .ne 52, 3) := by decide +kernel
theorem dL_areUsesRight_170 : decode cL_areUsesRight 170 = .ok (.aload_n 0, 1) := by decide +kernel
theorem dL_areUsesRight_171 : decode cL_areUsesRight 171 = .ok (.iload_n 3, 1) := by decide +kernel
theorem dL_areUsesRight_172 : decode cL_areUsesRight 172 = .ok (.iload 4, 2) := by decide +kernel
theorem dL_areUsesRight_174 : decode cL_areUsesRight 174 = .ok (.iconst 4, 1) := by decide +kernel
theorem dL_areUsesRight_175 : decode cL_areUsesRight 175 = .ok (.invokevirtual 100, 3) := by decide +kernel
theorem dL_areUsesRight_178 : decode cL_areUsesRight 178 = .ok (.ifCond .ge 7, 3) := by decide +kernel
theorem dL_areUsesRight_181 : decode cL_areUsesRight 181 = .ok (.iconst 1, 1) := by decide +kernel
theorem dL_areUsesRight_182 : decode cL_areUsesRight 182 = .ok (.goto 4, 3) := by decide +kernel
theorem dL_areUsesRight_185 : decode cL_areUsesRight 185 = .ok (.iconst 0, 1) := by decide +kernel
theorem dL_areUsesRight_186 : decode cL_areUsesRight 186 = .ok (.iload 6, 2) := by decide +kernel
theorem dL_areUsesRight_188 : decode cL_areUsesRight 188 = .ok (.ifCond .ne 7, 3) := by decide +kernel
theorem dL_areUsesRight_191 : decode cL_areUsesRight 191 = .ok (.iconst 1, 1) := by decide +kernel
theorem dL_areUsesRight_192 : decode cL_areUsesRight 192 = .ok (.goto 4, 3) := by decide +kernel
theorem dL_areUsesRight_195 : decode cL_areUsesRight 195 = .ok (.iconst 0, 1) := by decide +kernel
theorem dL_areUsesRight_196 : decode cL_areUsesRight 196 = .ok (.if_icmp .ne 23, 3) := by decide +kernel
theorem dL_areUsesRight_199 : decode cL_areUsesRight 199 = .ok (.aload_n 0, 1) := by decide +kernel
theorem dL_areUsesRight_200 : decode cL_areUsesRight 200 = .ok (.iload_n 3, 1) := by decide +kernel
theorem dL_areUsesRight_201 : decode cL_areUsesRight 201 = .ok (.iload 4, 2) := by decide +kernel
theorem dL_areUsesRight_203 : decode cL_areUsesRight 203 = .ok (.bipush 6, 2) := by decide +kernel
theorem dL_areUsesRight_205 : decode cL_areUsesRight 205 = .ok (.invokevirtual 100, 3) := by decide +kernel
theorem dL_areUsesRight_208 : decode cL_areUsesRight 208 = .ok (.aload_n 0, 1) := by decide +kernel
theorem dL_areUsesRight_209 : decode cL_areUsesRight 209 = .ok (.iload_n 3, 1) := by decide +kernel
theorem dL_areUsesRight_210 : decode cL_areUsesRight 210 = .ok (.iload 4, 2) := by decide +kernel
theorem dL_areUsesRight_212 : decode cL_areUsesRight 212 = .ok (.iconst 0, 1) := by decide +kernel
theorem dL_areUsesRight_213 : decode cL_areUsesRight 213 = .ok (.invokevirtual 100, 3) := by decide +kernel
theorem dL_areUsesRight_216 : decode cL_areUsesRight 216 = .ok (.if_icmp .le 5, 3) := by decide +kernel
theorem dL_areUsesRight_219 : decode cL_areUsesRight 219 = .ok (.iconst 0, 1) := by decide +kernel
theorem dL_areUsesRight_220 : decode cL_areUsesRight 220 = .ok (.ireturn, 1) := by decide +kernel
theorem dL_areUsesRight_221 : decode cL_areUsesRight 221 = .ok (.iload_n 2, 1) := by decide +kernel
theorem dL_areUsesRight_222 : decode cL_areUsesRight 222 = .ok (.iload 5, 2) := by decide +kernel
theorem dL_areUsesRight_224 : decode cL_areUsesRight 224 = .ok (.iadd, 1) := by decide +kernel
theorem dL_areUsesRight_225 : decode cL_areUsesRight 225 = .ok (.istore_n 2, 1) := by decide +kernel
theorem dL_areUsesRight_226 : decode cL_areUsesRight 226 = .ok (.iinc 4 1, 3) := by decide +kernel
theorem dL_areUsesRight_229 : decode cL_areUsesRight 229 = .ok (.goto (-212), 3) := by decide +kernel
theorem dL_areUsesRight_232 : decode cL_areUsesRight 232 = .ok (.aload_n 0, 1) := by decide +kernel
theorem dL_areUsesRight_233 : decode cL_areUsesRight 233 = .ok (.iload_n 3, 1) := by decide +kernel
theorem dL_areUsesRight_234 : decode cL_areUsesRight 234 = .ok (.invokevirtual 126, 3) := by decide +kernel
theorem dL_areUsesRight_237 : decode cL_areUsesRight 237 = .ok (.ifCond .lt 13, 3) := by decide +kernel
theorem dL_areUsesRight_240 : decode cL_areUsesRight 240 = .ok (.aload_n 0, 1) := by decide +kernel
theorem dL_areUsesRight_241 : decode cL_areUsesRight 241 = .ok (.iload_n 3, 1) := by decide +kernel
theorem dL_areUsesRight_242 : decode cL_areUsesRight 242 = .ok (.invokevirtual 126, 3) := by decide +kernel
theorem dL_areUsesRight_245 : decode cL_areUsesRight 245 = .ok (.bipush 100, 2) := by decide +kernel
theorem dL_areUsesRight_247 : decode cL_areUsesRight 247 = .ok (.if_icmp .le 5, 3) := by decide +kernel
theorem dL_areUsesRight_250 : decode cL_areUsesRight 250 = .ok (.iconst 0, 1) := by decide +kernel
theorem dL_areUsesRight_251 : decode cL_areUsesRight 251 = .ok (.ireturn, 1) := by decide +kernel
theorem dL_areUsesRight_252 : decode cL_areUsesRight 252 = .ok (.iinc 3 1, 3) := by decide +kernel
theorem dL_areUsesRight_255 : decode cL_areUsesRight 255 = .ok (.goto (-246), 3) := by decide +kernel
theorem dL_areUsesRight_258 : decode cL_areUsesRight 258 = .ok (.iconst 0, 1) := by decide +kernel
theorem dL_areUsesRight_259 : decode cL_areUsesRight 259 = .ok (.istore_n 3, 1) := by decide +kernel
theorem dL_areUsesRight_260 : decode cL_areUsesRight 260 = .ok (.iload_n 3, 1) := by decide +kernel
theorem dL_areUsesRight_261 : decode cL_areUsesRight 261 = .ok (.aload_n 0, 1) := by decide +kernel
theorem dL_areUsesRight_262 : decode cL_areUsesRight 262 = .ok (.iconst 2, 1) := by decide +kernel
theorem dL_areUsesRight_263 : decode cL_areUsesRight 263 = .ok (.invokevirtual 30, 3) := by decide +kernel
theorem dL_areUsesRight_266 : decode cL_areUsesRight 266 = .ok (.if_icmp .ge 24, 3) := by decide +kernel
theorem dL_areUsesRight_269 : decode cL_areUsesRight 269 = .ok (.aload_n 0, 1) := by decide +kernel
theorem dL_areUsesRight_270 : decode cL_areUsesRight 270 = .ok (.iload_n 3, 1) := by decide +kernel
theorem dL_areUsesRight_271 : decode cL_areUsesRight 271 = .ok (.bipush 7, 2) := by decide +kernel
theorem dL_areUsesRight_273 : decode cL_areUsesRight 273 = .ok (.invokevirtual 60, 3) := by decide +kernel
theorem dL_areUsesRight_276 : decode cL_areUsesRight 276 = .ok (.aload_n 1, 1) := by decide +kernel
theorem dL_areUsesRight_277 : decode cL_areUsesRight 277 = .ok (.iload_n 3, 1) := by decide +kernel
theorem dL_areUsesRight_278 : decode cL_areUsesRight 278 = .ok (.iaload, 1) := by decide +kernel
theorem dL_areUsesRight_279 : decode cL_areUsesRight 279 = .ok (.if_icmp .eq 5, 3) := by decide +kernel
theorem dL_areUsesRight_282 : decode cL_areUsesRight 282 = .ok (.iconst 0, 1) := by decide +kernel
theorem dL_areUsesRight_283 : decode cL_areUsesRight 283 = .ok (.ireturn, 1) := by decide +kernel
theorem dL_areUsesRight_284 : decode cL_areUsesRight 284 = .ok (.iinc 3 1, 3) := by decide +kernel
theorem dL_areUsesRight_287 : decode cL_areUsesRight 287 = .ok (.goto (-27), 3) := by decide +kernel
theorem dL_areUsesRight_290 : decode cL_areUsesRight 290 = .ok (.iconst 0, 1) := by decide +kernel
theorem dL_areUsesRight_291 : decode cL_areUsesRight 291 = .ok (.istore_n 3, 1) := by decide +kernel
theorem dL_areUsesRight_292 : decode cL_areUsesRight 292 = .ok (.iconst 0, 1) := by decide +kernel
theorem dL_areUsesRight_293 : decode cL_areUsesRight 293 = .ok (.istore 4, 2) := by decide +kernel
theorem dL_areUsesRight_295 : decode cL_areUsesRight 295 = .ok (.iload 4, 2) := by decide +kernel
theorem dL_areUsesRight_297 : decode cL_areUsesRight 297 = .ok (.aload_n 0, 1) := by decide +kernel
theorem dL_areUsesRight_298 : decode cL_areUsesRight 298 = .ok (.iconst 0, 1) := by decide +kernel
theorem dL_areUsesRight_299 : decode cL_areUsesRight 299 = .ok (.invokevirtual 30, 3) := by decide +kernel
theorem dL_areUsesRight_302 : decode cL_areUsesRight 302 = .ok (.if_icmp .ge 19, 3) := by decide +kernel
theorem dL_areUsesRight_305 : decode cL_areUsesRight 305 = .ok (.iload_n 3, 1) := by decide +kernel
theorem dL_areUsesRight_306 : decode cL_areUsesRight 306 = .ok (.aload_n 0, 1) := by decide +kernel
theorem dL_areUsesRight_307 : decode cL_areUsesRight 307 = .ok (.iload 4, 2) := by decide +kernel
theorem dL_areUsesRight_309 : decode cL_areUsesRight 309 = .ok (.iconst 5, 1) := by decide +kernel
theorem dL_areUsesRight_310 : decode cL_areUsesRight 310 = .ok (.invokevirtual 70, 3) := by decide +kernel
theorem dL_areUsesRight_313 : decode cL_areUsesRight 313 = .ok (.iadd, 1) := by decide +kernel
theorem dL_areUsesRight_314 : decode cL_areUsesRight 314 = .ok (.istore_n 3, 1) := by decide +kernel
theorem dL_areUsesRight_315 : decode cL_areUsesRight 315 = .ok (.iinc 4 1, 3) := by decide +kernel
theorem dL_areUsesRight_318 : decode cL_areUsesRight 318 = .ok (.goto (-23), 3) := by decide +kernel
theorem dL_areUsesRight_321 : decode cL_areUsesRight 321 = .ok (.aload_n 0, 1) := by decide +kernel
theorem dL_areUsesRight_322 : decode cL_areUsesRight 322 = .ok (.bipush 11, 2) := by decide +kernel
theorem dL_areUsesRight_324 : decode cL_areUsesRight 324 = .ok (.invokevirtual 30, 3) := by decide +kernel
theorem dL_areUsesRight_327 : decode cL_areUsesRight 327 = .ok (.iload_n 2, 1) := by decide +kernel
theorem dL_areUsesRight_328 : decode cL_areUsesRight 328 = .ok (.if_icmp .ne 12, 3) := by decide +kernel
theorem dL_areUsesRight_331 : decode cL_areUsesRight 331 = .ok (.iload_n 3, 1) := by decide +kernel
theorem dL_areUsesRight_332 : decode cL_areUsesRight 332 = .ok (.iload_n 2, 1) := by decide +kernel
theorem dL_areUsesRight_333 : decode cL_areUsesRight 333 = .ok (.if_icmp .ne 7, 3) := by decide +kernel
theorem dL_areUsesRight_336 : decode cL_areUsesRight 336 = .ok (.iconst 1, 1) := by decide +kernel
theorem dL_areUsesRight_337 : decode cL_areUsesRight 337 = .ok (.goto 4, 3) := by decide +kernel
theorem dL_areUsesRight_340 : decode cL_areUsesRight 340 = .ok (.iconst 0, 1) := by decide +kernel
theorem dL_areUsesRight_341 : decode cL_areUsesRight 341 = .ok (.ireturn, 1) := by decide +kernel
theorem dL_areTermsRight_0 : decode cL_areTermsRight 0 = .ok (.iconst 4, 1) := by decide +kernel
theorem dL_areTermsRight_1 : decode cL_areTermsRight 1 = .ok (.newarray .int, 2) := by decide +kernel
theorem dL_areTermsRight_3 : decode cL_areTermsRight 3 = .ok (.astore_n 1, 1) := by decide +kernel
theorem dL_areTermsRight_4 : decode cL_areTermsRight 4 = .ok (.bipush 36, 2) := by decide +kernel
theorem dL_areTermsRight_6 : decode cL_areTermsRight 6 = .ok (.newarray .int, 2) := by decide +kernel
theorem dL_areTermsRight_8 : decode cL_areTermsRight 8 = .ok (.astore_n 2, 1) := by decide +kernel
theorem dL_areTermsRight_9 : decode cL_areTermsRight 9 = .ok (.bipush 36, 2) := by decide +kernel
theorem dL_areTermsRight_11 : decode cL_areTermsRight 11 = .ok (.newarray .int, 2) := by decide +kernel
theorem dL_areTermsRight_13 : decode cL_areTermsRight 13 = .ok (.astore_n 3, 1) := by decide +kernel
theorem dL_areTermsRight_14 : decode cL_areTermsRight 14 = .ok (.bipush 12, 2) := by decide +kernel
theorem dL_areTermsRight_16 : decode cL_areTermsRight 16 = .ok (.newarray .int, 2) := by decide +kernel
theorem dL_areTermsRight_18 : decode cL_areTermsRight 18 = .ok (.astore 4, 2) := by decide +kernel
theorem dL_areTermsRight_20 : decode cL_areTermsRight 20 = .ok (.iconst 0, 1) := by decide +kernel
theorem dL_areTermsRight_21 : decode cL_areTermsRight 21 = .ok (.istore 5, 2) := by decide +kernel
theorem dL_areTermsRight_23 : decode cL_areTermsRight 23 = .ok (.iload 5, 2) := by decide +kernel
theorem dL_areTermsRight_25 : decode cL_areTermsRight 25 = .ok (.aload_n 0, 1) := by decide +kernel
theorem dL_areTermsRight_26 : decode cL_areTermsRight 26 = .ok (.iconst 2, 1) := by decide +kernel
theorem dL_areTermsRight_27 : decode cL_areTermsRight 27 = .ok (.invokevirtual 30, 3) := by decide +kernel
theorem dL_areTermsRight_30 : decode cL_areTermsRight 30 = .ok (.if_icmp .ge 206, 3) := by decide +kernel
theorem dL_areTermsRight_33 : decode cL_areTermsRight 33 = .ok (.aload_n 0, 1) := by decide +kernel
theorem dL_areTermsRight_34 : decode cL_areTermsRight 34 = .ok (.iload 5, 2) := by decide +kernel
theorem dL_areTermsRight_36 : decode cL_areTermsRight 36 = .ok (.iconst 3, 1) := by decide +kernel
theorem dL_areTermsRight_37 : decode cL_areTermsRight 37 = .ok (.invokevirtual 60, 3) := by decide +kernel
theorem dL_areTermsRight_40 : decode cL_areTermsRight 40 = .ok (.istore 6, 2) := by decide +kernel
theorem dL_areTermsRight_42 : decode cL_areTermsRight 42 = .ok (.aload_n 0, 1) := by decide +kernel
theorem dL_areTermsRight_43 : decode cL_areTermsRight 43 = .ok (.iload 5, 2) := by decide +kernel
theorem dL_areTermsRight_45 : decode cL_areTermsRight 45 = .ok (.iconst 0, 1) := by decide +kernel
theorem dL_areTermsRight_46 : decode cL_areTermsRight 46 = .ok (.invokevirtual 60, 3) := by decide +kernel
theorem dL_areTermsRight_49 : decode cL_areTermsRight 49 = .ok (.iconst 3, 1) := by decide +kernel
theorem dL_areTermsRight_50 : decode cL_areTermsRight 50 = .ok (.imul, 1) := by decide +kernel
theorem dL_areTermsRight_51 : decode cL_areTermsRight 51 = .ok (.aload_n 0, 1) := by decide +kernel
theorem dL_areTermsRight_52 : decode cL_areTermsRight 52 = .ok (.iload 5, 2) := by decide +kernel
theorem dL_areTermsRight_54 : decode cL_areTermsRight 54 = .ok (.iconst 1, 1) := by decide +kernel
theorem dL_areTermsRight_55 : decode cL_areTermsRight 55 = .ok (.invokevirtual 60, 3) := by decide +kernel
theorem dL_areTermsRight_58 : decode cL_areTermsRight 58 = .ok (.iadd, 1) := by decide +kernel
theorem dL_areTermsRight_59 : decode cL_areTermsRight 59 = .ok (.istore 7, 2) := by decide +kernel
theorem dL_areTermsRight_61 : decode cL_areTermsRight 61 = .ok (.aload_n 1, 1) := by decide +kernel
theorem dL_areTermsRight_62 : decode cL_areTermsRight 62 = .ok (.iload 6, 2) := by decide +kernel
theorem dL_areTermsRight_64 : decode cL_areTermsRight 64 = .ok (.dup2, 1) := by decide +kernel
theorem dL_areTermsRight_65 : decode cL_areTermsRight 65 = .ok (.iaload, 1) := by decide +kernel
theorem dL_areTermsRight_66 : decode cL_areTermsRight 66 = .ok (.iconst 1, 1) := by decide +kernel
theorem dL_areTermsRight_67 : decode cL_areTermsRight 67 = .ok (.iadd, 1) := by decide +kernel
theorem dL_areTermsRight_68 : decode cL_areTermsRight 68 = .ok (.iastore, 1) := by decide +kernel
theorem dL_areTermsRight_69 : decode cL_areTermsRight 69 = .ok (.aload 4, 2) := by decide +kernel
theorem dL_areTermsRight_71 : decode cL_areTermsRight 71 = .ok (.aload_n 0, 1) := by decide +kernel
theorem dL_areTermsRight_72 : decode cL_areTermsRight 72 = .ok (.iload 5, 2) := by decide +kernel
theorem dL_areTermsRight_74 : decode cL_areTermsRight 74 = .ok (.iconst 0, 1) := by decide +kernel
theorem dL_areTermsRight_75 : decode cL_areTermsRight 75 = .ok (.invokevirtual 60, 3) := by decide +kernel
theorem dL_areTermsRight_78 : decode cL_areTermsRight 78 = .ok (.dup2, 1) := by decide +kernel
theorem dL_areTermsRight_79 : decode cL_areTermsRight 79 = .ok (.iaload, 1) := by decide +kernel
theorem dL_areTermsRight_80 : decode cL_areTermsRight 80 = .ok (.iconst 1, 1) := by decide +kernel
theorem dL_areTermsRight_81 : decode cL_areTermsRight 81 = .ok (.iadd, 1) := by decide +kernel
theorem dL_areTermsRight_82 : decode cL_areTermsRight 82 = .ok (.iastore, 1) := by decide +kernel
theorem dL_areTermsRight_83 : decode cL_areTermsRight 83 = .ok (.iload 6, 2) := by decide +kernel
theorem dL_areTermsRight_85 : decode cL_areTermsRight 85 = .ok (.iconst 2, 1) := by decide +kernel
theorem dL_areTermsRight_86 : decode cL_areTermsRight 86 = .ok (.if_icmp .ne 11, 3) := by decide +kernel
theorem dL_areTermsRight_89 : decode cL_areTermsRight 89 = .ok (.aload_n 2, 1) := by decide +kernel
theorem dL_areTermsRight_90 : decode cL_areTermsRight 90 = .ok (.iload 7, 2) := by decide +kernel
theorem dL_areTermsRight_92 : decode cL_areTermsRight 92 = .ok (.dup2, 1) := by decide +kernel
theorem dL_areTermsRight_93 : decode cL_areTermsRight 93 = .ok (.iaload, 1) := by decide +kernel
theorem dL_areTermsRight_94 : decode cL_areTermsRight 94 = .ok (.iconst 1, 1) := by decide +kernel
theorem dL_areTermsRight_95 : decode cL_areTermsRight 95 = .ok (.iadd, 1) := by decide +kernel
theorem dL_areTermsRight_96 : decode cL_areTermsRight 96 = .ok (.iastore, 1) := by decide +kernel
theorem dL_areTermsRight_97 : decode cL_areTermsRight 97 = .ok (.aload_n 3, 1) := by decide +kernel
theorem dL_areTermsRight_98 : decode cL_areTermsRight 98 = .ok (.iload 7, 2) := by decide +kernel
theorem dL_areTermsRight_100 : decode cL_areTermsRight 100 = .ok (.iaload, 1) := by decide +kernel
theorem dL_areTermsRight_101 : decode cL_areTermsRight 101 = .ok (.aload_n 0, 1) := by decide +kernel
theorem dL_areTermsRight_102 : decode cL_areTermsRight 102 = .ok (.iload 5, 2) := by decide +kernel
theorem dL_areTermsRight_104 : decode cL_areTermsRight 104 = .ok (.iconst 2, 1) := by decide +kernel
theorem dL_areTermsRight_105 : decode cL_areTermsRight 105 = .ok (.invokevirtual 60, 3) := by decide +kernel
theorem dL_areTermsRight_108 : decode cL_areTermsRight 108 = .ok (.ishr, 1) := by decide +kernel
theorem dL_areTermsRight_109 : decode cL_areTermsRight 109 = .ok (.iconst 1, 1) := by decide +kernel
theorem dL_areTermsRight_110 : decode cL_areTermsRight 110 = .ok (.iand, 1) := by decide +kernel
theorem dL_areTermsRight_111 : decode cL_areTermsRight 111 = .ok (.iconst 1, 1) := by decide +kernel
theorem dL_areTermsRight_112 : decode cL_areTermsRight 112 = .ok (.if_icmp .eq 100, 3) := by decide +kernel
theorem dL_areTermsRight_115 : decode cL_areTermsRight 115 = .ok (.aload_n 2, 1) := by decide +kernel
theorem dL_areTermsRight_116 : decode cL_areTermsRight 116 = .ok (.iload 7, 2) := by decide +kernel
theorem dL_areTermsRight_118 : decode cL_areTermsRight 118 = .ok (.iaload, 1) := by decide +kernel
theorem dL_areTermsRight_119 : decode cL_areTermsRight 119 = .ok (.iconst 1, 1) := by decide +kernel
theorem dL_areTermsRight_120 : decode cL_areTermsRight 120 = .ok (.if_icmp .gt 92, 3) := by decide +kernel
theorem dL_areTermsRight_123 : decode cL_areTermsRight 123 = .ok (.aload_n 0, 1) := by decide +kernel
theorem dL_areTermsRight_124 : decode cL_areTermsRight 124 = .ok (.iload 5, 2) := by decide +kernel
theorem dL_areTermsRight_126 : decode cL_areTermsRight 126 = .ok (.bipush 6, 2) := by decide +kernel
theorem dL_areTermsRight_128 : decode cL_areTermsRight 128 = .ok (.invokevirtual 60, 3) := by decide +kernel
theorem dL_areTermsRight_131 : decode cL_areTermsRight 131 = .ok (.ifCond .lt 7, 3) := by decide +kernel
theorem dL_areTermsRight_134 : decode cL_areTermsRight 134 = .ok (.iconst 1, 1) := by decide +kernel
theorem dL_areTermsRight_135 : decode cL_areTermsRight 135 = .ok (.goto 4, 3) := by decide +kernel
theorem dL_areTermsRight_138 : decode cL_areTermsRight 138 = .ok (.iconst 0, 1) := by decide +kernel
theorem dL_areTermsRight_139 : decode cL_areTermsRight 139 = .ok (.iload 6, 2) := by decide +kernel
theorem dL_areTermsRight_141 : decode cL_areTermsRight 141 = .ok (.iconst 3, 1) := by decide +kernel
theorem dL_areTermsRight_142 : decode cL_areTermsRight 142 = .ok (.if_icmp .ne 7, 3) := by decide +kernel
theorem dL_areTermsRight_145 : decode cL_areTermsRight 145 = .ok (.iconst 1, 1) := by decide +kernel
theorem dL_areTermsRight_146 : decode cL_areTermsRight 146 = .ok (.goto 4, 3) := by decide +kernel
theorem dL_areTermsRight_149 : decode cL_areTermsRight 149 = .ok (.iconst 0, 1) := by decide +kernel
theorem dL_areTermsRight_150 : decode cL_areTermsRight 150 = .ok (.if_icmp .ne 62, 3) := by decide +kernel
theorem dL_areTermsRight_153 : decode cL_areTermsRight 153 = .ok (.aload_n 0, 1) := by decide +kernel
theorem dL_areTermsRight_154 : decode cL_areTermsRight 154 = .ok (.iload 5, 2) := by decide +kernel
theorem dL_areTermsRight_156 : decode cL_areTermsRight 156 = .ok (.bipush 6, 2) := by decide +kernel
theorem dL_areTermsRight_158 : decode cL_areTermsRight 158 = .ok (.invokevirtual 60, 3) := by decide +kernel
theorem dL_areTermsRight_161 : decode cL_areTermsRight 161 = .ok (.aload_n 0, 1) := by decide +kernel
theorem dL_areTermsRight_162 : decode cL_areTermsRight 162 = .ok (.bipush 12, 2) := by decide +kernel
theorem dL_areTermsRight_164 : decode cL_areTermsRight 164 = .ok (.invokevirtual 30, 3) := by decide +kernel
theorem dL_areTermsRight_167 : decode cL_areTermsRight 167 = .ok (.if_icmp .gt 45, 3) := by decide +kernel
theorem dL_areTermsRight_170 : decode cL_areTermsRight 170 = .ok (.iload 6, 2) := by decide +kernel
theorem dL_areTermsRight_172 : decode cL_areTermsRight 172 = .ok (.ifCond .ne 25, 3) := by decide +kernel
theorem dL_areTermsRight_175 : decode cL_areTermsRight 175 = .ok (.aload_n 0, 1) := by decide +kernel
theorem dL_areTermsRight_176 : decode cL_areTermsRight 176 = .ok (.iload 5, 2) := by decide +kernel
theorem dL_areTermsRight_178 : decode cL_areTermsRight 178 = .ok (.iconst 4, 1) := by decide +kernel
theorem dL_areTermsRight_179 : decode cL_areTermsRight 179 = .ok (.invokevirtual 60, 3) := by decide +kernel
theorem dL_areTermsRight_182 : decode cL_areTermsRight 182 = .ok (.iconst 2, 1) := by decide +kernel
theorem dL_areTermsRight_183 : decode cL_areTermsRight 183 = .ok (.if_icmp .gt 29, 3) := by decide +kernel
theorem dL_areTermsRight_186 : decode cL_areTermsRight 186 = .ok (.aload_n 0, 1) := by decide +kernel
theorem dL_areTermsRight_187 : decode cL_areTermsRight 187 = .ok (.iload 5, 2) := by decide +kernel
theorem dL_areTermsRight_189 : decode cL_areTermsRight 189 = .ok (.iconst 5, 1) := by decide +kernel
theorem dL_areTermsRight_190 : decode cL_areTermsRight 190 = .ok (.invokevirtual 60, 3) := by decide +kernel
theorem dL_areTermsRight_193 : decode cL_areTermsRight 193 = .ok (.iconst 2, 1) := by decide +kernel
theorem dL_areTermsRight_194 : decode cL_areTermsRight 194 = .ok (.if_icmp .gt 18, 3) := by decide +kernel
theorem dL_areTermsRight_197 : decode cL_areTermsRight 197 = .ok (.aload_n 0, 1) := by decide +kernel
theorem dL_areTermsRight_198 : decode cL_areTermsRight 198 = .ok (.iload 5, 2) := by decide +kernel
theorem dL_areTermsRight_200 : decode cL_areTermsRight 200 = .ok (.invokevirtual 73, 3) := by decide +kernel
theorem dL_areTermsRight_203 : decode cL_areTermsRight 203 = .ok (.aload_n 0, 1) := by decide +kernel
theorem dL_areTermsRight_204 : decode cL_areTermsRight 204 = .ok (.bipush 9, 2) := by decide +kernel
theorem dL_areTermsRight_206 : decode cL_areTermsRight 206 = .ok (.invokevirtual 30, 3) := by decide +kernel
theorem dL_areTermsRight_209 : decode cL_areTermsRight 209 = .ok (.if_icmp .le 5, 3) := by decide +kernel
theorem dL_areTermsRight_212 : decode cL_areTermsRight 212 = .ok (.iconst 0, 1) := by decide +kernel
theorem dL_areTermsRight_213 : decode cL_areTermsRight 213 = .ok (.ireturn, 1) := by decide +kernel
theorem dL_areTermsRight_214 : decode cL_areTermsRight 214 = .ok (.aload_n 3, 1) := by decide +kernel
theorem dL_areTermsRight_215 : decode cL_areTermsRight 215 = .ok (.iload 7, 2) := by decide +kernel
theorem dL_areTermsRight_217 : decode cL_areTermsRight 217 = .ok (.dup2, 1) := by decide +kernel
theorem dL_areTermsRight_218 : decode cL_areTermsRight 218 = .ok (.iaload, 1) := by decide +kernel
theorem dL_areTermsRight_219 : decode cL_areTermsRight 219 = .ok (.iconst 1, 1) := by decide +kernel
theorem dL_areTermsRight_220 : decode cL_areTermsRight 220 = .ok (.aload_n 0, 1) := by decide +kernel
theorem dL_areTermsRight_221 : decode cL_areTermsRight 221 = .ok (.iload 5, 2) := by decide +kernel
theorem dL_areTermsRight_223 : decode cL_areTermsRight 223 = .ok (.iconst 2, 1) := by decide +kernel
theorem dL_areTermsRight_224 : decode cL_areTermsRight 224 = .ok (.invokevirtual 60, 3) := by decide +kernel
theorem dL_areTermsRight_227 : decode cL_areTermsRight 227 = .ok (.ishl, 1) := by decide +kernel
theorem dL_areTermsRight_228 : decode cL_areTermsRight 228 = .ok (.ior, 1) := by decide +kernel
theorem dL_areTermsRight_229 : decode cL_areTermsRight 229 = .ok (.iastore, 1) := by decide +kernel
theorem dL_areTermsRight_230 : decode cL_areTermsRight 230 = .ok (.iinc 5 1, 3) := by decide +kernel
theorem dL_areTermsRight_233 : decode cL_areTermsRight 233 = .ok (.goto (-210), 3) := by decide +kernel
theorem dL_areTermsRight_236 : decode cL_areTermsRight 236 = .ok (.iconst 0, 1) := by decide +kernel
theorem dL_areTermsRight_237 : decode cL_areTermsRight 237 = .ok (.istore 5, 2) := by decide +kernel
theorem dL_areTermsRight_239 : decode cL_areTermsRight 239 = .ok (.iconst 0, 1) := by decide +kernel
theorem dL_areTermsRight_240 : decode cL_areTermsRight 240 = .ok (.istore 6, 2) := by decide +kernel
theorem dL_areTermsRight_242 : decode cL_areTermsRight 242 = .ok (.iload 6, 2) := by decide +kernel
theorem dL_areTermsRight_244 : decode cL_areTermsRight 244 = .ok (.aload_n 0, 1) := by decide +kernel
theorem dL_areTermsRight_245 : decode cL_areTermsRight 245 = .ok (.iconst 0, 1) := by decide +kernel
theorem dL_areTermsRight_246 : decode cL_areTermsRight 246 = .ok (.invokevirtual 30, 3) := by decide +kernel
theorem dL_areTermsRight_249 : decode cL_areTermsRight 249 = .ok (.if_icmp .ge 100, 3) := by decide +kernel
theorem dL_areTermsRight_252 : decode cL_areTermsRight 252 = .ok (.iload 5, 2) := by decide +kernel
theorem dL_areTermsRight_254 : decode cL_areTermsRight 254 = .ok (.aload 4, 2) := by decide +kernel
theorem dL_areTermsRight_256 : decode cL_areTermsRight 256 = .ok (.iload 6, 2) := by decide +kernel
theorem dL_areTermsRight_258 : decode cL_areTermsRight 258 = .ok (.iaload, 1) := by decide +kernel
theorem dL_areTermsRight_259 : decode cL_areTermsRight 259 = .ok (.ifCond .le 7, 3) := by decide +kernel
theorem dL_areTermsRight_262 : decode cL_areTermsRight 262 = .ok (.iconst 1, 1) := by decide +kernel
theorem dL_areTermsRight_263 : decode cL_areTermsRight 263 = .ok (.goto 4, 3) := by decide +kernel
theorem dL_areTermsRight_266 : decode cL_areTermsRight 266 = .ok (.iconst 0, 1) := by decide +kernel
theorem dL_areTermsRight_267 : decode cL_areTermsRight 267 = .ok (.iadd, 1) := by decide +kernel
theorem dL_areTermsRight_268 : decode cL_areTermsRight 268 = .ok (.istore 5, 2) := by decide +kernel
theorem dL_areTermsRight_270 : decode cL_areTermsRight 270 = .ok (.aload_n 0, 1) := by decide +kernel
theorem dL_areTermsRight_271 : decode cL_areTermsRight 271 = .ok (.iload 6, 2) := by decide +kernel
theorem dL_areTermsRight_273 : decode cL_areTermsRight 273 = .ok (.iconst 1, 1) := by decide +kernel
theorem dL_areTermsRight_274 : decode cL_areTermsRight 274 = .ok (.invokevirtual 70, 3) := by decide +kernel
theorem dL_areTermsRight_277 : decode cL_areTermsRight 277 = .ok (.aload 4, 2) := by decide +kernel
theorem dL_areTermsRight_279 : decode cL_areTermsRight 279 = .ok (.iload 6, 2) := by decide +kernel
theorem dL_areTermsRight_281 : decode cL_areTermsRight 281 = .ok (.iaload, 1) := by decide +kernel
theorem dL_areTermsRight_282 : decode cL_areTermsRight 282 = .ok (.if_icmp .eq 5, 3) := by decide +kernel
theorem dL_areTermsRight_285 : decode cL_areTermsRight 285 = .ok (.iconst 0, 1) := by decide +kernel
theorem dL_areTermsRight_286 : decode cL_areTermsRight 286 = .ok (.ireturn, 1) := by decide +kernel
theorem dL_areTermsRight_287 : decode cL_areTermsRight 287 = .ok (.iconst 0, 1) := by decide +kernel
theorem dL_areTermsRight_288 : decode cL_areTermsRight 288 = .ok (.istore 7, 2) := by decide +kernel
theorem dL_areTermsRight_290 : decode cL_areTermsRight 290 = .ok (.iload 7, 2) := by decide +kernel
theorem dL_areTermsRight_292 : decode cL_areTermsRight 292 = .ok (.iconst 3, 1) := by decide +kernel
theorem dL_areTermsRight_293 : decode cL_areTermsRight 293 = .ok (.if_icmp .ge 50, 3) := by decide +kernel
theorem dL_areTermsRight_296 : decode cL_areTermsRight 296 = .ok (.aload_n 0, 1) := by decide +kernel
theorem dL_areTermsRight_297 : decode cL_areTermsRight 297 = .ok (.iload 6, 2) := by decide +kernel
theorem dL_areTermsRight_299 : decode cL_areTermsRight 299 = .ok (.iconst 2, 1) := by decide +kernel
theorem dL_areTermsRight_300 : decode cL_areTermsRight 300 = .ok (.iload 7, 2) := by decide +kernel
theorem dL_areTermsRight_302 : decode cL_areTermsRight 302 = .ok (.iadd, 1) := by decide +kernel
theorem dL_areTermsRight_303 : decode cL_areTermsRight 303 = .ok (.invokevirtual 70, 3) := by decide +kernel
theorem dL_areTermsRight_306 : decode cL_areTermsRight 306 = .ok (.ifCond .lt 7, 3) := by decide +kernel
theorem dL_areTermsRight_309 : decode cL_areTermsRight 309 = .ok (.iconst 1, 1) := by decide +kernel
theorem dL_areTermsRight_310 : decode cL_areTermsRight 310 = .ok (.goto 4, 3) := by decide +kernel
theorem dL_areTermsRight_313 : decode cL_areTermsRight 313 = .ok (.iconst 0, 1) := by decide +kernel
theorem dL_areTermsRight_314 : decode cL_areTermsRight 314 = .ok (.aload_n 2, 1) := by decide +kernel
theorem dL_areTermsRight_315 : decode cL_areTermsRight 315 = .ok (.iload 6, 2) := by decide +kernel
theorem dL_areTermsRight_317 : decode cL_areTermsRight 317 = .ok (.iconst 3, 1) := by decide +kernel
theorem dL_areTermsRight_318 : decode cL_areTermsRight 318 = .ok (.imul, 1) := by decide +kernel
theorem dL_areTermsRight_319 : decode cL_areTermsRight 319 = .ok (.iload 7, 2) := by decide +kernel
theorem dL_areTermsRight_321 : decode cL_areTermsRight 321 = .ok (.iadd, 1) := by decide +kernel
theorem dL_areTermsRight_322 : decode cL_areTermsRight 322 = .ok (.iaload, 1) := by decide +kernel
theorem dL_areTermsRight_323 : decode cL_areTermsRight 323 = .ok (.iconst 1, 1) := by decide +kernel
theorem dL_areTermsRight_324 : decode cL_areTermsRight 324 = .ok (.if_icmp .ne 7, 3) := by decide +kernel
theorem dL_areTermsRight_327 : decode cL_areTermsRight 327 = .ok (.iconst 1, 1) := by decide +kernel
theorem dL_areTermsRight_328 : decode cL_areTermsRight 328 = .ok (.goto 4, 3) := by decide +kernel
theorem dL_areTermsRight_331 : decode cL_areTermsRight 331 = .ok (.iconst 0, 1) := by decide +kernel
theorem dL_areTermsRight_332 : decode cL_areTermsRight 332 = .ok (.if_icmp .eq 5, 3) := by decide +kernel
theorem dL_areTermsRight_335 : decode cL_areTermsRight 335 = .ok (.iconst 0, 1) := by decide +kernel
theorem dL_areTermsRight_336 : decode cL_areTermsRight 336 = .ok (.ireturn, 1) := by decide +kernel
theorem dL_areTermsRight_337 : decode cL_areTermsRight 337 = .ok (.iinc 7 1, 3) := by decide +kernel
theorem dL_areTermsRight_340 : decode cL_areTermsRight 340 = .ok (.goto (-50), 3) := by decide +kernel
theorem dL_areTermsRight_343 : decode cL_areTermsRight 343 = .ok (.iinc 6 1, 3) := by decide +kernel
theorem dL_areTermsRight_346 : decode cL_areTermsRight 346 = .ok (.goto (-104), 3) := by decide +kernel
theorem dL_areTermsRight_349 : decode cL_areTermsRight 349 = .ok (.iconst 0, 1) := by decide +kernel
theorem dL_areTermsRight_350 : decode cL_areTermsRight 350 = .ok (.istore 6, 2) := by decide +kernel
theorem dL_areTermsRight_352 : decode cL_areTermsRight 352 = .ok (.iload 6, 2) := by decide +kernel
theorem dL_areTermsRight_354 : decode cL_areTermsRight 354 = .ok (.iconst 4, 1) := by decide +kernel
theorem dL_areTermsRight_355 : decode cL_areTermsRight 355 = .ok (.if_icmp .ge 26, 3) := by decide +kernel
theorem dL_areTermsRight_358 : decode cL_areTermsRight 358 = .ok (.aload_n 0, 1) := by decide +kernel
theorem dL_areTermsRight_359 : decode cL_areTermsRight 359 = .ok (.iconst 3, 1) := by decide +kernel
theorem dL_areTermsRight_360 : decode cL_areTermsRight 360 = .ok (.iload 6, 2) := by decide +kernel
theorem dL_areTermsRight_362 : decode cL_areTermsRight 362 = .ok (.iadd, 1) := by decide +kernel
theorem dL_areTermsRight_363 : decode cL_areTermsRight 363 = .ok (.invokevirtual 30, 3) := by decide +kernel
theorem dL_areTermsRight_366 : decode cL_areTermsRight 366 = .ok (.aload_n 1, 1) := by decide +kernel
theorem dL_areTermsRight_367 : decode cL_areTermsRight 367 = .ok (.iload 6, 2) := by decide +kernel
theorem dL_areTermsRight_369 : decode cL_areTermsRight 369 = .ok (.iaload, 1) := by decide +kernel
theorem dL_areTermsRight_370 : decode cL_areTermsRight 370 = .ok (.if_icmp .eq 5, 3) := by decide +kernel
theorem dL_areTermsRight_373 : decode cL_areTermsRight 373 = .ok (.iconst 0, 1) := by decide +kernel
theorem dL_areTermsRight_374 : decode cL_areTermsRight 374 = .ok (.ireturn, 1) := by decide +kernel
theorem dL_areTermsRight_375 : decode cL_areTermsRight 375 = .ok (.iinc 6 1, 3) := by decide +kernel
theorem dL_areTermsRight_378 : decode cL_areTermsRight 378 = .ok (.goto (-26), 3) := by decide +kernel
theorem dL_areTermsRight_381 : decode cL_areTermsRight 381 = .ok (.aload_n 0, 1) := by decide +kernel
theorem dL_areTermsRight_382 : decode cL_areTermsRight 382 = .ok (.iconst 1, 1) := by decide +kernel
theorem dL_areTermsRight_383 : decode cL_areTermsRight 383 = .ok (.invokevirtual 30, 3) := by decide +kernel
theorem dL_areTermsRight_386 : decode cL_areTermsRight 386 = .ok (.iload 5, 2) := by decide +kernel
theorem dL_areTermsRight_388 : decode cL_areTermsRight 388 = .ok (.if_icmp .ne 7, 3) := by decide +kernel
theorem dL_areTermsRight_391 : decode cL_areTermsRight 391 = .ok (.iconst 1, 1) := by decide +kernel
theorem dL_areTermsRight_392 : decode cL_areTermsRight 392 = .ok (.goto 4, 3) := by decide +kernel
theorem dL_areTermsRight_395 : decode cL_areTermsRight 395 = .ok (.iconst 0, 1) := by decide +kernel
theorem dL_areTermsRight_396 : decode cL_areTermsRight 396 = .ok (.ireturn, 1) := by decide +kernel
theorem dL_areTextsRight_0 : decode cL_areTextsRight 0 = .ok (.iconst 3, 1) := by decide +kernel
theorem dL_areTextsRight_1 : decode cL_areTextsRight 1 = .ok (.newarray .int, 2) := by decide +kernel
theorem dL_areTextsRight_3 : decode cL_areTextsRight 3 = .ok (.astore_n 1, 1) := by decide +kernel
theorem dL_areTextsRight_4 : decode cL_areTextsRight 4 = .ok (.dconst 0, 1) := by decide +kernel
theorem dL_areTextsRight_5 : decode cL_areTextsRight 5 = .ok (.dstore_n 2, 1) := by decide +kernel
theorem dL_areTextsRight_6 : decode cL_areTextsRight 6 = .ok (.iconst 0, 1) := by decide +kernel
theorem dL_areTextsRight_7 : decode cL_areTextsRight 7 = .ok (.istore 4, 2) := by decide +kernel
theorem dL_areTextsRight_9 : decode cL_areTextsRight 9 = .ok (.iconst 0, 1) := by decide +kernel
theorem dL_areTextsRight_10 : decode cL_areTextsRight 10 = .ok (.istore 5, 2) := by decide +kernel
theorem dL_areTextsRight_12 : decode cL_areTextsRight 12 = .ok (.iload 5, 2) := by decide +kernel
theorem dL_areTextsRight_14 : decode cL_areTextsRight 14 = .ok (.iconst 2, 1) := by decide +kernel
theorem dL_areTextsRight_15 : decode cL_areTextsRight 15 = .ok (.if_icmp .ge 166, 3) := by decide +kernel
theorem dL_areTextsRight_18 : decode cL_areTextsRight 18 = .ok (.iconst 0, 1) := by decide +kernel
theorem dL_areTextsRight_19 : decode cL_areTextsRight 19 = .ok (.istore 6, 2) := by decide +kernel
theorem dL_areTextsRight_21 : decode cL_areTextsRight 21 = .ok (.iload 6, 2) := by decide +kernel
theorem dL_areTextsRight_23 : decode cL_areTextsRight 23 = .ok (.iconst 3, 1) := by decide +kernel
theorem dL_areTextsRight_24 : decode cL_areTextsRight 24 = .ok (.if_icmp .ge 151, 3) := by decide +kernel
theorem dL_areTextsRight_27 : decode cL_areTextsRight 27 = .ok (.aload_n 0, 1) := by decide +kernel
theorem dL_areTextsRight_28 : decode cL_areTextsRight 28 = .ok (.iload 5, 2) := by decide +kernel
theorem dL_areTextsRight_30 : decode cL_areTextsRight 30 = .ok (.iload 6, 2) := by decide +kernel
theorem dL_areTextsRight_32 : decode cL_areTextsRight 32 = .ok (.iconst 0, 1) := by decide +kernel
theorem dL_areTextsRight_33 : decode cL_areTextsRight 33 = .ok (.invokevirtual 100, 3) := by decide +kernel
theorem dL_areTextsRight_36 : decode cL_areTextsRight 36 = .ok (.ifCond .ne 17, 3) := by decide +kernel
theorem dL_areTextsRight_39 : decode cL_areTextsRight 39 = .ok (.aload_n 0, 1) := by decide +kernel
theorem dL_areTextsRight_40 : decode cL_areTextsRight 40 = .ok (.iload 5, 2) := by decide +kernel
theorem dL_areTextsRight_42 : decode cL_areTextsRight 42 = .ok (.iload 6, 2) := by decide +kernel
theorem dL_areTextsRight_44 : decode cL_areTextsRight 44 = .ok (.iconst 1, 1) := by decide +kernel
theorem dL_areTextsRight_45 : decode cL_areTextsRight 45 = .ok (.invokevirtual 100, 3) := by decide +kernel
theorem dL_areTextsRight_48 : decode cL_areTextsRight 48 = .ok (.ifCond .eq 121, 3) := by decide +kernel
theorem dL_areTextsRight_51 : decode cL_areTextsRight 51 = .ok (.iconst 0, 1) := by decide +kernel
theorem dL_areTextsRight_52 : decode cL_areTextsRight 52 = .ok (.ireturn, 1) := by decide +kernel
theorem dL_areTextsRight_53 : decode cL_areTextsRight 53 = .ok (.aload_n 1, 1) := by decide +kernel
theorem dL_areTextsRight_54 : decode cL_areTextsRight 54 = .ok (.aload_n 0, 1) := by decide +kernel
theorem dL_areTextsRight_55 : decode cL_areTextsRight 55 = .ok (.iload 5, 2) := by decide +kernel
theorem dL_areTextsRight_57 : decode cL_areTextsRight 57 = .ok (.iload 6, 2) := by decide +kernel
theorem dL_areTextsRight_59 : decode cL_areTextsRight 59 = .ok (.iconst 1, 1) := by decide +kernel
theorem dL_areTextsRight_60 : decode cL_areTextsRight 60 = .ok (.invokevirtual 100, 3) := by decide +kernel
theorem dL_areTextsRight_63 : decode cL_areTextsRight 63 = .ok (.dup2, 1) := by decide +kernel
theorem dL_areTextsRight_64 : decode cL_areTextsRight 64 = .ok (.iaload, 1) := by decide +kernel
theorem dL_areTextsRight_65 : decode cL_areTextsRight 65 = .ok (.iconst 1, 1) := by decide +kernel
theorem dL_areTextsRight_66 : decode cL_areTextsRight 66 = .ok (.iadd, 1) := by decide +kernel
theorem dL_areTextsRight_67 : decode cL_areTextsRight 67 = .ok (.iastore, 1) := by decide +kernel
theorem dL_areTextsRight_68 : decode cL_areTextsRight 68 = .ok (.dload_n 2, 1) := by decide +kernel
theorem dL_areTextsRight_69 : decode cL_areTextsRight 69 = .ok (.aload_n 0, 1) := by decide +kernel
theorem dL_areTextsRight_70 : decode cL_areTextsRight 70 = .ok (.iload 5, 2) := by decide +kernel
theorem dL_areTextsRight_72 : decode cL_areTextsRight 72 = .ok (.iload 6, 2) := by decide +kernel
theorem dL_areTextsRight_74 : decode cL_areTextsRight 74 = .ok (.iconst 5, 1) := by decide +kernel
theorem dL_areTextsRight_75 : decode cL_areTextsRight 75 = .ok (.invokevirtual 100, 3) := by decide +kernel
theorem dL_areTextsRight_78 : decode cL_areTextsRight 78 = .ok (.i2d, 1) := by decide +kernel
theorem dL_areTextsRight_79 : decode cL_areTextsRight 79 = .ok (.dadd, 1) := by decide +kernel
theorem dL_areTextsRight_80 : decode cL_areTextsRight 80 = .ok (.dstore_n 2, 1) := by decide +kernel
theorem dL_areTextsRight_81 : decode cL_areTextsRight 81 = .ok (.iinc 4 1, 3) := by decide +kernel
theorem dL_areTextsRight_84 : decode cL_areTextsRight 84 = .ok (.iconst 0, 1) := by decide +kernel
theorem dL_areTextsRight_85 : decode cL_areTextsRight 85 = .ok (.istore 7, 2) := by decide +kernel
theorem dL_areTextsRight_87 : decode cL_areTextsRight 87 = .ok (.iload 7, 2) := by decide +kernel
theorem dL_areTextsRight_89 : decode cL_areTextsRight 89 = .ok (.aload_n 0, 1) := by decide +kernel
theorem dL_areTextsRight_90 : decode cL_areTextsRight 90 = .ok (.iload 5, 2) := by decide +kernel
theorem dL_areTextsRight_92 : decode cL_areTextsRight 92 = .ok (.iload 6, 2) := by decide +kernel
theorem dL_areTextsRight_94 : decode cL_areTextsRight 94 = .ok (.iconst 0, 1) := by decide +kernel
theorem dL_areTextsRight_95 : decode cL_areTextsRight 95 = .ok (.invokevirtual 100, 3) := by decide +kernel
theorem dL_areTextsRight_98 : decode cL_areTextsRight 98 = .ok (.if_icmp .ge 71, 3) := by decide +kernel
theorem dL_areTextsRight_101 : decode cL_areTextsRight 101 = .ok (.aload_n 0, 1) := by decide +kernel
theorem dL_areTextsRight_102 : decode cL_areTextsRight 102 = .ok (.iload 5, 2) := by decide +kernel
theorem dL_areTextsRight_104 : decode cL_areTextsRight 104 = .ok (.iload 6, 2) := by decide +kernel
theorem dL_areTextsRight_106 : decode cL_areTextsRight 106 = .ok (.iconst 1, 1) := by decide +kernel
theorem dL_areTextsRight_107 : decode cL_areTextsRight 107 = .ok (.invokevirtual 100, 3) := by decide +kernel
theorem dL_areTextsRight_110 : decode cL_areTextsRight 110 = .ok (.iconst 1, 1) := by decide +kernel
theorem dL_areTextsRight_111 : decode cL_areTextsRight 111 = .ok (.if_icmp .ne 58, 3) := by decide +kernel
theorem dL_areTextsRight_114 : decode cL_areTextsRight 114 = .ok (.aload_n 0, 1) := by decide +kernel
theorem dL_areTextsRight_115 : decode cL_areTextsRight 115 = .ok (.iload 5, 2) := by decide +kernel
theorem dL_areTextsRight_117 : decode cL_areTextsRight 117 = .ok (.iload 6, 2) := by decide +kernel
theorem dL_areTextsRight_119 : decode cL_areTextsRight 119 = .ok (.iload 7, 2) := by decide +kernel
theorem dL_areTextsRight_121 : decode cL_areTextsRight 121 = .ok (.invokevirtual 123, 3) := by decide +kernel
theorem dL_areTextsRight_124 : decode cL_areTextsRight 124 = .ok (.istore 8, 2) := by decide +kernel
theorem dL_areTextsRight_126 : decode cL_areTextsRight 126 = .ok (.iload 8, 2) := by decide +kernel
theorem dL_areTextsRight_128 : decode cL_areTextsRight 128 = .ok (.ifCond .lt 35, 3) := by decide +kernel
theorem dL_areTextsRight_131 : decode cL_areTextsRight 131 = .ok (.aload_n 0, 1) := by decide +kernel
theorem dL_areTextsRight_132 : decode cL_areTextsRight 132 = .ok (.iload 8, 2) := by decide +kernel
theorem dL_areTextsRight_134 : decode cL_areTextsRight 134 = .ok (.iconst 3, 1) := by decide +kernel
theorem dL_areTextsRight_135 : decode cL_areTextsRight 135 = .ok (.invokevirtual 60, 3) := by decide +kernel
theorem dL_areTextsRight_138 : decode cL_areTextsRight 138 = .ok (.iconst 3, 1) := by decide +kernel
theorem dL_areTextsRight_139 : decode cL_areTextsRight 139 = .ok (.if_icmp .ne 24, 3) := by decide +kernel
theorem dL_areTextsRight_142 : decode cL_areTextsRight 142 = .ok (.aload_n 0, 1) := by decide +kernel
theorem dL_areTextsRight_143 : decode cL_areTextsRight 143 = .ok (.bipush 12, 2) := by decide +kernel
theorem dL_areTextsRight_145 : decode cL_areTextsRight 145 = .ok (.invokevirtual 30, 3) := by decide +kernel
theorem dL_areTextsRight_148 : decode cL_areTextsRight 148 = .ok (.aload_n 0, 1) := by decide +kernel
theorem dL_areTextsRight_149 : decode cL_areTextsRight 149 = .ok (.iload 8, 2) := by decide +kernel
theorem dL_areTextsRight_151 : decode cL_areTextsRight 151 = .ok (.bipush 6, 2) := by decide +kernel
theorem dL_areTextsRight_153 : decode cL_areTextsRight 153 = .ok (.invokevirtual 60, 3) := by decide +kernel
theorem dL_areTextsRight_156 : decode cL_areTextsRight 156 = .ok (.isub, 1) := by decide +kernel
theorem dL_areTextsRight_157 : decode cL_areTextsRight 157 = .ok (.iconst 3, 1) := by decide +kernel
theorem dL_areTextsRight_158 : decode cL_areTextsRight 158 = .ok (.if_icmp .le 5, 3) := by decide +kernel
theorem dL_areTextsRight_161 : decode cL_areTextsRight 161 = .ok (.iconst 0, 1) := by decide +kernel
theorem dL_areTextsRight_162 : decode cL_areTextsRight 162 = .ok (.ireturn, 1) := by decide +kernel
theorem dL_areTextsRight_163 : decode cL_areTextsRight 163 = .ok (.iinc 7 1, 3) := by decide +kernel
theorem dL_areTextsRight_166 : decode cL_areTextsRight 166 = .ok (.goto (-79), 3) := by decide +kernel
theorem dL_areTextsRight_169 : decode cL_areTextsRight 169 = .ok (.iinc 6 1, 3) := by decide +kernel
theorem dL_areTextsRight_172 : decode cL_areTextsRight 172 = .ok (.goto (-151), 3) := by decide +kernel
theorem dL_areTextsRight_175 : decode cL_areTextsRight 175 = .ok (.iinc 5 1, 3) := by decide +kernel
theorem dL_areTextsRight_178 : decode cL_areTextsRight 178 = .ok (.goto (-166), 3) := by decide +kernel
theorem dL_areTextsRight_181 : decode cL_areTextsRight 181 = .ok (.iconst 0, 1) := by decide +kernel
theorem dL_areTextsRight_182 : decode cL_areTextsRight 182 = .ok (.istore 5, 2) := by decide +kernel
theorem dL_areTextsRight_184 : decode cL_areTextsRight 184 = .ok (.iload 5, 2) := by decide +kernel
theorem dL_areTextsRight_186 : decode cL_areTextsRight 186 = .ok (.iconst 3, 1) := by decide +kernel
theorem dL_areTextsRight_187 : decode cL_areTextsRight 187 = .ok (.if_icmp .ge 27, 3) := by decide +kernel
theorem dL_areTextsRight_190 : decode cL_areTextsRight 190 = .ok (.aload_n 0, 1) := by decide +kernel
theorem dL_areTextsRight_191 : decode cL_areTextsRight 191 = .ok (.bipush 8, 2) := by decide +kernel
theorem dL_areTextsRight_193 : decode cL_areTextsRight 193 = .ok (.iload 5, 2) := by decide +kernel
theorem dL_areTextsRight_195 : decode cL_areTextsRight 195 = .ok (.iadd, 1) := by decide +kernel
theorem dL_areTextsRight_196 : decode cL_areTextsRight 196 = .ok (.invokevirtual 30, 3) := by decide +kernel
theorem dL_areTextsRight_199 : decode cL_areTextsRight 199 = .ok (.aload_n 1, 1) := by decide +kernel
theorem dL_areTextsRight_200 : decode cL_areTextsRight 200 = .ok (.iload 5, 2) := by decide +kernel
theorem dL_areTextsRight_202 : decode cL_areTextsRight 202 = .ok (.iaload, 1) := by decide +kernel
theorem dL_areTextsRight_203 : decode cL_areTextsRight 203 = .ok (.if_icmp .eq 5, 3) := by decide +kernel
theorem dL_areTextsRight_206 : decode cL_areTextsRight 206 = .ok (.iconst 0, 1) := by decide +kernel
theorem dL_areTextsRight_207 : decode cL_areTextsRight 207 = .ok (.ireturn, 1) := by decide +kernel
theorem dL_areTextsRight_208 : decode cL_areTextsRight 208 = .ok (.iinc 5 1, 3) := by decide +kernel
theorem dL_areTextsRight_211 : decode cL_areTextsRight 211 = .ok (.goto (-27), 3) := by decide +kernel
theorem dL_areTextsRight_214 : decode cL_areTextsRight 214 = .ok (.aload_n 0, 1) := by decide +kernel
theorem dL_areTextsRight_215 : decode cL_areTextsRight 215 = .ok (.invokevirtual 129, 3) := by decide +kernel
theorem dL_areTextsRight_218 : decode cL_areTextsRight 218 = .ok (.iload 4, 2) := by decide +kernel
theorem dL_areTextsRight_220 : decode cL_areTextsRight 220 = .ok (.ifCond .ne 7, 3) := by decide +kernel
theorem dL_areTextsRight_223 : decode cL_areTextsRight 223 = .ok (.dconst 0, 1) := by decide +kernel
theorem dL_areTextsRight_224 : decode cL_areTextsRight 224 = .ok (.goto 8, 3) := by decide +kernel
theorem dL_areTextsRight_227 : decode cL_areTextsRight 227 = .ok (.dload_n 2, 1) := by decide +kernel
theorem dL_areTextsRight_228 : decode cL_areTextsRight 228 = .ok (.iload 4, 2) := by decide +kernel
theorem dL_areTextsRight_230 : decode cL_areTextsRight 230 = .ok (.i2d, 1) := by decide +kernel
theorem dL_areTextsRight_231 : decode cL_areTextsRight 231 = .ok (.ddiv, 1) := by decide +kernel
theorem dL_areTextsRight_232 : decode cL_areTextsRight 232 = .ok (.dsub, 1) := by decide +kernel
theorem dL_areTextsRight_233 : decode cL_areTextsRight 233 = .ok (.invokestatic 133, 3) := by decide +kernel
theorem dL_areTextsRight_236 : decode cL_areTextsRight 236 = .ok (.ldc2_w 137, 3) := by decide +kernel
theorem dL_areTextsRight_239 : decode cL_areTextsRight 239 = .ok (.dcmp .g, 1) := by decide +kernel
theorem dL_areTextsRight_240 : decode cL_areTextsRight 240 = .ok (.ifCond .ge 7, 3) := by decide +kernel
theorem dL_areTextsRight_243 : decode cL_areTextsRight 243 = .ok (.iconst 1, 1) := by decide +kernel
theorem dL_areTextsRight_244 : decode cL_areTextsRight 244 = .ok (.goto 4, 3) := by decide +kernel
theorem dL_areTextsRight_247 : decode cL_areTextsRight 247 = .ok (.iconst 0, 1) := by decide +kernel
theorem dL_areTextsRight_248 : decode cL_areTextsRight 248 = .ok (.ireturn, 1) := by decide +kernel
