theorem dL_cell_0 : decode cL_cell 0 = .ok (.iload_n 1, 1) := by decide +kernel
theorem dL_cell_1 : decode cL_cell 1 = .ok (.aload_n 0, 1) := by decide +kernel
theorem dL_cell_2 : decode cL_cell 2 = .ok (.arraylength, 1) := by decide +kernel
theorem dL_cell_3 : decode cL_cell 3 = .ok (.if_icmp .ge 9, 3) := by decide +kernel
theorem dL_cell_6 : decode cL_cell 6 = .ok (.aload_n 0, 1) := by decide +kernel
theorem dL_cell_7 : decode cL_cell 7 = .ok (.iload_n 1, 1) := by decide +kernel
theorem dL_cell_8 : decode cL_cell 8 = .ok (.iaload, 1) := by decide +kernel
theorem dL_cell_9 : decode cL_cell 9 = .ok (.goto 12, 3) := by decide +kernel
theorem dL_cell_12 : decode cL_cell 12 = .ok (.ldc 7, 2) := by decide +kernel
theorem dL_cell_14 : decode cL_cell 14 = .ok (.iload_n 1, 1) := by decide +kernel
theorem dL_cell_15 : decode cL_cell 15 = .ok (.iconst 1, 1) := by decide +kernel
theorem dL_cell_16 : decode cL_cell 16 = .ok (.iadd, 1) := by decide +kernel
theorem dL_cell_17 : decode cL_cell 17 = .ok (.imul, 1) := by decide +kernel
theorem dL_cell_18 : decode cL_cell 18 = .ok (.ldc 8, 2) := by decide +kernel
theorem dL_cell_20 : decode cL_cell 20 = .ok (.iadd, 1) := by decide +kernel
theorem dL_cell_21 : decode cL_cell 21 = .ok (.ireturn, 1) := by decide +kernel
theorem dL_low_0 : decode cL_low 0 = .ok (.iload_n 0, 1) := by decide +kernel
theorem dL_low_1 : decode cL_low 1 = .ok (.ldc 9, 2) := by decide +kernel
theorem dL_low_3 : decode cL_low 3 = .ok (.iand, 1) := by decide +kernel
theorem dL_low_4 : decode cL_low 4 = .ok (.iload_n 1, 1) := by decide +kernel
theorem dL_low_5 : decode cL_low 5 = .ok (.irem, 1) := by decide +kernel
theorem dL_low_6 : decode cL_low 6 = .ok (.ireturn, 1) := by decide +kernel
theorem dL_shut_0 : decode cL_shut 0 = .ok (.iconst 2, 1) := by decide +kernel
theorem dL_shut_1 : decode cL_shut 1 = .ok (.iconst 5, 1) := by decide +kernel
theorem dL_shut_2 : decode cL_shut 2 = .ok (.iload_n 0, 1) := by decide +kernel
theorem dL_shut_3 : decode cL_shut 3 = .ok (.imul, 1) := by decide +kernel
theorem dL_shut_4 : decode cL_shut 4 = .ok (.iload_n 1, 1) := by decide +kernel
theorem dL_shut_5 : decode cL_shut 5 = .ok (.iadd, 1) := by decide +kernel
theorem dL_shut_6 : decode cL_shut 6 = .ok (.imul, 1) := by decide +kernel
theorem dL_shut_7 : decode cL_shut 7 = .ok (.istore 4, 2) := by decide +kernel
theorem dL_shut_9 : decode cL_shut 9 = .ok (.aload_n 2, 1) := by decide +kernel
theorem dL_shut_10 : decode cL_shut 10 = .ok (.iload 4, 2) := by decide +kernel
theorem dL_shut_12 : decode cL_shut 12 = .ok (.iaload, 1) := by decide +kernel
theorem dL_shut_13 : decode cL_shut 13 = .ok (.ifCond .lt 27, 3) := by decide +kernel
theorem dL_shut_16 : decode cL_shut 16 = .ok (.aload_n 3, 1) := by decide +kernel
theorem dL_shut_17 : decode cL_shut 17 = .ok (.iconst 5, 1) := by decide +kernel
theorem dL_shut_18 : decode cL_shut 18 = .ok (.iload_n 0, 1) := by decide +kernel
theorem dL_shut_19 : decode cL_shut 19 = .ok (.imul, 1) := by decide +kernel
theorem dL_shut_20 : decode cL_shut 20 = .ok (.iload_n 1, 1) := by decide +kernel
theorem dL_shut_21 : decode cL_shut 21 = .ok (.iadd, 1) := by decide +kernel
theorem dL_shut_22 : decode cL_shut 22 = .ok (.laload, 1) := by decide +kernel
theorem dL_shut_23 : decode cL_shut 23 = .ok (.aload_n 2, 1) := by decide +kernel
theorem dL_shut_24 : decode cL_shut 24 = .ok (.iload 4, 2) := by decide +kernel
theorem dL_shut_26 : decode cL_shut 26 = .ok (.iaload, 1) := by decide +kernel
theorem dL_shut_27 : decode cL_shut 27 = .ok (.i2l, 1) := by decide +kernel
theorem dL_shut_28 : decode cL_shut 28 = .ok (.ladd, 1) := by decide +kernel
theorem dL_shut_29 : decode cL_shut 29 = .ok (.aload_n 2, 1) := by decide +kernel
theorem dL_shut_30 : decode cL_shut 30 = .ok (.iload 4, 2) := by decide +kernel
theorem dL_shut_32 : decode cL_shut 32 = .ok (.iconst 1, 1) := by decide +kernel
theorem dL_shut_33 : decode cL_shut 33 = .ok (.iadd, 1) := by decide +kernel
theorem dL_shut_34 : decode cL_shut 34 = .ok (.iaload, 1) := by decide +kernel
theorem dL_shut_35 : decode cL_shut 35 = .ok (.i2l, 1) := by decide +kernel
theorem dL_shut_36 : decode cL_shut 36 = .ok (.lcmp, 1) := by decide +kernel
theorem dL_shut_37 : decode cL_shut 37 = .ok (.ifCond .le 7, 3) := by decide +kernel
theorem dL_shut_40 : decode cL_shut 40 = .ok (.iconst 1, 1) := by decide +kernel
theorem dL_shut_41 : decode cL_shut 41 = .ok (.goto 4, 3) := by decide +kernel
theorem dL_shut_44 : decode cL_shut 44 = .ok (.iconst 0, 1) := by decide +kernel
theorem dL_shut_45 : decode cL_shut 45 = .ok (.ireturn, 1) := by decide +kernel
theorem dL_best_0 : decode cL_best 0 = .ok (.iconst 0, 1) := by decide +kernel
theorem dL_best_1 : decode cL_best 1 = .ok (.istore 4, 2) := by decide +kernel
theorem dL_best_3 : decode cL_best 3 = .ok (.ldc 10, 2) := by decide +kernel
theorem dL_best_5 : decode cL_best 5 = .ok (.istore 5, 2) := by decide +kernel
theorem dL_best_7 : decode cL_best 7 = .ok (.iload_n 0, 1) := by decide +kernel
theorem dL_best_8 : decode cL_best 8 = .ok (.iload_n 1, 1) := by decide +kernel
theorem dL_best_9 : decode cL_best 9 = .ok (.if_icmp .ne 7, 3) := by decide +kernel
theorem dL_best_12 : decode cL_best 12 = .ok (.iload_n 0, 1) := by decide +kernel
theorem dL_best_13 : decode cL_best 13 = .ok (.iconst 1, 1) := by decide +kernel
theorem dL_best_14 : decode cL_best 14 = .ok (.iadd, 1) := by decide +kernel
theorem dL_best_15 : decode cL_best 15 = .ok (.ireturn, 1) := by decide +kernel
theorem dL_best_16 : decode cL_best 16 = .ok (.iconst 0, 1) := by decide +kernel
theorem dL_best_17 : decode cL_best 17 = .ok (.istore 6, 2) := by decide +kernel
theorem dL_best_19 : decode cL_best 19 = .ok (.iload 6, 2) := by decide +kernel
theorem dL_best_21 : decode cL_best 21 = .ok (.iconst 4, 1) := by decide +kernel
theorem dL_best_22 : decode cL_best 22 = .ok (.if_icmp .ge 249, 3) := by decide +kernel
theorem dL_best_25 : decode cL_best 25 = .ok (.iload 6, 2) := by decide +kernel
theorem dL_best_27 : decode cL_best 27 = .ok (.ifCond .ne 7, 3) := by decide +kernel
theorem dL_best_30 : decode cL_best 30 = .ok (.iconst 1, 1) := by decide +kernel
theorem dL_best_31 : decode cL_best 31 = .ok (.goto 26, 3) := by decide +kernel
theorem dL_best_34 : decode cL_best 34 = .ok (.iload 6, 2) := by decide +kernel
theorem dL_best_36 : decode cL_best 36 = .ok (.iconst 1, 1) := by decide +kernel
theorem dL_best_37 : decode cL_best 37 = .ok (.if_icmp .ne 7, 3) := by decide +kernel
theorem dL_best_40 : decode cL_best 40 = .ok (.iconst 5, 1) := by decide +kernel
theorem dL_best_41 : decode cL_best 41 = .ok (.goto 16, 3) := by decide +kernel
theorem dL_best_44 : decode cL_best 44 = .ok (.iload 6, 2) := by decide +kernel
theorem dL_best_46 : decode cL_best 46 = .ok (.iconst 2, 1) := by decide +kernel
theorem dL_best_47 : decode cL_best 47 = .ok (.if_icmp .ne 8, 3) := by decide +kernel
theorem dL_best_50 : decode cL_best 50 = .ok (.bipush 25, 2) := by decide +kernel
theorem dL_best_52 : decode cL_best 52 = .ok (.goto 5, 3) := by decide +kernel
theorem dL_best_55 : decode cL_best 55 = .ok (.bipush 125, 2) := by decide +kernel
theorem dL_best_57 : decode cL_best 57 = .ok (.istore 7, 2) := by decide +kernel
theorem dL_best_59 : decode cL_best 59 = .ok (.iconst 0, 1) := by decide +kernel
theorem dL_best_60 : decode cL_best 60 = .ok (.istore 8, 2) := by decide +kernel
theorem dL_best_62 : decode cL_best 62 = .ok (.iload 8, 2) := by decide +kernel
theorem dL_best_64 : decode cL_best 64 = .ok (.iload 7, 2) := by decide +kernel
theorem dL_best_66 : decode cL_best 66 = .ok (.if_icmp .ge 199, 3) := by decide +kernel
theorem dL_best_69 : decode cL_best 69 = .ok (.iconst 1, 1) := by decide +kernel
theorem dL_best_70 : decode cL_best 70 = .ok (.iload_n 0, 1) := by decide +kernel
theorem dL_best_71 : decode cL_best 71 = .ok (.ishl, 1) := by decide +kernel
theorem dL_best_72 : decode cL_best 72 = .ok (.iconst 1, 1) := by decide +kernel
theorem dL_best_73 : decode cL_best 73 = .ok (.iload_n 1, 1) := by decide +kernel
theorem dL_best_74 : decode cL_best 74 = .ok (.ishl, 1) := by decide +kernel
theorem dL_best_75 : decode cL_best 75 = .ok (.ior, 1) := by decide +kernel
theorem dL_best_76 : decode cL_best 76 = .ok (.istore 9, 2) := by decide +kernel
theorem dL_best_78 : decode cL_best 78 = .ok (.iload_n 0, 1) := by decide +kernel
theorem dL_best_79 : decode cL_best 79 = .ok (.istore 10, 2) := by decide +kernel
theorem dL_best_81 : decode cL_best 81 = .ok (.iconst 0, 1) := by decide +kernel
theorem dL_best_82 : decode cL_best 82 = .ok (.istore 11, 2) := by decide +kernel
theorem dL_best_84 : decode cL_best 84 = .ok (.iload_n 0, 1) := by decide +kernel
theorem dL_best_85 : decode cL_best 85 = .ok (.iconst 1, 1) := by decide +kernel
theorem dL_best_86 : decode cL_best 86 = .ok (.iadd, 1) := by decide +kernel
theorem dL_best_87 : decode cL_best 87 = .ok (.istore 12, 2) := by decide +kernel
theorem dL_best_89 : decode cL_best 89 = .ok (.iload 7, 2) := by decide +kernel
theorem dL_best_91 : decode cL_best 91 = .ok (.iconst 5, 1) := by decide +kernel
theorem dL_best_92 : decode cL_best 92 = .ok (.idiv, 1) := by decide +kernel
theorem dL_best_93 : decode cL_best 93 = .ok (.istore 13, 2) := by decide +kernel
theorem dL_best_95 : decode cL_best 95 = .ok (.iconst 1, 1) := by decide +kernel
theorem dL_best_96 : decode cL_best 96 = .ok (.istore 14, 2) := by decide +kernel
theorem dL_best_98 : decode cL_best 98 = .ok (.iconst 0, 1) := by decide +kernel
theorem dL_best_99 : decode cL_best 99 = .ok (.istore 15, 2) := by decide +kernel
theorem dL_best_101 : decode cL_best 101 = .ok (.iload 15, 2) := by decide +kernel
theorem dL_best_103 : decode cL_best 103 = .ok (.iload 6, 2) := by decide +kernel
theorem dL_best_105 : decode cL_best 105 = .ok (.if_icmp .gt 131, 3) := by decide +kernel
theorem dL_best_108 : decode cL_best 108 = .ok (.iload 14, 2) := by decide +kernel
theorem dL_best_110 : decode cL_best 110 = .ok (.ifCond .eq 126, 3) := by decide +kernel
theorem dL_best_113 : decode cL_best 113 = .ok (.iload 15, 2) := by decide +kernel
theorem dL_best_115 : decode cL_best 115 = .ok (.iload 6, 2) := by decide +kernel
theorem dL_best_117 : decode cL_best 117 = .ok (.if_icmp .ne 7, 3) := by decide +kernel
theorem dL_best_120 : decode cL_best 120 = .ok (.iload_n 1, 1) := by decide +kernel
theorem dL_best_121 : decode cL_best 121 = .ok (.goto 10, 3) := by decide +kernel
theorem dL_best_124 : decode cL_best 124 = .ok (.iload 8, 2) := by decide +kernel
theorem dL_best_126 : decode cL_best 126 = .ok (.iload 13, 2) := by decide +kernel
theorem dL_best_128 : decode cL_best 128 = .ok (.idiv, 1) := by decide +kernel
theorem dL_best_129 : decode cL_best 129 = .ok (.iconst 5, 1) := by decide +kernel
theorem dL_best_130 : decode cL_best 130 = .ok (.irem, 1) := by decide +kernel
theorem dL_best_131 : decode cL_best 131 = .ok (.istore 16, 2) := by decide +kernel
theorem dL_best_133 : decode cL_best 133 = .ok (.iload 15, 2) := by decide +kernel
theorem dL_best_135 : decode cL_best 135 = .ok (.iload 6, 2) := by decide +kernel
theorem dL_best_137 : decode cL_best 137 = .ok (.if_icmp .eq 13, 3) := by decide +kernel
theorem dL_best_140 : decode cL_best 140 = .ok (.iload 9, 2) := by decide +kernel
theorem dL_best_142 : decode cL_best 142 = .ok (.iload 16, 2) := by decide +kernel
theorem dL_best_144 : decode cL_best 144 = .ok (.ishr, 1) := by decide +kernel
theorem dL_best_145 : decode cL_best 145 = .ok (.iconst 1, 1) := by decide +kernel
theorem dL_best_146 : decode cL_best 146 = .ok (.iand, 1) := by decide +kernel
theorem dL_best_147 : decode cL_best 147 = .ok (.ifCond .ne 19, 3) := by decide +kernel
theorem dL_best_150 : decode cL_best 150 = .ok (.iload 10, 2) := by decide +kernel
theorem dL_best_152 : decode cL_best 152 = .ok (.iload 16, 2) := by decide +kernel
theorem dL_best_154 : decode cL_best 154 = .ok (.aload_n 2, 1) := by decide +kernel
theorem dL_best_155 : decode cL_best 155 = .ok (.aload_n 3, 1) := by decide +kernel
theorem dL_best_156 : decode cL_best 156 = .ok (.invokestatic 11, 3) := by decide +kernel
theorem dL_best_159 : decode cL_best 159 = .ok (.ifCond .ne 7, 3) := by decide +kernel
theorem dL_best_162 : decode cL_best 162 = .ok (.iconst 1, 1) := by decide +kernel
theorem dL_best_163 : decode cL_best 163 = .ok (.goto 4, 3) := by decide +kernel
theorem dL_best_166 : decode cL_best 166 = .ok (.iconst 0, 1) := by decide +kernel
theorem dL_best_167 : decode cL_best 167 = .ok (.istore 14, 2) := by decide +kernel
theorem dL_best_169 : decode cL_best 169 = .ok (.iload 9, 2) := by decide +kernel
theorem dL_best_171 : decode cL_best 171 = .ok (.iconst 1, 1) := by decide +kernel
theorem dL_best_172 : decode cL_best 172 = .ok (.iload 16, 2) := by decide +kernel
theorem dL_best_174 : decode cL_best 174 = .ok (.ishl, 1) := by decide +kernel
theorem dL_best_175 : decode cL_best 175 = .ok (.ior, 1) := by decide +kernel
theorem dL_best_176 : decode cL_best 176 = .ok (.istore 9, 2) := by decide +kernel
theorem dL_best_178 : decode cL_best 178 = .ok (.iload 11, 2) := by decide +kernel
theorem dL_best_180 : decode cL_best 180 = .ok (.aload_n 2, 1) := by decide +kernel
theorem dL_best_181 : decode cL_best 181 = .ok (.iconst 2, 1) := by decide +kernel
theorem dL_best_182 : decode cL_best 182 = .ok (.iconst 5, 1) := by decide +kernel
theorem dL_best_183 : decode cL_best 183 = .ok (.iload 10, 2) := by decide +kernel
theorem dL_best_185 : decode cL_best 185 = .ok (.imul, 1) := by decide +kernel
theorem dL_best_186 : decode cL_best 186 = .ok (.iload 16, 2) := by decide +kernel
theorem dL_best_188 : decode cL_best 188 = .ok (.iadd, 1) := by decide +kernel
theorem dL_best_189 : decode cL_best 189 = .ok (.imul, 1) := by decide +kernel
theorem dL_best_190 : decode cL_best 190 = .ok (.iaload, 1) := by decide +kernel
theorem dL_best_191 : decode cL_best 191 = .ok (.iadd, 1) := by decide +kernel
theorem dL_best_192 : decode cL_best 192 = .ok (.istore 11, 2) := by decide +kernel
theorem dL_best_194 : decode cL_best 194 = .ok (.iload 16, 2) := by decide +kernel
theorem dL_best_196 : decode cL_best 196 = .ok (.istore 10, 2) := by decide +kernel
theorem dL_best_198 : decode cL_best 198 = .ok (.iload 12, 2) := by decide +kernel
theorem dL_best_200 : decode cL_best 200 = .ok (.iload 16, 2) := by decide +kernel
theorem dL_best_202 : decode cL_best 202 = .ok (.iconst 1, 1) := by decide +kernel
theorem dL_best_203 : decode cL_best 203 = .ok (.iadd, 1) := by decide +kernel
theorem dL_best_204 : decode cL_best 204 = .ok (.iconst 3, 1) := by decide +kernel
theorem dL_best_205 : decode cL_best 205 = .ok (.iload 15, 2) := by decide +kernel
theorem dL_best_207 : decode cL_best 207 = .ok (.iconst 1, 1) := by decide +kernel
theorem dL_best_208 : decode cL_best 208 = .ok (.iadd, 1) := by decide +kernel
theorem dL_best_209 : decode cL_best 209 = .ok (.imul, 1) := by decide +kernel
theorem dL_best_210 : decode cL_best 210 = .ok (.ishl, 1) := by decide +kernel
theorem dL_best_211 : decode cL_best 211 = .ok (.ior, 1) := by decide +kernel
theorem dL_best_212 : decode cL_best 212 = .ok (.istore 12, 2) := by decide +kernel
theorem dL_best_214 : decode cL_best 214 = .ok (.iload 13, 2) := by decide +kernel
theorem dL_best_216 : decode cL_best 216 = .ok (.iconst 4, 1) := by decide +kernel
theorem dL_best_217 : decode cL_best 217 = .ok (.if_icmp .le 10, 3) := by decide +kernel
theorem dL_best_220 : decode cL_best 220 = .ok (.iload 13, 2) := by decide +kernel
theorem dL_best_222 : decode cL_best 222 = .ok (.iconst 5, 1) := by decide +kernel
theorem dL_best_223 : decode cL_best 223 = .ok (.idiv, 1) := by decide +kernel
theorem dL_best_224 : decode cL_best 224 = .ok (.goto 4, 3) := by decide +kernel
theorem dL_best_227 : decode cL_best 227 = .ok (.iconst 1, 1) := by decide +kernel
theorem dL_best_228 : decode cL_best 228 = .ok (.istore 13, 2) := by decide +kernel
theorem dL_best_230 : decode cL_best 230 = .ok (.iinc 15 1, 3) := by decide +kernel
theorem dL_best_233 : decode cL_best 233 = .ok (.goto (-132), 3) := by decide +kernel
theorem dL_best_236 : decode cL_best 236 = .ok (.iload 14, 2) := by decide +kernel
theorem dL_best_238 : decode cL_best 238 = .ok (.ifCond .eq 21, 3) := by decide +kernel
theorem dL_best_241 : decode cL_best 241 = .ok (.iload 11, 2) := by decide +kernel
theorem dL_best_243 : decode cL_best 243 = .ok (.iload 5, 2) := by decide +kernel
theorem dL_best_245 : decode cL_best 245 = .ok (.if_icmp .lt 6, 3) := by decide +kernel
theorem dL_best_248 : decode cL_best 248 = .ok (.goto 11, 3) := by decide +kernel
theorem dL_best_251 : decode cL_best 251 = .ok (.iload 11, 2) := by decide +kernel
theorem dL_best_253 : decode cL_best 253 = .ok (.istore 5, 2) := by decide +kernel
theorem dL_best_255 : decode cL_best 255 = .ok (.iload 12, 2) := by decide +kernel
theorem dL_best_257 : decode cL_best 257 = .ok (.istore 4, 2) := by decide +kernel
theorem dL_best_259 : decode cL_best 259 = .ok (.iinc 8 1, 3) := by decide +kernel
theorem dL_best_262 : decode cL_best 262 = .ok (.goto (-200), 3) := by decide +kernel
theorem dL_best_265 : decode cL_best 265 = .ok (.iinc 6 1, 3) := by decide +kernel
theorem dL_best_268 : decode cL_best 268 = .ok (.goto (-249), 3) := by decide +kernel
theorem dL_best_271 : decode cL_best 271 = .ok (.iload 4, 2) := by decide +kernel
theorem dL_best_273 : decode cL_best 273 = .ok (.ireturn, 1) := by decide +kernel
theorem dL_cost_0 : decode cL_cost 0 = .ok (.iconst 0, 1) := by decide +kernel
theorem dL_cost_1 : decode cL_cost 1 = .ok (.istore_n 2, 1) := by decide +kernel
theorem dL_cost_2 : decode cL_cost 2 = .ok (.iconst 1, 1) := by decide +kernel
theorem dL_cost_3 : decode cL_cost 3 = .ok (.istore_n 3, 1) := by decide +kernel
theorem dL_cost_4 : decode cL_cost 4 = .ok (.iload_n 0, 1) := by decide +kernel
theorem dL_cost_5 : decode cL_cost 5 = .ok (.iconst 3, 1) := by decide +kernel
theorem dL_cost_6 : decode cL_cost 6 = .ok (.iload_n 3, 1) := by decide +kernel
theorem dL_cost_7 : decode cL_cost 7 = .ok (.imul, 1) := by decide +kernel
theorem dL_cost_8 : decode cL_cost 8 = .ok (.ishr, 1) := by decide +kernel
theorem dL_cost_9 : decode cL_cost 9 = .ok (.ifCond .le 41, 3) := by decide +kernel
theorem dL_cost_12 : decode cL_cost 12 = .ok (.iload_n 2, 1) := by decide +kernel
theorem dL_cost_13 : decode cL_cost 13 = .ok (.aload_n 1, 1) := by decide +kernel
theorem dL_cost_14 : decode cL_cost 14 = .ok (.iconst 2, 1) := by decide +kernel
theorem dL_cost_15 : decode cL_cost 15 = .ok (.iconst 5, 1) := by decide +kernel
theorem dL_cost_16 : decode cL_cost 16 = .ok (.iload_n 0, 1) := by decide +kernel
theorem dL_cost_17 : decode cL_cost 17 = .ok (.iconst 3, 1) := by decide +kernel
theorem dL_cost_18 : decode cL_cost 18 = .ok (.iload_n 3, 1) := by decide +kernel
theorem dL_cost_19 : decode cL_cost 19 = .ok (.imul, 1) := by decide +kernel
theorem dL_cost_20 : decode cL_cost 20 = .ok (.iconst 3, 1) := by decide +kernel
theorem dL_cost_21 : decode cL_cost 21 = .ok (.isub, 1) := by decide +kernel
theorem dL_cost_22 : decode cL_cost 22 = .ok (.ishr, 1) := by decide +kernel
theorem dL_cost_23 : decode cL_cost 23 = .ok (.bipush 7, 2) := by decide +kernel
theorem dL_cost_25 : decode cL_cost 25 = .ok (.iand, 1) := by decide +kernel
theorem dL_cost_26 : decode cL_cost 26 = .ok (.iconst 1, 1) := by decide +kernel
theorem dL_cost_27 : decode cL_cost 27 = .ok (.isub, 1) := by decide +kernel
theorem dL_cost_28 : decode cL_cost 28 = .ok (.imul, 1) := by decide +kernel
theorem dL_cost_29 : decode cL_cost 29 = .ok (.iload_n 0, 1) := by decide +kernel
theorem dL_cost_30 : decode cL_cost 30 = .ok (.iconst 3, 1) := by decide +kernel
theorem dL_cost_31 : decode cL_cost 31 = .ok (.iload_n 3, 1) := by decide +kernel
theorem dL_cost_32 : decode cL_cost 32 = .ok (.imul, 1) := by decide +kernel
theorem dL_cost_33 : decode cL_cost 33 = .ok (.ishr, 1) := by decide +kernel
theorem dL_cost_34 : decode cL_cost 34 = .ok (.bipush 7, 2) := by decide +kernel
theorem dL_cost_36 : decode cL_cost 36 = .ok (.iand, 1) := by decide +kernel
theorem dL_cost_37 : decode cL_cost 37 = .ok (.iadd, 1) := by decide +kernel
theorem dL_cost_38 : decode cL_cost 38 = .ok (.iconst 1, 1) := by decide +kernel
theorem dL_cost_39 : decode cL_cost 39 = .ok (.isub, 1) := by decide +kernel
theorem dL_cost_40 : decode cL_cost 40 = .ok (.imul, 1) := by decide +kernel
theorem dL_cost_41 : decode cL_cost 41 = .ok (.iaload, 1) := by decide +kernel
theorem dL_cost_42 : decode cL_cost 42 = .ok (.iadd, 1) := by decide +kernel
theorem dL_cost_43 : decode cL_cost 43 = .ok (.istore_n 2, 1) := by decide +kernel
theorem dL_cost_44 : decode cL_cost 44 = .ok (.iinc 3 1, 3) := by decide +kernel
theorem dL_cost_47 : decode cL_cost 47 = .ok (.goto (-43), 3) := by decide +kernel
theorem dL_cost_50 : decode cL_cost 50 = .ok (.iload_n 2, 1) := by decide +kernel
theorem dL_cost_51 : decode cL_cost 51 = .ok (.ireturn, 1) := by decide +kernel
theorem dL_end_0 : decode cL_end 0 = .ok (.iconst 0, 1) := by decide +kernel
theorem dL_end_1 : decode cL_end 1 = .ok (.istore_n 1, 1) := by decide +kernel
theorem dL_end_2 : decode cL_end 2 = .ok (.iload_n 0, 1) := by decide +kernel
theorem dL_end_3 : decode cL_end 3 = .ok (.iconst 3, 1) := by decide +kernel
theorem dL_end_4 : decode cL_end 4 = .ok (.iload_n 1, 1) := by decide +kernel
theorem dL_end_5 : decode cL_end 5 = .ok (.imul, 1) := by decide +kernel
theorem dL_end_6 : decode cL_end 6 = .ok (.iconst 3, 1) := by decide +kernel
theorem dL_end_7 : decode cL_end 7 = .ok (.iadd, 1) := by decide +kernel
theorem dL_end_8 : decode cL_end 8 = .ok (.ishr, 1) := by decide +kernel
theorem dL_end_9 : decode cL_end 9 = .ok (.ifCond .le 9, 3) := by decide +kernel
theorem dL_end_12 : decode cL_end 12 = .ok (.iinc 1 1, 3) := by decide +kernel
theorem dL_end_15 : decode cL_end 15 = .ok (.goto (-13), 3) := by decide +kernel
theorem dL_end_18 : decode cL_end 18 = .ok (.iload_n 0, 1) := by decide +kernel
theorem dL_end_19 : decode cL_end 19 = .ok (.iconst 3, 1) := by decide +kernel
theorem dL_end_20 : decode cL_end 20 = .ok (.iload_n 1, 1) := by decide +kernel
theorem dL_end_21 : decode cL_end 21 = .ok (.imul, 1) := by decide +kernel
theorem dL_end_22 : decode cL_end 22 = .ok (.ishr, 1) := by decide +kernel
theorem dL_end_23 : decode cL_end 23 = .ok (.bipush 7, 2) := by decide +kernel
theorem dL_end_25 : decode cL_end 25 = .ok (.iand, 1) := by decide +kernel
theorem dL_end_26 : decode cL_end 26 = .ok (.iconst 1, 1) := by decide +kernel
theorem dL_end_27 : decode cL_end 27 = .ok (.isub, 1) := by decide +kernel
theorem dL_end_28 : decode cL_end 28 = .ok (.ireturn, 1) := by decide +kernel
theorem dL_busy_0 : decode cL_busy 0 = .ok (.iconst 0, 1) := by decide +kernel
theorem dL_busy_1 : decode cL_busy 1 = .ok (.istore_n 3, 1) := by decide +kernel
theorem dL_busy_2 : decode cL_busy 2 = .ok (.iload_n 3, 1) := by decide +kernel
theorem dL_busy_3 : decode cL_busy 3 = .ok (.aload_n 2, 1) := by decide +kernel
theorem dL_busy_4 : decode cL_busy 4 = .ok (.iconst 1, 1) := by decide +kernel
theorem dL_busy_5 : decode cL_busy 5 = .ok (.iaload, 1) := by decide +kernel
theorem dL_busy_6 : decode cL_busy 6 = .ok (.if_icmp .ge 44, 3) := by decide +kernel
theorem dL_busy_9 : decode cL_busy 9 = .ok (.aload_n 1, 1) := by decide +kernel
theorem dL_busy_10 : decode cL_busy 10 = .ok (.bipush 8, 2) := by decide +kernel
theorem dL_busy_12 : decode cL_busy 12 = .ok (.iload_n 3, 1) := by decide +kernel
theorem dL_busy_13 : decode cL_busy 13 = .ok (.imul, 1) := by decide +kernel
theorem dL_busy_14 : decode cL_busy 14 = .ok (.iconst 2, 1) := by decide +kernel
theorem dL_busy_15 : decode cL_busy 15 = .ok (.iadd, 1) := by decide +kernel
theorem dL_busy_16 : decode cL_busy 16 = .ok (.iaload, 1) := by decide +kernel
theorem dL_busy_17 : decode cL_busy 17 = .ok (.ifCond .ne 27, 3) := by decide +kernel
theorem dL_busy_20 : decode cL_busy 20 = .ok (.aload_n 1, 1) := by decide +kernel
theorem dL_busy_21 : decode cL_busy 21 = .ok (.bipush 8, 2) := by decide +kernel
theorem dL_busy_23 : decode cL_busy 23 = .ok (.iload_n 3, 1) := by decide +kernel
theorem dL_busy_24 : decode cL_busy 24 = .ok (.imul, 1) := by decide +kernel
theorem dL_busy_25 : decode cL_busy 25 = .ok (.iaload, 1) := by decide +kernel
theorem dL_busy_26 : decode cL_busy 26 = .ok (.iload_n 0, 1) := by decide +kernel
theorem dL_busy_27 : decode cL_busy 27 = .ok (.if_icmp .eq 15, 3) := by decide +kernel
theorem dL_busy_30 : decode cL_busy 30 = .ok (.aload_n 1, 1) := by decide +kernel
theorem dL_busy_31 : decode cL_busy 31 = .ok (.bipush 8, 2) := by decide +kernel
theorem dL_busy_33 : decode cL_busy 33 = .ok (.iload_n 3, 1) := by decide +kernel
theorem dL_busy_34 : decode cL_busy 34 = .ok (.imul, 1) := by decide +kernel
theorem dL_busy_35 : decode cL_busy 35 = .ok (.iconst 1, 1) := by decide +kernel
theorem dL_busy_36 : decode cL_busy 36 = .ok (.iadd, 1) := by decide +kernel
theorem dL_busy_37 : decode cL_busy 37 = .ok (.iaload, 1) := by decide +kernel
theorem dL_busy_38 : decode cL_busy 38 = .ok (.iload_n 0, 1) := by decide +kernel
theorem dL_busy_39 : decode cL_busy 39 = .ok (.if_icmp .ne 5, 3) := by decide +kernel
theorem dL_busy_42 : decode cL_busy 42 = .ok (.iconst 1, 1) := by decide +kernel
theorem dL_busy_43 : decode cL_busy 43 = .ok (.ireturn, 1) := by decide +kernel
theorem dL_busy_44 : decode cL_busy 44 = .ok (.iinc 3 1, 3) := by decide +kernel
theorem dL_busy_47 : decode cL_busy 47 = .ok (.goto (-45), 3) := by decide +kernel
theorem dL_busy_50 : decode cL_busy 50 = .ok (.iconst 0, 1) := by decide +kernel
theorem dL_busy_51 : decode cL_busy 51 = .ok (.ireturn, 1) := by decide +kernel
theorem dL_minute_0 : decode cL_minute 0 = .ok (.iconst 0, 1) := by decide +kernel
theorem dL_minute_1 : decode cL_minute 1 = .ok (.istore 6, 2) := by decide +kernel
theorem dL_minute_3 : decode cL_minute 3 = .ok (.aload 5, 2) := by decide +kernel
theorem dL_minute_5 : decode cL_minute 5 = .ok (.iload_n 0, 1) := by decide +kernel
theorem dL_minute_6 : decode cL_minute 6 = .ok (.bipush 7, 2) := by decide +kernel
theorem dL_minute_8 : decode cL_minute 8 = .ok (.iadd, 1) := by decide +kernel
theorem dL_minute_9 : decode cL_minute 9 = .ok (.iaload, 1) := by decide +kernel
theorem dL_minute_10 : decode cL_minute 10 = .ok (.istore 7, 2) := by decide +kernel
theorem dL_minute_12 : decode cL_minute 12 = .ok (.iconst 1, 1) := by decide +kernel
theorem dL_minute_13 : decode cL_minute 13 = .ok (.istore 8, 2) := by decide +kernel
theorem dL_minute_15 : decode cL_minute 15 = .ok (.iload 7, 2) := by decide +kernel
theorem dL_minute_17 : decode cL_minute 17 = .ok (.iconst 3, 1) := by decide +kernel
theorem dL_minute_18 : decode cL_minute 18 = .ok (.iload 8, 2) := by decide +kernel
theorem dL_minute_20 : decode cL_minute 20 = .ok (.imul, 1) := by decide +kernel
theorem dL_minute_21 : decode cL_minute 21 = .ok (.ishr, 1) := by decide +kernel
theorem dL_minute_22 : decode cL_minute 22 = .ok (.ifCond .le 45, 3) := by decide +kernel
theorem dL_minute_25 : decode cL_minute 25 = .ok (.iload 6, 2) := by decide +kernel
theorem dL_minute_27 : decode cL_minute 27 = .ok (.iload 7, 2) := by decide +kernel
theorem dL_minute_29 : decode cL_minute 29 = .ok (.iconst 3, 1) := by decide +kernel
theorem dL_minute_30 : decode cL_minute 30 = .ok (.iload 8, 2) := by decide +kernel
theorem dL_minute_32 : decode cL_minute 32 = .ok (.imul, 1) := by decide +kernel
theorem dL_minute_33 : decode cL_minute 33 = .ok (.iconst 3, 1) := by decide +kernel
theorem dL_minute_34 : decode cL_minute 34 = .ok (.isub, 1) := by decide +kernel
theorem dL_minute_35 : decode cL_minute 35 = .ok (.ishr, 1) := by decide +kernel
theorem dL_minute_36 : decode cL_minute 36 = .ok (.bipush 7, 2) := by decide +kernel
theorem dL_minute_38 : decode cL_minute 38 = .ok (.iand, 1) := by decide +kernel
theorem dL_minute_39 : decode cL_minute 39 = .ok (.iconst 1, 1) := by decide +kernel
theorem dL_minute_40 : decode cL_minute 40 = .ok (.isub, 1) := by decide +kernel
theorem dL_minute_41 : decode cL_minute 41 = .ok (.iload 7, 2) := by decide +kernel
theorem dL_minute_43 : decode cL_minute 43 = .ok (.iconst 3, 1) := by decide +kernel
theorem dL_minute_44 : decode cL_minute 44 = .ok (.iload 8, 2) := by decide +kernel
theorem dL_minute_46 : decode cL_minute 46 = .ok (.imul, 1) := by decide +kernel
theorem dL_minute_47 : decode cL_minute 47 = .ok (.ishr, 1) := by decide +kernel
theorem dL_minute_48 : decode cL_minute 48 = .ok (.bipush 7, 2) := by decide +kernel
theorem dL_minute_50 : decode cL_minute 50 = .ok (.iand, 1) := by decide +kernel
theorem dL_minute_51 : decode cL_minute 51 = .ok (.iconst 1, 1) := by decide +kernel
theorem dL_minute_52 : decode cL_minute 52 = .ok (.isub, 1) := by decide +kernel
theorem dL_minute_53 : decode cL_minute 53 = .ok (.aload_n 1, 1) := by decide +kernel
theorem dL_minute_54 : decode cL_minute 54 = .ok (.aload_n 3, 1) := by decide +kernel
theorem dL_minute_55 : decode cL_minute 55 = .ok (.invokestatic 11, 3) := by decide +kernel
theorem dL_minute_58 : decode cL_minute 58 = .ok (.ior, 1) := by decide +kernel
theorem dL_minute_59 : decode cL_minute 59 = .ok (.istore 6, 2) := by decide +kernel
theorem dL_minute_61 : decode cL_minute 61 = .ok (.iinc 8 1, 3) := by decide +kernel
theorem dL_minute_64 : decode cL_minute 64 = .ok (.goto (-49), 3) := by decide +kernel
theorem dL_minute_67 : decode cL_minute 67 = .ok (.iload 6, 2) := by decide +kernel
theorem dL_minute_69 : decode cL_minute 69 = .ok (.ifCond .eq 47, 3) := by decide +kernel
theorem dL_minute_72 : decode cL_minute 72 = .ok (.iload 7, 2) := by decide +kernel
theorem dL_minute_74 : decode cL_minute 74 = .ok (.bipush 7, 2) := by decide +kernel
theorem dL_minute_76 : decode cL_minute 76 = .ok (.iand, 1) := by decide +kernel
theorem dL_minute_77 : decode cL_minute 77 = .ok (.iconst 1, 1) := by decide +kernel
theorem dL_minute_78 : decode cL_minute 78 = .ok (.isub, 1) := by decide +kernel
theorem dL_minute_79 : decode cL_minute 79 = .ok (.iload 7, 2) := by decide +kernel
theorem dL_minute_81 : decode cL_minute 81 = .ok (.invokestatic 17, 3) := by decide +kernel
theorem dL_minute_84 : decode cL_minute 84 = .ok (.aload_n 1, 1) := by decide +kernel
theorem dL_minute_85 : decode cL_minute 85 = .ok (.aload_n 3, 1) := by decide +kernel
theorem dL_minute_86 : decode cL_minute 86 = .ok (.invokestatic 21, 3) := by decide +kernel
theorem dL_minute_89 : decode cL_minute 89 = .ok (.istore 7, 2) := by decide +kernel
theorem dL_minute_91 : decode cL_minute 91 = .ok (.iload 7, 2) := by decide +kernel
theorem dL_minute_93 : decode cL_minute 93 = .ok (.ifCond .le 23, 3) := by decide +kernel
theorem dL_minute_96 : decode cL_minute 96 = .ok (.aload 5, 2) := by decide +kernel
theorem dL_minute_98 : decode cL_minute 98 = .ok (.iload_n 0, 1) := by decide +kernel
theorem dL_minute_99 : decode cL_minute 99 = .ok (.bipush 7, 2) := by decide +kernel
theorem dL_minute_101 : decode cL_minute 101 = .ok (.iadd, 1) := by decide +kernel
theorem dL_minute_102 : decode cL_minute 102 = .ok (.iload 7, 2) := by decide +kernel
theorem dL_minute_104 : decode cL_minute 104 = .ok (.iastore, 1) := by decide +kernel
theorem dL_minute_105 : decode cL_minute 105 = .ok (.aload 5, 2) := by decide +kernel
theorem dL_minute_107 : decode cL_minute 107 = .ok (.iload_n 0, 1) := by decide +kernel
theorem dL_minute_108 : decode cL_minute 108 = .ok (.bipush 6, 2) := by decide +kernel
theorem dL_minute_110 : decode cL_minute 110 = .ok (.iadd, 1) := by decide +kernel
theorem dL_minute_111 : decode cL_minute 111 = .ok (.dup2, 1) := by decide +kernel
theorem dL_minute_112 : decode cL_minute 112 = .ok (.iaload, 1) := by decide +kernel
theorem dL_minute_113 : decode cL_minute 113 = .ok (.iconst 1, 1) := by decide +kernel
theorem dL_minute_114 : decode cL_minute 114 = .ok (.iadd, 1) := by decide +kernel
theorem dL_minute_115 : decode cL_minute 115 = .ok (.iastore, 1) := by decide +kernel
theorem dL_minute_116 : decode cL_minute 116 = .ok (.iload 7, 2) := by decide +kernel
theorem dL_minute_118 : decode cL_minute 118 = .ok (.ifCond .le 117, 3) := by decide +kernel
theorem dL_minute_121 : decode cL_minute 121 = .ok (.aload 5, 2) := by decide +kernel
theorem dL_minute_123 : decode cL_minute 123 = .ok (.iload_n 0, 1) := by decide +kernel
theorem dL_minute_124 : decode cL_minute 124 = .ok (.iconst 5, 1) := by decide +kernel
theorem dL_minute_125 : decode cL_minute 125 = .ok (.iadd, 1) := by decide +kernel
theorem dL_minute_126 : decode cL_minute 126 = .ok (.iaload, 1) := by decide +kernel
theorem dL_minute_127 : decode cL_minute 127 = .ok (.aload 5, 2) := by decide +kernel
theorem dL_minute_129 : decode cL_minute 129 = .ok (.iload_n 0, 1) := by decide +kernel
theorem dL_minute_130 : decode cL_minute 130 = .ok (.iconst 3, 1) := by decide +kernel
theorem dL_minute_131 : decode cL_minute 131 = .ok (.iadd, 1) := by decide +kernel
theorem dL_minute_132 : decode cL_minute 132 = .ok (.iaload, 1) := by decide +kernel
theorem dL_minute_133 : decode cL_minute 133 = .ok (.irem, 1) := by decide +kernel
theorem dL_minute_134 : decode cL_minute 134 = .ok (.ifCond .ne 101, 3) := by decide +kernel
theorem dL_minute_137 : decode cL_minute 137 = .ok (.iconst 4, 1) := by decide +kernel
theorem dL_minute_138 : decode cL_minute 138 = .ok (.aload 5, 2) := by decide +kernel
theorem dL_minute_140 : decode cL_minute 140 = .ok (.iload_n 0, 1) := by decide +kernel
theorem dL_minute_141 : decode cL_minute 141 = .ok (.iaload, 1) := by decide +kernel
theorem dL_minute_142 : decode cL_minute 142 = .ok (.imul, 1) := by decide +kernel
theorem dL_minute_143 : decode cL_minute 143 = .ok (.istore 8, 2) := by decide +kernel
theorem dL_minute_145 : decode cL_minute 145 = .ok (.aload 4, 2) := by decide +kernel
theorem dL_minute_147 : decode cL_minute 147 = .ok (.iload 8, 2) := by decide +kernel
theorem dL_minute_149 : decode cL_minute 149 = .ok (.iconst 2, 1) := by decide +kernel
theorem dL_minute_150 : decode cL_minute 150 = .ok (.iadd, 1) := by decide +kernel
theorem dL_minute_151 : decode cL_minute 151 = .ok (.iaload, 1) := by decide +kernel
theorem dL_minute_152 : decode cL_minute 152 = .ok (.aload 5, 2) := by decide +kernel
theorem dL_minute_154 : decode cL_minute 154 = .ok (.iload_n 0, 1) := by decide +kernel
theorem dL_minute_155 : decode cL_minute 155 = .ok (.iconst 3, 1) := by decide +kernel
theorem dL_minute_156 : decode cL_minute 156 = .ok (.iadd, 1) := by decide +kernel
theorem dL_minute_157 : decode cL_minute 157 = .ok (.iaload, 1) := by decide +kernel
theorem dL_minute_158 : decode cL_minute 158 = .ok (.if_icmp .lt 7, 3) := by decide +kernel
theorem dL_minute_161 : decode cL_minute 161 = .ok (.iconst 1, 1) := by decide +kernel
theorem dL_minute_162 : decode cL_minute 162 = .ok (.goto 4, 3) := by decide +kernel
theorem dL_minute_165 : decode cL_minute 165 = .ok (.iconst 0, 1) := by decide +kernel
theorem dL_minute_166 : decode cL_minute 166 = .ok (.istore 9, 2) := by decide +kernel
theorem dL_minute_168 : decode cL_minute 168 = .ok (.iload 9, 2) := by decide +kernel
theorem dL_minute_170 : decode cL_minute 170 = .ok (.ifCond .ne 25, 3) := by decide +kernel
theorem dL_minute_173 : decode cL_minute 173 = .ok (.aload 4, 2) := by decide +kernel
theorem dL_minute_175 : decode cL_minute 175 = .ok (.iload 8, 2) := by decide +kernel
theorem dL_minute_177 : decode cL_minute 177 = .ok (.iconst 1, 1) := by decide +kernel
theorem dL_minute_178 : decode cL_minute 178 = .ok (.iadd, 1) := by decide +kernel
theorem dL_minute_179 : decode cL_minute 179 = .ok (.iaload, 1) := by decide +kernel
theorem dL_minute_180 : decode cL_minute 180 = .ok (.aload 5, 2) := by decide +kernel
theorem dL_minute_182 : decode cL_minute 182 = .ok (.iload_n 0, 1) := by decide +kernel
theorem dL_minute_183 : decode cL_minute 183 = .ok (.iconst 4, 1) := by decide +kernel
theorem dL_minute_184 : decode cL_minute 184 = .ok (.iadd, 1) := by decide +kernel
theorem dL_minute_185 : decode cL_minute 185 = .ok (.iaload, 1) := by decide +kernel
theorem dL_minute_186 : decode cL_minute 186 = .ok (.if_icmp .ge 9, 3) := by decide +kernel
theorem dL_minute_189 : decode cL_minute 189 = .ok (.iconst 0, 1) := by decide +kernel
theorem dL_minute_190 : decode cL_minute 190 = .ok (.istore 7, 2) := by decide +kernel
theorem dL_minute_192 : decode cL_minute 192 = .ok (.goto 43, 3) := by decide +kernel
theorem dL_minute_195 : decode cL_minute 195 = .ok (.iload 9, 2) := by decide +kernel
theorem dL_minute_197 : decode cL_minute 197 = .ok (.ifCond .eq 22, 3) := by decide +kernel
theorem dL_minute_200 : decode cL_minute 200 = .ok (.aload 4, 2) := by decide +kernel
theorem dL_minute_202 : decode cL_minute 202 = .ok (.iload 8, 2) := by decide +kernel
theorem dL_minute_204 : decode cL_minute 204 = .ok (.iconst 2, 1) := by decide +kernel
theorem dL_minute_205 : decode cL_minute 205 = .ok (.iadd, 1) := by decide +kernel
theorem dL_minute_206 : decode cL_minute 206 = .ok (.dup2, 1) := by decide +kernel
theorem dL_minute_207 : decode cL_minute 207 = .ok (.iaload, 1) := by decide +kernel
theorem dL_minute_208 : decode cL_minute 208 = .ok (.aload 5, 2) := by decide +kernel
theorem dL_minute_210 : decode cL_minute 210 = .ok (.iload_n 0, 1) := by decide +kernel
theorem dL_minute_211 : decode cL_minute 211 = .ok (.iconst 3, 1) := by decide +kernel
theorem dL_minute_212 : decode cL_minute 212 = .ok (.iadd, 1) := by decide +kernel
theorem dL_minute_213 : decode cL_minute 213 = .ok (.iaload, 1) := by decide +kernel
theorem dL_minute_214 : decode cL_minute 214 = .ok (.isub, 1) := by decide +kernel
theorem dL_minute_215 : decode cL_minute 215 = .ok (.iastore, 1) := by decide +kernel
theorem dL_minute_216 : decode cL_minute 216 = .ok (.goto 19, 3) := by decide +kernel
theorem dL_minute_219 : decode cL_minute 219 = .ok (.aload 4, 2) := by decide +kernel
theorem dL_minute_221 : decode cL_minute 221 = .ok (.iload 8, 2) := by decide +kernel
theorem dL_minute_223 : decode cL_minute 223 = .ok (.iconst 1, 1) := by decide +kernel
theorem dL_minute_224 : decode cL_minute 224 = .ok (.iadd, 1) := by decide +kernel
theorem dL_minute_225 : decode cL_minute 225 = .ok (.dup2, 1) := by decide +kernel
theorem dL_minute_226 : decode cL_minute 226 = .ok (.iaload, 1) := by decide +kernel
theorem dL_minute_227 : decode cL_minute 227 = .ok (.aload 5, 2) := by decide +kernel
theorem dL_minute_229 : decode cL_minute 229 = .ok (.iload_n 0, 1) := by decide +kernel
theorem dL_minute_230 : decode cL_minute 230 = .ok (.iconst 4, 1) := by decide +kernel
theorem dL_minute_231 : decode cL_minute 231 = .ok (.iadd, 1) := by decide +kernel
theorem dL_minute_232 : decode cL_minute 232 = .ok (.iaload, 1) := by decide +kernel
theorem dL_minute_233 : decode cL_minute 233 = .ok (.isub, 1) := by decide +kernel
theorem dL_minute_234 : decode cL_minute 234 = .ok (.iastore, 1) := by decide +kernel
theorem dL_minute_235 : decode cL_minute 235 = .ok (.iload 7, 2) := by decide +kernel
theorem dL_minute_237 : decode cL_minute 237 = .ok (.ifCond .ne 11, 3) := by decide +kernel
theorem dL_minute_240 : decode cL_minute 240 = .ok (.aload 5, 2) := by decide +kernel
theorem dL_minute_242 : decode cL_minute 242 = .ok (.iload_n 0, 1) := by decide +kernel
theorem dL_minute_243 : decode cL_minute 243 = .ok (.iconst 2, 1) := by decide +kernel
theorem dL_minute_244 : decode cL_minute 244 = .ok (.iadd, 1) := by decide +kernel
theorem dL_minute_245 : decode cL_minute 245 = .ok (.iconst 2, 1) := by decide +kernel
theorem dL_minute_246 : decode cL_minute 246 = .ok (.iastore, 1) := by decide +kernel
theorem dL_minute_247 : decode cL_minute 247 = .ok (.return_, 1) := by decide +kernel
theorem dL_minute_248 : decode cL_minute 248 = .ok (.iconst 1, 1) := by decide +kernel
theorem dL_minute_249 : decode cL_minute 249 = .ok (.istore 8, 2) := by decide +kernel
theorem dL_minute_251 : decode cL_minute 251 = .ok (.iload 7, 2) := by decide +kernel
theorem dL_minute_253 : decode cL_minute 253 = .ok (.iconst 3, 1) := by decide +kernel
theorem dL_minute_254 : decode cL_minute 254 = .ok (.iload 8, 2) := by decide +kernel
theorem dL_minute_256 : decode cL_minute 256 = .ok (.imul, 1) := by decide +kernel
theorem dL_minute_257 : decode cL_minute 257 = .ok (.ishr, 1) := by decide +kernel
theorem dL_minute_258 : decode cL_minute 258 = .ok (.ifCond .le 97, 3) := by decide +kernel
theorem dL_minute_261 : decode cL_minute 261 = .ok (.iload 7, 2) := by decide +kernel
theorem dL_minute_263 : decode cL_minute 263 = .ok (.iconst 3, 1) := by decide +kernel
theorem dL_minute_264 : decode cL_minute 264 = .ok (.iload 8, 2) := by decide +kernel
theorem dL_minute_266 : decode cL_minute 266 = .ok (.imul, 1) := by decide +kernel
theorem dL_minute_267 : decode cL_minute 267 = .ok (.iconst 3, 1) := by decide +kernel
theorem dL_minute_268 : decode cL_minute 268 = .ok (.isub, 1) := by decide +kernel
theorem dL_minute_269 : decode cL_minute 269 = .ok (.ishr, 1) := by decide +kernel
theorem dL_minute_270 : decode cL_minute 270 = .ok (.bipush 7, 2) := by decide +kernel
theorem dL_minute_272 : decode cL_minute 272 = .ok (.iand, 1) := by decide +kernel
theorem dL_minute_273 : decode cL_minute 273 = .ok (.iconst 1, 1) := by decide +kernel
theorem dL_minute_274 : decode cL_minute 274 = .ok (.isub, 1) := by decide +kernel
theorem dL_minute_275 : decode cL_minute 275 = .ok (.istore 9, 2) := by decide +kernel
theorem dL_minute_277 : decode cL_minute 277 = .ok (.iload 7, 2) := by decide +kernel
theorem dL_minute_279 : decode cL_minute 279 = .ok (.iconst 3, 1) := by decide +kernel
theorem dL_minute_280 : decode cL_minute 280 = .ok (.iload 8, 2) := by decide +kernel
theorem dL_minute_282 : decode cL_minute 282 = .ok (.imul, 1) := by decide +kernel
theorem dL_minute_283 : decode cL_minute 283 = .ok (.ishr, 1) := by decide +kernel
theorem dL_minute_284 : decode cL_minute 284 = .ok (.bipush 7, 2) := by decide +kernel
theorem dL_minute_286 : decode cL_minute 286 = .ok (.iand, 1) := by decide +kernel
theorem dL_minute_287 : decode cL_minute 287 = .ok (.iconst 1, 1) := by decide +kernel
theorem dL_minute_288 : decode cL_minute 288 = .ok (.isub, 1) := by decide +kernel
theorem dL_minute_289 : decode cL_minute 289 = .ok (.istore 10, 2) := by decide +kernel
theorem dL_minute_291 : decode cL_minute 291 = .ok (.aload_n 1, 1) := by decide +kernel
theorem dL_minute_292 : decode cL_minute 292 = .ok (.iconst 2, 1) := by decide +kernel
theorem dL_minute_293 : decode cL_minute 293 = .ok (.iconst 5, 1) := by decide +kernel
theorem dL_minute_294 : decode cL_minute 294 = .ok (.iload 9, 2) := by decide +kernel
theorem dL_minute_296 : decode cL_minute 296 = .ok (.imul, 1) := by decide +kernel
theorem dL_minute_297 : decode cL_minute 297 = .ok (.iload 10, 2) := by decide +kernel
theorem dL_minute_299 : decode cL_minute 299 = .ok (.iadd, 1) := by decide +kernel
theorem dL_minute_300 : decode cL_minute 300 = .ok (.imul, 1) := by decide +kernel
theorem dL_minute_301 : decode cL_minute 301 = .ok (.iaload, 1) := by decide +kernel
theorem dL_minute_302 : decode cL_minute 302 = .ok (.istore 11, 2) := by decide +kernel
theorem dL_minute_304 : decode cL_minute 304 = .ok (.aload_n 2, 1) := by decide +kernel
theorem dL_minute_305 : decode cL_minute 305 = .ok (.iconst 5, 1) := by decide +kernel
theorem dL_minute_306 : decode cL_minute 306 = .ok (.iload 9, 2) := by decide +kernel
theorem dL_minute_308 : decode cL_minute 308 = .ok (.imul, 1) := by decide +kernel
theorem dL_minute_309 : decode cL_minute 309 = .ok (.iload 10, 2) := by decide +kernel
theorem dL_minute_311 : decode cL_minute 311 = .ok (.iadd, 1) := by decide +kernel
theorem dL_minute_312 : decode cL_minute 312 = .ok (.dup2, 1) := by decide +kernel
theorem dL_minute_313 : decode cL_minute 313 = .ok (.laload, 1) := by decide +kernel
theorem dL_minute_314 : decode cL_minute 314 = .ok (.iload 11, 2) := by decide +kernel
theorem dL_minute_316 : decode cL_minute 316 = .ok (.i2l, 1) := by decide +kernel
theorem dL_minute_317 : decode cL_minute 317 = .ok (.ladd, 1) := by decide +kernel
theorem dL_minute_318 : decode cL_minute 318 = .ok (.lastore, 1) := by decide +kernel
theorem dL_minute_319 : decode cL_minute 319 = .ok (.aload_n 3, 1) := by decide +kernel
theorem dL_minute_320 : decode cL_minute 320 = .ok (.iconst 5, 1) := by decide +kernel
theorem dL_minute_321 : decode cL_minute 321 = .ok (.iload 9, 2) := by decide +kernel
theorem dL_minute_323 : decode cL_minute 323 = .ok (.imul, 1) := by decide +kernel
theorem dL_minute_324 : decode cL_minute 324 = .ok (.iload 10, 2) := by decide +kernel
theorem dL_minute_326 : decode cL_minute 326 = .ok (.iadd, 1) := by decide +kernel
theorem dL_minute_327 : decode cL_minute 327 = .ok (.dup2, 1) := by decide +kernel
theorem dL_minute_328 : decode cL_minute 328 = .ok (.laload, 1) := by decide +kernel
theorem dL_minute_329 : decode cL_minute 329 = .ok (.iload 11, 2) := by decide +kernel
theorem dL_minute_331 : decode cL_minute 331 = .ok (.i2l, 1) := by decide +kernel
theorem dL_minute_332 : decode cL_minute 332 = .ok (.ladd, 1) := by decide +kernel
theorem dL_minute_333 : decode cL_minute 333 = .ok (.lastore, 1) := by decide +kernel
theorem dL_minute_334 : decode cL_minute 334 = .ok (.aload_n 3, 1) := by decide +kernel
theorem dL_minute_335 : decode cL_minute 335 = .ok (.iconst 5, 1) := by decide +kernel
theorem dL_minute_336 : decode cL_minute 336 = .ok (.iload 10, 2) := by decide +kernel
theorem dL_minute_338 : decode cL_minute 338 = .ok (.imul, 1) := by decide +kernel
theorem dL_minute_339 : decode cL_minute 339 = .ok (.iload 9, 2) := by decide +kernel
theorem dL_minute_341 : decode cL_minute 341 = .ok (.iadd, 1) := by decide +kernel
theorem dL_minute_342 : decode cL_minute 342 = .ok (.dup2, 1) := by decide +kernel
theorem dL_minute_343 : decode cL_minute 343 = .ok (.laload, 1) := by decide +kernel
theorem dL_minute_344 : decode cL_minute 344 = .ok (.iload 11, 2) := by decide +kernel
theorem dL_minute_346 : decode cL_minute 346 = .ok (.i2l, 1) := by decide +kernel
theorem dL_minute_347 : decode cL_minute 347 = .ok (.lsub, 1) := by decide +kernel
theorem dL_minute_348 : decode cL_minute 348 = .ok (.lastore, 1) := by decide +kernel
theorem dL_minute_349 : decode cL_minute 349 = .ok (.iinc 8 1, 3) := by decide +kernel
theorem dL_minute_352 : decode cL_minute 352 = .ok (.goto (-101), 3) := by decide +kernel
theorem dL_minute_355 : decode cL_minute 355 = .ok (.aload 5, 2) := by decide +kernel
theorem dL_minute_357 : decode cL_minute 357 = .ok (.iload_n 0, 1) := by decide +kernel
theorem dL_minute_358 : decode cL_minute 358 = .ok (.iconst 5, 1) := by decide +kernel
theorem dL_minute_359 : decode cL_minute 359 = .ok (.iadd, 1) := by decide +kernel
theorem dL_minute_360 : decode cL_minute 360 = .ok (.dup2, 1) := by decide +kernel
theorem dL_minute_361 : decode cL_minute 361 = .ok (.iaload, 1) := by decide +kernel
theorem dL_minute_362 : decode cL_minute 362 = .ok (.iconst 1, 1) := by decide +kernel
theorem dL_minute_363 : decode cL_minute 363 = .ok (.iadd, 1) := by decide +kernel
theorem dL_minute_364 : decode cL_minute 364 = .ok (.iastore, 1) := by decide +kernel
theorem dL_minute_365 : decode cL_minute 365 = .ok (.return_, 1) := by decide +kernel
theorem dL_refused_0 : decode cL_refused 0 = .ok (.iload_n 1, 1) := by decide +kernel
theorem dL_refused_1 : decode cL_refused 1 = .ok (.ifCond .ne 13, 3) := by decide +kernel
theorem dL_refused_4 : decode cL_refused 4 = .ok (.aload_n 0, 1) := by decide +kernel
theorem dL_refused_5 : decode cL_refused 5 = .ok (.iload_n 2, 1) := by decide +kernel
theorem dL_refused_6 : decode cL_refused 6 = .ok (.iload_n 3, 1) := by decide +kernel
theorem dL_refused_7 : decode cL_refused 7 = .ok (.invokevirtual 25, 3) := by decide +kernel
theorem dL_refused_10 : decode cL_refused 10 = .ok (.i2l, 1) := by decide +kernel
theorem dL_refused_11 : decode cL_refused 11 = .ok (.goto 100, 3) := by decide +kernel
theorem dL_refused_14 : decode cL_refused 14 = .ok (.iload_n 1, 1) := by decide +kernel
theorem dL_refused_15 : decode cL_refused 15 = .ok (.iconst 1, 1) := by decide +kernel
theorem dL_refused_16 : decode cL_refused 16 = .ok (.if_icmp .ne 12, 3) := by decide +kernel
theorem dL_refused_19 : decode cL_refused 19 = .ok (.aload_n 0, 1) := by decide +kernel
theorem dL_refused_20 : decode cL_refused 20 = .ok (.iload_n 2, 1) := by decide +kernel
theorem dL_refused_21 : decode cL_refused 21 = .ok (.invokevirtual 31, 3) := by decide +kernel
theorem dL_refused_24 : decode cL_refused 24 = .ok (.i2l, 1) := by decide +kernel
theorem dL_refused_25 : decode cL_refused 25 = .ok (.goto 86, 3) := by decide +kernel
theorem dL_refused_28 : decode cL_refused 28 = .ok (.iload_n 1, 1) := by decide +kernel
theorem dL_refused_29 : decode cL_refused 29 = .ok (.iconst 2, 1) := by decide +kernel
theorem dL_refused_30 : decode cL_refused 30 = .ok (.if_icmp .ne 12, 3) := by decide +kernel
theorem dL_refused_33 : decode cL_refused 33 = .ok (.aload_n 0, 1) := by decide +kernel
theorem dL_refused_34 : decode cL_refused 34 = .ok (.iload_n 2, 1) := by decide +kernel
theorem dL_refused_35 : decode cL_refused 35 = .ok (.iload_n 3, 1) := by decide +kernel
theorem dL_refused_36 : decode cL_refused 36 = .ok (.invokevirtual 34, 3) := by decide +kernel
theorem dL_refused_39 : decode cL_refused 39 = .ok (.goto 72, 3) := by decide +kernel
theorem dL_refused_42 : decode cL_refused 42 = .ok (.iload_n 1, 1) := by decide +kernel
theorem dL_refused_43 : decode cL_refused 43 = .ok (.iconst 3, 1) := by decide +kernel
theorem dL_refused_44 : decode cL_refused 44 = .ok (.if_icmp .ne 13, 3) := by decide +kernel
theorem dL_refused_47 : decode cL_refused 47 = .ok (.aload_n 0, 1) := by decide +kernel
theorem dL_refused_48 : decode cL_refused 48 = .ok (.iload_n 2, 1) := by decide +kernel
theorem dL_refused_49 : decode cL_refused 49 = .ok (.iload_n 3, 1) := by decide +kernel
theorem dL_refused_50 : decode cL_refused 50 = .ok (.invokevirtual 38, 3) := by decide +kernel
theorem dL_refused_53 : decode cL_refused 53 = .ok (.i2l, 1) := by decide +kernel
theorem dL_refused_54 : decode cL_refused 54 = .ok (.goto 57, 3) := by decide +kernel
theorem dL_refused_57 : decode cL_refused 57 = .ok (.iload_n 1, 1) := by decide +kernel
theorem dL_refused_58 : decode cL_refused 58 = .ok (.iconst 4, 1) := by decide +kernel
theorem dL_refused_59 : decode cL_refused 59 = .ok (.if_icmp .ne 13, 3) := by decide +kernel
theorem dL_refused_62 : decode cL_refused 62 = .ok (.aload_n 0, 1) := by decide +kernel
theorem dL_refused_63 : decode cL_refused 63 = .ok (.iload_n 2, 1) := by decide +kernel
theorem dL_refused_64 : decode cL_refused 64 = .ok (.iload_n 3, 1) := by decide +kernel
theorem dL_refused_65 : decode cL_refused 65 = .ok (.invokevirtual 41, 3) := by decide +kernel
theorem dL_refused_68 : decode cL_refused 68 = .ok (.i2l, 1) := by decide +kernel
theorem dL_refused_69 : decode cL_refused 69 = .ok (.goto 42, 3) := by decide +kernel
theorem dL_refused_72 : decode cL_refused 72 = .ok (.iload_n 1, 1) := by decide +kernel
theorem dL_refused_73 : decode cL_refused 73 = .ok (.iconst 5, 1) := by decide +kernel
theorem dL_refused_74 : decode cL_refused 74 = .ok (.if_icmp .ne 13, 3) := by decide +kernel
theorem dL_refused_77 : decode cL_refused 77 = .ok (.aload_n 0, 1) := by decide +kernel
theorem dL_refused_78 : decode cL_refused 78 = .ok (.iload_n 2, 1) := by decide +kernel
theorem dL_refused_79 : decode cL_refused 79 = .ok (.iload_n 3, 1) := by decide +kernel
theorem dL_refused_80 : decode cL_refused 80 = .ok (.invokevirtual 44, 3) := by decide +kernel
theorem dL_refused_83 : decode cL_refused 83 = .ok (.i2l, 1) := by decide +kernel
theorem dL_refused_84 : decode cL_refused 84 = .ok (.goto 27, 3) := by decide +kernel
theorem dL_refused_87 : decode cL_refused 87 = .ok (.iload_n 1, 1) := by decide +kernel
theorem dL_refused_88 : decode cL_refused 88 = .ok (.bipush 6, 2) := by decide +kernel
theorem dL_refused_90 : decode cL_refused 90 = .ok (.if_icmp .ne 14, 3) := by decide +kernel
theorem dL_refused_93 : decode cL_refused 93 = .ok (.aload_n 0, 1) := by decide +kernel
theorem dL_refused_94 : decode cL_refused 94 = .ok (.iload_n 2, 1) := by decide +kernel
theorem dL_refused_95 : decode cL_refused 95 = .ok (.iload_n 3, 1) := by decide +kernel
theorem dL_refused_96 : decode cL_refused 96 = .ok (.iconst 0, 1) := by decide +kernel
theorem dL_refused_97 : decode cL_refused 97 = .ok (.invokevirtual 47, 3) := by decide +kernel
theorem dL_refused_100 : decode cL_refused 100 = .ok (.i2l, 1) := by decide +kernel
theorem dL_refused_101 : decode cL_refused 101 = .ok (.goto 10, 3) := by decide +kernel
theorem dL_refused_104 : decode cL_refused 104 = .ok (.aload_n 0, 1) := by decide +kernel
theorem dL_refused_105 : decode cL_refused 105 = .ok (.iload_n 2, 1) := by decide +kernel
theorem dL_refused_106 : decode cL_refused 106 = .ok (.iload_n 3, 1) := by decide +kernel
theorem dL_refused_107 : decode cL_refused 107 = .ok (.invokevirtual 50, 3) := by decide +kernel
theorem dL_refused_110 : decode cL_refused 110 = .ok (.i2l, 1) := by decide +kernel
theorem dL_refused_111 : decode cL_refused 111 = .ok (.l2i, 1) := by decide +kernel
theorem dL_refused_112 : decode cL_refused 112 = .ok (.iconst 0, 1) := by decide +kernel
theorem dL_refused_113 : decode cL_refused 113 = .ok (.imul, 1) := by decide +kernel
theorem dL_refused_114 : decode cL_refused 114 = .ok (.ireturn, 1) := by decide +kernel
theorem dL_refused_115 : decode cL_refused 115 = .ok (.astore 4, 2) := by decide +kernel
theorem dL_refused_117 : decode cL_refused 117 = .ok (.iconst 1, 1) := by decide +kernel
theorem dL_refused_118 : decode cL_refused 118 = .ok (.ireturn, 1) := by decide +kernel
theorem dL_refused_119 : decode cL_refused 119 = .ok (.astore 4, 2) := by decide +kernel
theorem dL_refused_121 : decode cL_refused 121 = .ok (.iconst 2, 1) := by decide +kernel
theorem dL_refused_122 : decode cL_refused 122 = .ok (.ireturn, 1) := by decide +kernel
theorem dL_refused_123 : decode cL_refused 123 = .ok (.astore 4, 2) := by decide +kernel
theorem dL_refused_125 : decode cL_refused 125 = .ok (.iconst 3, 1) := by decide +kernel
theorem dL_refused_126 : decode cL_refused 126 = .ok (.ireturn, 1) := by decide +kernel
theorem dL_same_0 : decode cL_same 0 = .ok (.iconst 0, 1) := by decide +kernel
theorem dL_same_1 : decode cL_same 1 = .ok (.istore 8, 2) := by decide +kernel
theorem dL_same_3 : decode cL_same 3 = .ok (.iload 8, 2) := by decide +kernel
theorem dL_same_5 : decode cL_same 5 = .ok (.aload 6, 2) := by decide +kernel
theorem dL_same_7 : decode cL_same 7 = .ok (.iconst 0, 1) := by decide +kernel
theorem dL_same_8 : decode cL_same 8 = .ok (.iaload, 1) := by decide +kernel
theorem dL_same_9 : decode cL_same 9 = .ok (.if_icmp .ge 85, 3) := by decide +kernel
theorem dL_same_12 : decode cL_same 12 = .ok (.aload_n 0, 1) := by decide +kernel
theorem dL_same_13 : decode cL_same 13 = .ok (.iload 8, 2) := by decide +kernel
theorem dL_same_15 : decode cL_same 15 = .ok (.invokevirtual 59, 3) := by decide +kernel
theorem dL_same_18 : decode cL_same 18 = .ok (.aload 4, 2) := by decide +kernel
theorem dL_same_20 : decode cL_same 20 = .ok (.iconst 4, 1) := by decide +kernel
theorem dL_same_21 : decode cL_same 21 = .ok (.iload 8, 2) := by decide +kernel
theorem dL_same_23 : decode cL_same 23 = .ok (.imul, 1) := by decide +kernel
theorem dL_same_24 : decode cL_same 24 = .ok (.iconst 1, 1) := by decide +kernel
theorem dL_same_25 : decode cL_same 25 = .ok (.iadd, 1) := by decide +kernel
theorem dL_same_26 : decode cL_same 26 = .ok (.iaload, 1) := by decide +kernel
theorem dL_same_27 : decode cL_same 27 = .ok (.if_icmp .ne 59, 3) := by decide +kernel
theorem dL_same_30 : decode cL_same 30 = .ok (.aload_n 0, 1) := by decide +kernel
theorem dL_same_31 : decode cL_same 31 = .ok (.iload 8, 2) := by decide +kernel
theorem dL_same_33 : decode cL_same 33 = .ok (.invokevirtual 62, 3) := by decide +kernel
theorem dL_same_36 : decode cL_same 36 = .ok (.aload 4, 2) := by decide +kernel
theorem dL_same_38 : decode cL_same 38 = .ok (.iconst 4, 1) := by decide +kernel
theorem dL_same_39 : decode cL_same 39 = .ok (.iload 8, 2) := by decide +kernel
theorem dL_same_41 : decode cL_same 41 = .ok (.imul, 1) := by decide +kernel
theorem dL_same_42 : decode cL_same 42 = .ok (.iconst 2, 1) := by decide +kernel
theorem dL_same_43 : decode cL_same 43 = .ok (.iadd, 1) := by decide +kernel
theorem dL_same_44 : decode cL_same 44 = .ok (.iaload, 1) := by decide +kernel
theorem dL_same_45 : decode cL_same 45 = .ok (.if_icmp .ne 41, 3) := by decide +kernel
theorem dL_same_48 : decode cL_same 48 = .ok (.aload_n 0, 1) := by decide +kernel
theorem dL_same_49 : decode cL_same 49 = .ok (.iload 8, 2) := by decide +kernel
theorem dL_same_51 : decode cL_same 51 = .ok (.iconst 0, 1) := by decide +kernel
theorem dL_same_52 : decode cL_same 52 = .ok (.invokevirtual 50, 3) := by decide +kernel
theorem dL_same_55 : decode cL_same 55 = .ok (.aload 4, 2) := by decide +kernel
theorem dL_same_57 : decode cL_same 57 = .ok (.iconst 4, 1) := by decide +kernel
theorem dL_same_58 : decode cL_same 58 = .ok (.iload 8, 2) := by decide +kernel
theorem dL_same_60 : decode cL_same 60 = .ok (.imul, 1) := by decide +kernel
theorem dL_same_61 : decode cL_same 61 = .ok (.iaload, 1) := by decide +kernel
theorem dL_same_62 : decode cL_same 62 = .ok (.if_icmp .ne 24, 3) := by decide +kernel
theorem dL_same_65 : decode cL_same 65 = .ok (.aload_n 0, 1) := by decide +kernel
theorem dL_same_66 : decode cL_same 66 = .ok (.bipush 7, 2) := by decide +kernel
theorem dL_same_68 : decode cL_same 68 = .ok (.iload 8, 2) := by decide +kernel
theorem dL_same_70 : decode cL_same 70 = .ok (.aload 4, 2) := by decide +kernel
theorem dL_same_72 : decode cL_same 72 = .ok (.iconst 4, 1) := by decide +kernel
theorem dL_same_73 : decode cL_same 73 = .ok (.iload 8, 2) := by decide +kernel
theorem dL_same_75 : decode cL_same 75 = .ok (.imul, 1) := by decide +kernel
theorem dL_same_76 : decode cL_same 76 = .ok (.iconst 3, 1) := by decide +kernel
theorem dL_same_77 : decode cL_same 77 = .ok (.iadd, 1) := by decide +kernel
theorem dL_same_78 : decode cL_same 78 = .ok (.iaload, 1) := by decide +kernel
theorem dL_same_79 : decode cL_same 79 = .ok (.invokestatic 65, 3) := by decide +kernel
theorem dL_same_82 : decode cL_same 82 = .ok (.iconst 1, 1) := by decide +kernel
theorem dL_same_83 : decode cL_same 83 = .ok (.if_icmp .eq 5, 3) := by decide +kernel
theorem dL_same_86 : decode cL_same 86 = .ok (.iconst 0, 1) := by decide +kernel
theorem dL_same_87 : decode cL_same 87 = .ok (.ireturn, 1) := by decide +kernel
theorem dL_same_88 : decode cL_same 88 = .ok (.iinc 8 1, 3) := by decide +kernel
theorem dL_same_91 : decode cL_same 91 = .ok (.goto (-88), 3) := by decide +kernel
theorem dL_same_94 : decode cL_same 94 = .ok (.iconst 0, 1) := by decide +kernel
theorem dL_same_95 : decode cL_same 95 = .ok (.istore 8, 2) := by decide +kernel
theorem dL_same_97 : decode cL_same 97 = .ok (.iload 8, 2) := by decide +kernel
theorem dL_same_99 : decode cL_same 99 = .ok (.aload 6, 2) := by decide +kernel
theorem dL_same_101 : decode cL_same 101 = .ok (.iconst 1, 1) := by decide +kernel
theorem dL_same_102 : decode cL_same 102 = .ok (.iaload, 1) := by decide +kernel
theorem dL_same_103 : decode cL_same 103 = .ok (.if_icmp .ge 139, 3) := by decide +kernel
theorem dL_same_106 : decode cL_same 106 = .ok (.aload 5, 2) := by decide +kernel
theorem dL_same_108 : decode cL_same 108 = .ok (.bipush 8, 2) := by decide +kernel
theorem dL_same_110 : decode cL_same 110 = .ok (.iload 8, 2) := by decide +kernel
theorem dL_same_112 : decode cL_same 112 = .ok (.imul, 1) := by decide +kernel
theorem dL_same_113 : decode cL_same 113 = .ok (.bipush 7, 2) := by decide +kernel
theorem dL_same_115 : decode cL_same 115 = .ok (.iadd, 1) := by decide +kernel
theorem dL_same_116 : decode cL_same 116 = .ok (.iaload, 1) := by decide +kernel
theorem dL_same_117 : decode cL_same 117 = .ok (.istore 9, 2) := by decide +kernel
theorem dL_same_119 : decode cL_same 119 = .ok (.iconst 0, 1) := by decide +kernel
theorem dL_same_120 : decode cL_same 120 = .ok (.istore 10, 2) := by decide +kernel
theorem dL_same_122 : decode cL_same 122 = .ok (.iload 9, 2) := by decide +kernel
theorem dL_same_124 : decode cL_same 124 = .ok (.iconst 3, 1) := by decide +kernel
theorem dL_same_125 : decode cL_same 125 = .ok (.iload 10, 2) := by decide +kernel
theorem dL_same_127 : decode cL_same 127 = .ok (.imul, 1) := by decide +kernel
theorem dL_same_128 : decode cL_same 128 = .ok (.ishr, 1) := by decide +kernel
theorem dL_same_129 : decode cL_same 129 = .ok (.ifCond .le 34, 3) := by decide +kernel
theorem dL_same_132 : decode cL_same 132 = .ok (.aload_n 0, 1) := by decide +kernel
theorem dL_same_133 : decode cL_same 133 = .ok (.iload 8, 2) := by decide +kernel
theorem dL_same_135 : decode cL_same 135 = .ok (.iload 10, 2) := by decide +kernel
theorem dL_same_137 : decode cL_same 137 = .ok (.invokevirtual 44, 3) := by decide +kernel
theorem dL_same_140 : decode cL_same 140 = .ok (.iload 9, 2) := by decide +kernel
theorem dL_same_142 : decode cL_same 142 = .ok (.iconst 3, 1) := by decide +kernel
theorem dL_same_143 : decode cL_same 143 = .ok (.iload 10, 2) := by decide +kernel
theorem dL_same_145 : decode cL_same 145 = .ok (.imul, 1) := by decide +kernel
theorem dL_same_146 : decode cL_same 146 = .ok (.ishr, 1) := by decide +kernel
theorem dL_same_147 : decode cL_same 147 = .ok (.bipush 7, 2) := by decide +kernel
theorem dL_same_149 : decode cL_same 149 = .ok (.iand, 1) := by decide +kernel
theorem dL_same_150 : decode cL_same 150 = .ok (.iconst 1, 1) := by decide +kernel
theorem dL_same_151 : decode cL_same 151 = .ok (.isub, 1) := by decide +kernel
theorem dL_same_152 : decode cL_same 152 = .ok (.if_icmp .eq 5, 3) := by decide +kernel
theorem dL_same_155 : decode cL_same 155 = .ok (.iconst 0, 1) := by decide +kernel
theorem dL_same_156 : decode cL_same 156 = .ok (.ireturn, 1) := by decide +kernel
theorem dL_same_157 : decode cL_same 157 = .ok (.iinc 10 1, 3) := by decide +kernel
theorem dL_same_160 : decode cL_same 160 = .ok (.goto (-38), 3) := by decide +kernel
theorem dL_same_163 : decode cL_same 163 = .ok (.aload_n 0, 1) := by decide +kernel
theorem dL_same_164 : decode cL_same 164 = .ok (.iload 8, 2) := by decide +kernel
theorem dL_same_166 : decode cL_same 166 = .ok (.invokevirtual 69, 3) := by decide +kernel
theorem dL_same_169 : decode cL_same 169 = .ok (.aload 5, 2) := by decide +kernel
theorem dL_same_171 : decode cL_same 171 = .ok (.bipush 8, 2) := by decide +kernel
theorem dL_same_173 : decode cL_same 173 = .ok (.iload 8, 2) := by decide +kernel
theorem dL_same_175 : decode cL_same 175 = .ok (.imul, 1) := by decide +kernel
theorem dL_same_176 : decode cL_same 176 = .ok (.iconst 2, 1) := by decide +kernel
theorem dL_same_177 : decode cL_same 177 = .ok (.iadd, 1) := by decide +kernel
theorem dL_same_178 : decode cL_same 178 = .ok (.iaload, 1) := by decide +kernel
theorem dL_same_179 : decode cL_same 179 = .ok (.if_icmp .ne 55, 3) := by decide +kernel
theorem dL_same_182 : decode cL_same 182 = .ok (.aload_n 0, 1) := by decide +kernel
theorem dL_same_183 : decode cL_same 183 = .ok (.iload 8, 2) := by decide +kernel
theorem dL_same_185 : decode cL_same 185 = .ok (.invokevirtual 72, 3) := by decide +kernel
theorem dL_same_188 : decode cL_same 188 = .ok (.aload 5, 2) := by decide +kernel
theorem dL_same_190 : decode cL_same 190 = .ok (.bipush 8, 2) := by decide +kernel
theorem dL_same_192 : decode cL_same 192 = .ok (.iload 8, 2) := by decide +kernel
theorem dL_same_194 : decode cL_same 194 = .ok (.imul, 1) := by decide +kernel
theorem dL_same_195 : decode cL_same 195 = .ok (.iconst 5, 1) := by decide +kernel
theorem dL_same_196 : decode cL_same 196 = .ok (.iadd, 1) := by decide +kernel
theorem dL_same_197 : decode cL_same 197 = .ok (.iaload, 1) := by decide +kernel
theorem dL_same_198 : decode cL_same 198 = .ok (.if_icmp .ne 36, 3) := by decide +kernel
theorem dL_same_201 : decode cL_same 201 = .ok (.aload_n 0, 1) := by decide +kernel
theorem dL_same_202 : decode cL_same 202 = .ok (.iload 8, 2) := by decide +kernel
theorem dL_same_204 : decode cL_same 204 = .ok (.invokevirtual 75, 3) := by decide +kernel
theorem dL_same_207 : decode cL_same 207 = .ok (.aload 5, 2) := by decide +kernel
theorem dL_same_209 : decode cL_same 209 = .ok (.bipush 8, 2) := by decide +kernel
theorem dL_same_211 : decode cL_same 211 = .ok (.iload 8, 2) := by decide +kernel
theorem dL_same_213 : decode cL_same 213 = .ok (.imul, 1) := by decide +kernel
theorem dL_same_214 : decode cL_same 214 = .ok (.bipush 6, 2) := by decide +kernel
theorem dL_same_216 : decode cL_same 216 = .ok (.iadd, 1) := by decide +kernel
theorem dL_same_217 : decode cL_same 217 = .ok (.iaload, 1) := by decide +kernel
theorem dL_same_218 : decode cL_same 218 = .ok (.if_icmp .ne 16, 3) := by decide +kernel
theorem dL_same_221 : decode cL_same 221 = .ok (.aload_n 0, 1) := by decide +kernel
theorem dL_same_222 : decode cL_same 222 = .ok (.iconst 5, 1) := by decide +kernel
theorem dL_same_223 : decode cL_same 223 = .ok (.iload 8, 2) := by decide +kernel
theorem dL_same_225 : decode cL_same 225 = .ok (.iload 10, 2) := by decide +kernel
theorem dL_same_227 : decode cL_same 227 = .ok (.invokestatic 65, 3) := by decide +kernel
theorem dL_same_230 : decode cL_same 230 = .ok (.iconst 1, 1) := by decide +kernel
theorem dL_same_231 : decode cL_same 231 = .ok (.if_icmp .eq 5, 3) := by decide +kernel
theorem dL_same_234 : decode cL_same 234 = .ok (.iconst 0, 1) := by decide +kernel
theorem dL_same_235 : decode cL_same 235 = .ok (.ireturn, 1) := by decide +kernel
theorem dL_same_236 : decode cL_same 236 = .ok (.iinc 8 1, 3) := by decide +kernel
theorem dL_same_239 : decode cL_same 239 = .ok (.goto (-142), 3) := by decide +kernel
theorem dL_same_242 : decode cL_same 242 = .ok (.lconst 0, 1) := by decide +kernel
theorem dL_same_243 : decode cL_same 243 = .ok (.lstore 8, 2) := by decide +kernel
theorem dL_same_245 : decode cL_same 245 = .ok (.iconst 0, 1) := by decide +kernel
theorem dL_same_246 : decode cL_same 246 = .ok (.istore 10, 2) := by decide +kernel
theorem dL_same_248 : decode cL_same 248 = .ok (.iload 10, 2) := by decide +kernel
theorem dL_same_250 : decode cL_same 250 = .ok (.iconst 5, 1) := by decide +kernel
theorem dL_same_251 : decode cL_same 251 = .ok (.if_icmp .ge 219, 3) := by decide +kernel
theorem dL_same_254 : decode cL_same 254 = .ok (.iconst 5, 1) := by decide +kernel
theorem dL_same_255 : decode cL_same 255 = .ok (.iload 7, 2) := by decide +kernel
theorem dL_same_257 : decode cL_same 257 = .ok (.imul, 1) := by decide +kernel
theorem dL_same_258 : decode cL_same 258 = .ok (.iload 10, 2) := by decide +kernel
theorem dL_same_260 : decode cL_same 260 = .ok (.iadd, 1) := by decide +kernel
theorem dL_same_261 : decode cL_same 261 = .ok (.istore 11, 2) := by decide +kernel
theorem dL_same_263 : decode cL_same 263 = .ok (.iload 7, 2) := by decide +kernel
theorem dL_same_265 : decode cL_same 265 = .ok (.iload 10, 2) := by decide +kernel
theorem dL_same_267 : decode cL_same 267 = .ok (.aload_n 1, 1) := by decide +kernel
theorem dL_same_268 : decode cL_same 268 = .ok (.aload_n 3, 1) := by decide +kernel
theorem dL_same_269 : decode cL_same 269 = .ok (.invokestatic 21, 3) := by decide +kernel
theorem dL_same_272 : decode cL_same 272 = .ok (.istore 12, 2) := by decide +kernel
theorem dL_same_274 : decode cL_same 274 = .ok (.lload 8, 2) := by decide +kernel
theorem dL_same_276 : decode cL_same 276 = .ok (.aload_n 3, 1) := by decide +kernel
theorem dL_same_277 : decode cL_same 277 = .ok (.iload 11, 2) := by decide +kernel
theorem dL_same_279 : decode cL_same 279 = .ok (.laload, 1) := by decide +kernel
theorem dL_same_280 : decode cL_same 280 = .ok (.lsub, 1) := by decide +kernel
theorem dL_same_281 : decode cL_same 281 = .ok (.lstore 8, 2) := by decide +kernel
theorem dL_same_283 : decode cL_same 283 = .ok (.aload_n 0, 1) := by decide +kernel
theorem dL_same_284 : decode cL_same 284 = .ok (.iload 7, 2) := by decide +kernel
theorem dL_same_286 : decode cL_same 286 = .ok (.iload 10, 2) := by decide +kernel
theorem dL_same_288 : decode cL_same 288 = .ok (.invokevirtual 78, 3) := by decide +kernel
theorem dL_same_291 : decode cL_same 291 = .ok (.aload_n 3, 1) := by decide +kernel
theorem dL_same_292 : decode cL_same 292 = .ok (.iload 11, 2) := by decide +kernel
theorem dL_same_294 : decode cL_same 294 = .ok (.laload, 1) := by decide +kernel
theorem dL_same_295 : decode cL_same 295 = .ok (.lcmp, 1) := by decide +kernel
theorem dL_same_296 : decode cL_same 296 = .ok (.ifCond .ne 82, 3) := by decide +kernel
theorem dL_same_299 : decode cL_same 299 = .ok (.aload_n 0, 1) := by decide +kernel
theorem dL_same_300 : decode cL_same 300 = .ok (.iload 10, 2) := by decide +kernel
theorem dL_same_302 : decode cL_same 302 = .ok (.iload 7, 2) := by decide +kernel
theorem dL_same_304 : decode cL_same 304 = .ok (.invokevirtual 78, 3) := by decide +kernel
theorem dL_same_307 : decode cL_same 307 = .ok (.aload_n 3, 1) := by decide +kernel
theorem dL_same_308 : decode cL_same 308 = .ok (.iload 11, 2) := by decide +kernel
theorem dL_same_310 : decode cL_same 310 = .ok (.laload, 1) := by decide +kernel
theorem dL_same_311 : decode cL_same 311 = .ok (.lneg, 1) := by decide +kernel
theorem dL_same_312 : decode cL_same 312 = .ok (.lcmp, 1) := by decide +kernel
theorem dL_same_313 : decode cL_same 313 = .ok (.ifCond .ne 65, 3) := by decide +kernel
theorem dL_same_316 : decode cL_same 316 = .ok (.aload_n 0, 1) := by decide +kernel
theorem dL_same_317 : decode cL_same 317 = .ok (.iload 7, 2) := by decide +kernel
theorem dL_same_319 : decode cL_same 319 = .ok (.iload 10, 2) := by decide +kernel
theorem dL_same_321 : decode cL_same 321 = .ok (.invokevirtual 81, 3) := by decide +kernel
theorem dL_same_324 : decode cL_same 324 = .ok (.aload_n 2, 1) := by decide +kernel
theorem dL_same_325 : decode cL_same 325 = .ok (.iload 11, 2) := by decide +kernel
theorem dL_same_327 : decode cL_same 327 = .ok (.laload, 1) := by decide +kernel
theorem dL_same_328 : decode cL_same 328 = .ok (.lcmp, 1) := by decide +kernel
theorem dL_same_329 : decode cL_same 329 = .ok (.ifCond .ne 49, 3) := by decide +kernel
theorem dL_same_332 : decode cL_same 332 = .ok (.aload_n 0, 1) := by decide +kernel
theorem dL_same_333 : decode cL_same 333 = .ok (.iload 7, 2) := by decide +kernel
theorem dL_same_335 : decode cL_same 335 = .ok (.iload 10, 2) := by decide +kernel
theorem dL_same_337 : decode cL_same 337 = .ok (.invokevirtual 84, 3) := by decide +kernel
theorem dL_same_340 : decode cL_same 340 = .ok (.iload 7, 2) := by decide +kernel
theorem dL_same_342 : decode cL_same 342 = .ok (.iload 10, 2) := by decide +kernel
theorem dL_same_344 : decode cL_same 344 = .ok (.aload_n 1, 1) := by decide +kernel
theorem dL_same_345 : decode cL_same 345 = .ok (.aload_n 3, 1) := by decide +kernel
theorem dL_same_346 : decode cL_same 346 = .ok (.invokestatic 11, 3) := by decide +kernel
theorem dL_same_349 : decode cL_same 349 = .ok (.if_icmp .ne 29, 3) := by decide +kernel
theorem dL_same_352 : decode cL_same 352 = .ok (.aload_n 0, 1) := by decide +kernel
theorem dL_same_353 : decode cL_same 353 = .ok (.iload 7, 2) := by decide +kernel
theorem dL_same_355 : decode cL_same 355 = .ok (.iload 10, 2) := by decide +kernel
theorem dL_same_357 : decode cL_same 357 = .ok (.invokevirtual 88, 3) := by decide +kernel
theorem dL_same_360 : decode cL_same 360 = .ok (.iload 12, 2) := by decide +kernel
theorem dL_same_362 : decode cL_same 362 = .ok (.ifCond .ne 7, 3) := by decide +kernel
theorem dL_same_365 : decode cL_same 365 = .ok (.iconst (-1), 1) := by decide +kernel
theorem dL_same_366 : decode cL_same 366 = .ok (.goto 9, 3) := by decide +kernel
theorem dL_same_369 : decode cL_same 369 = .ok (.iload 12, 2) := by decide +kernel
theorem dL_same_371 : decode cL_same 371 = .ok (.aload_n 1, 1) := by decide +kernel
theorem dL_same_372 : decode cL_same 372 = .ok (.invokestatic 91, 3) := by decide +kernel
theorem dL_same_375 : decode cL_same 375 = .ok (.if_icmp .eq 5, 3) := by decide +kernel
theorem dL_same_378 : decode cL_same 378 = .ok (.iconst 0, 1) := by decide +kernel
theorem dL_same_379 : decode cL_same 379 = .ok (.ireturn, 1) := by decide +kernel
theorem dL_same_380 : decode cL_same 380 = .ok (.iload 12, 2) := by decide +kernel
theorem dL_same_382 : decode cL_same 382 = .ok (.ifCond .ne 20, 3) := by decide +kernel
theorem dL_same_385 : decode cL_same 385 = .ok (.aload_n 0, 1) := by decide +kernel
theorem dL_same_386 : decode cL_same 386 = .ok (.bipush 6, 2) := by decide +kernel
theorem dL_same_388 : decode cL_same 388 = .ok (.iload 7, 2) := by decide +kernel
theorem dL_same_390 : decode cL_same 390 = .ok (.iload 10, 2) := by decide +kernel
theorem dL_same_392 : decode cL_same 392 = .ok (.invokestatic 65, 3) := by decide +kernel
theorem dL_same_395 : decode cL_same 395 = .ok (.iconst 1, 1) := by decide +kernel
theorem dL_same_396 : decode cL_same 396 = .ok (.if_icmp .eq 22, 3) := by decide +kernel
theorem dL_same_399 : decode cL_same 399 = .ok (.goto 17, 3) := by decide +kernel
theorem dL_same_402 : decode cL_same 402 = .ok (.aload_n 0, 1) := by decide +kernel
theorem dL_same_403 : decode cL_same 403 = .ok (.iload 7, 2) := by decide +kernel
theorem dL_same_405 : decode cL_same 405 = .ok (.iload 10, 2) := by decide +kernel
theorem dL_same_407 : decode cL_same 407 = .ok (.iconst 0, 1) := by decide +kernel
theorem dL_same_408 : decode cL_same 408 = .ok (.invokevirtual 47, 3) := by decide +kernel
theorem dL_same_411 : decode cL_same 411 = .ok (.iload 7, 2) := by decide +kernel
theorem dL_same_413 : decode cL_same 413 = .ok (.if_icmp .eq 5, 3) := by decide +kernel
theorem dL_same_416 : decode cL_same 416 = .ok (.iconst 0, 1) := by decide +kernel
theorem dL_same_417 : decode cL_same 417 = .ok (.ireturn, 1) := by decide +kernel
theorem dL_same_418 : decode cL_same 418 = .ok (.iconst 0, 1) := by decide +kernel
theorem dL_same_419 : decode cL_same 419 = .ok (.istore 13, 2) := by decide +kernel
theorem dL_same_421 : decode cL_same 421 = .ok (.iload 12, 2) := by decide +kernel
theorem dL_same_423 : decode cL_same 423 = .ok (.iconst 3, 1) := by decide +kernel
theorem dL_same_424 : decode cL_same 424 = .ok (.iload 13, 2) := by decide +kernel
theorem dL_same_426 : decode cL_same 426 = .ok (.imul, 1) := by decide +kernel
theorem dL_same_427 : decode cL_same 427 = .ok (.ishr, 1) := by decide +kernel
theorem dL_same_428 : decode cL_same 428 = .ok (.ifCond .le 36, 3) := by decide +kernel
theorem dL_same_431 : decode cL_same 431 = .ok (.aload_n 0, 1) := by decide +kernel
theorem dL_same_432 : decode cL_same 432 = .ok (.iload 7, 2) := by decide +kernel
theorem dL_same_434 : decode cL_same 434 = .ok (.iload 10, 2) := by decide +kernel
theorem dL_same_436 : decode cL_same 436 = .ok (.iload 13, 2) := by decide +kernel
theorem dL_same_438 : decode cL_same 438 = .ok (.invokevirtual 47, 3) := by decide +kernel
theorem dL_same_441 : decode cL_same 441 = .ok (.iload 12, 2) := by decide +kernel
theorem dL_same_443 : decode cL_same 443 = .ok (.iconst 3, 1) := by decide +kernel
theorem dL_same_444 : decode cL_same 444 = .ok (.iload 13, 2) := by decide +kernel
theorem dL_same_446 : decode cL_same 446 = .ok (.imul, 1) := by decide +kernel
theorem dL_same_447 : decode cL_same 447 = .ok (.ishr, 1) := by decide +kernel
theorem dL_same_448 : decode cL_same 448 = .ok (.bipush 7, 2) := by decide +kernel
theorem dL_same_450 : decode cL_same 450 = .ok (.iand, 1) := by decide +kernel
theorem dL_same_451 : decode cL_same 451 = .ok (.iconst 1, 1) := by decide +kernel
theorem dL_same_452 : decode cL_same 452 = .ok (.isub, 1) := by decide +kernel
theorem dL_same_453 : decode cL_same 453 = .ok (.if_icmp .eq 5, 3) := by decide +kernel
theorem dL_same_456 : decode cL_same 456 = .ok (.iconst 0, 1) := by decide +kernel
theorem dL_same_457 : decode cL_same 457 = .ok (.ireturn, 1) := by decide +kernel
theorem dL_same_458 : decode cL_same 458 = .ok (.iinc 13 1, 3) := by decide +kernel
theorem dL_same_461 : decode cL_same 461 = .ok (.goto (-40), 3) := by decide +kernel
theorem dL_same_464 : decode cL_same 464 = .ok (.iinc 10 1, 3) := by decide +kernel
theorem dL_same_467 : decode cL_same 467 = .ok (.goto (-219), 3) := by decide +kernel
theorem dL_same_470 : decode cL_same 470 = .ok (.aload_n 0, 1) := by decide +kernel
theorem dL_same_471 : decode cL_same 471 = .ok (.iload 7, 2) := by decide +kernel
theorem dL_same_473 : decode cL_same 473 = .ok (.invokevirtual 94, 3) := by decide +kernel
theorem dL_same_476 : decode cL_same 476 = .ok (.lload 8, 2) := by decide +kernel
theorem dL_same_478 : decode cL_same 478 = .ok (.lcmp, 1) := by decide +kernel
theorem dL_same_479 : decode cL_same 479 = .ok (.ifCond .ne 7, 3) := by decide +kernel
theorem dL_same_482 : decode cL_same 482 = .ok (.iconst 1, 1) := by decide +kernel
theorem dL_same_483 : decode cL_same 483 = .ok (.goto 4, 3) := by decide +kernel
theorem dL_same_486 : decode cL_same 486 = .ok (.iconst 0, 1) := by decide +kernel
theorem dL_same_487 : decode cL_same 487 = .ok (.ireturn, 1) := by decide +kernel
theorem dL_law_0 : decode cL_law 0 = .ok (.new 26, 3) := by decide +kernel
theorem dL_law_3 : decode cL_law 3 = .ok (.dup, 1) := by decide +kernel
theorem dL_law_4 : decode cL_law 4 = .ok (.invokespecial 98, 3) := by decide +kernel
theorem dL_law_7 : decode cL_law 7 = .ok (.astore_n 1, 1) := by decide +kernel
theorem dL_law_8 : decode cL_law 8 = .ok (.bipush 50, 2) := by decide +kernel
theorem dL_law_10 : decode cL_law 10 = .ok (.newarray .int, 2) := by decide +kernel
theorem dL_law_12 : decode cL_law 12 = .ok (.astore_n 2, 1) := by decide +kernel
theorem dL_law_13 : decode cL_law 13 = .ok (.bipush 25, 2) := by decide +kernel
theorem dL_law_15 : decode cL_law 15 = .ok (.newarray .long, 2) := by decide +kernel
theorem dL_law_17 : decode cL_law 17 = .ok (.astore_n 3, 1) := by decide +kernel
theorem dL_law_18 : decode cL_law 18 = .ok (.bipush 25, 2) := by decide +kernel
theorem dL_law_20 : decode cL_law 20 = .ok (.newarray .long, 2) := by decide +kernel
theorem dL_law_22 : decode cL_law 22 = .ok (.astore 4, 2) := by decide +kernel
theorem dL_law_24 : decode cL_law 24 = .ok (.bipush 10, 2) := by decide +kernel
theorem dL_law_26 : decode cL_law 26 = .ok (.newarray .int, 2) := by decide +kernel
theorem dL_law_28 : decode cL_law 28 = .ok (.astore 5, 2) := by decide +kernel
theorem dL_law_30 : decode cL_law 30 = .ok (.bipush 32, 2) := by decide +kernel
theorem dL_law_32 : decode cL_law 32 = .ok (.newarray .int, 2) := by decide +kernel
theorem dL_law_34 : decode cL_law 34 = .ok (.astore 6, 2) := by decide +kernel
theorem dL_law_36 : decode cL_law 36 = .ok (.bipush 56, 2) := by decide +kernel
theorem dL_law_38 : decode cL_law 38 = .ok (.newarray .int, 2) := by decide +kernel
theorem dL_law_40 : decode cL_law 40 = .ok (.astore 7, 2) := by decide +kernel
theorem dL_law_42 : decode cL_law 42 = .ok (.iconst 2, 1) := by decide +kernel
theorem dL_law_43 : decode cL_law 43 = .ok (.newarray .int, 2) := by decide +kernel
theorem dL_law_45 : decode cL_law 45 = .ok (.astore 8, 2) := by decide +kernel
theorem dL_law_47 : decode cL_law 47 = .ok (.iconst 0, 1) := by decide +kernel
theorem dL_law_48 : decode cL_law 48 = .ok (.istore 9, 2) := by decide +kernel
theorem dL_law_50 : decode cL_law 50 = .ok (.iload 9, 2) := by decide +kernel
theorem dL_law_52 : decode cL_law 52 = .ok (.bipush 25, 2) := by decide +kernel
theorem dL_law_54 : decode cL_law 54 = .ok (.if_icmp .ge 16, 3) := by decide +kernel
theorem dL_law_57 : decode cL_law 57 = .ok (.aload_n 2, 1) := by decide +kernel
theorem dL_law_58 : decode cL_law 58 = .ok (.iconst 2, 1) := by decide +kernel
theorem dL_law_59 : decode cL_law 59 = .ok (.iload 9, 2) := by decide +kernel
theorem dL_law_61 : decode cL_law 61 = .ok (.imul, 1) := by decide +kernel
theorem dL_law_62 : decode cL_law 62 = .ok (.iconst (-1), 1) := by decide +kernel
theorem dL_law_63 : decode cL_law 63 = .ok (.iastore, 1) := by decide +kernel
theorem dL_law_64 : decode cL_law 64 = .ok (.iinc 9 1, 3) := by decide +kernel
theorem dL_law_67 : decode cL_law 67 = .ok (.goto (-17), 3) := by decide +kernel
theorem dL_law_70 : decode cL_law 70 = .ok (.iconst 0, 1) := by decide +kernel
theorem dL_law_71 : decode cL_law 71 = .ok (.istore 9, 2) := by decide +kernel
theorem dL_law_73 : decode cL_law 73 = .ok (.iload 9, 2) := by decide +kernel
theorem dL_law_75 : decode cL_law 75 = .ok (.iconst 5, 1) := by decide +kernel
theorem dL_law_76 : decode cL_law 76 = .ok (.if_icmp .ge 28, 3) := by decide +kernel
theorem dL_law_79 : decode cL_law 79 = .ok (.aload 5, 2) := by decide +kernel
theorem dL_law_81 : decode cL_law 81 = .ok (.iconst 2, 1) := by decide +kernel
theorem dL_law_82 : decode cL_law 82 = .ok (.iload 9, 2) := by decide +kernel
theorem dL_law_84 : decode cL_law 84 = .ok (.imul, 1) := by decide +kernel
theorem dL_law_85 : decode cL_law 85 = .ok (.iconst 1, 1) := by decide +kernel
theorem dL_law_86 : decode cL_law 86 = .ok (.iastore, 1) := by decide +kernel
theorem dL_law_87 : decode cL_law 87 = .ok (.aload 5, 2) := by decide +kernel
theorem dL_law_89 : decode cL_law 89 = .ok (.iconst 2, 1) := by decide +kernel
theorem dL_law_90 : decode cL_law 90 = .ok (.iload 9, 2) := by decide +kernel
theorem dL_law_92 : decode cL_law 92 = .ok (.imul, 1) := by decide +kernel
theorem dL_law_93 : decode cL_law 93 = .ok (.iconst 1, 1) := by decide +kernel
theorem dL_law_94 : decode cL_law 94 = .ok (.iadd, 1) := by decide +kernel
theorem dL_law_95 : decode cL_law 95 = .ok (.bipush 10, 2) := by decide +kernel
theorem dL_law_97 : decode cL_law 97 = .ok (.iastore, 1) := by decide +kernel
theorem dL_law_98 : decode cL_law 98 = .ok (.iinc 9 1, 3) := by decide +kernel
theorem dL_law_101 : decode cL_law 101 = .ok (.goto (-28), 3) := by decide +kernel
theorem dL_law_104 : decode cL_law 104 = .ok (.iconst 0, 1) := by decide +kernel
theorem dL_law_105 : decode cL_law 105 = .ok (.istore 9, 2) := by decide +kernel
theorem dL_law_107 : decode cL_law 107 = .ok (.iload 9, 2) := by decide +kernel
theorem dL_law_109 : decode cL_law 109 = .ok (.bipush 60, 2) := by decide +kernel
theorem dL_law_111 : decode cL_law 111 = .ok (.if_icmp .ge 1239, 3) := by decide +kernel
theorem dL_law_114 : decode cL_law 114 = .ok (.aload_n 0, 1) := by decide +kernel
theorem dL_law_115 : decode cL_law 115 = .ok (.iconst 2, 1) := by decide +kernel
theorem dL_law_116 : decode cL_law 116 = .ok (.iload 9, 2) := by decide +kernel
theorem dL_law_118 : decode cL_law 118 = .ok (.imul, 1) := by decide +kernel
theorem dL_law_119 : decode cL_law 119 = .ok (.invokestatic 99, 3) := by decide +kernel
theorem dL_law_122 : decode cL_law 122 = .ok (.istore 10, 2) := by decide +kernel
theorem dL_law_124 : decode cL_law 124 = .ok (.aload_n 0, 1) := by decide +kernel
theorem dL_law_125 : decode cL_law 125 = .ok (.iconst 2, 1) := by decide +kernel
theorem dL_law_126 : decode cL_law 126 = .ok (.iload 9, 2) := by decide +kernel
theorem dL_law_128 : decode cL_law 128 = .ok (.imul, 1) := by decide +kernel
theorem dL_law_129 : decode cL_law 129 = .ok (.iconst 1, 1) := by decide +kernel
theorem dL_law_130 : decode cL_law 130 = .ok (.iadd, 1) := by decide +kernel
theorem dL_law_131 : decode cL_law 131 = .ok (.invokestatic 99, 3) := by decide +kernel
theorem dL_law_134 : decode cL_law 134 = .ok (.istore 11, 2) := by decide +kernel
theorem dL_law_136 : decode cL_law 136 = .ok (.iload 9, 2) := by decide +kernel
theorem dL_law_138 : decode cL_law 138 = .ok (.iconst 2, 1) := by decide +kernel
theorem dL_law_139 : decode cL_law 139 = .ok (.if_icmp .ge 7, 3) := by decide +kernel
theorem dL_law_142 : decode cL_law 142 = .ok (.iconst 0, 1) := by decide +kernel
theorem dL_law_143 : decode cL_law 143 = .ok (.goto 10, 3) := by decide +kernel
theorem dL_law_146 : decode cL_law 146 = .ok (.iload 10, 2) := by decide +kernel
theorem dL_law_148 : decode cL_law 148 = .ok (.bipush 20, 2) := by decide +kernel
theorem dL_law_150 : decode cL_law 150 = .ok (.invokestatic 103, 3) := by decide +kernel
theorem dL_law_153 : decode cL_law 153 = .ok (.istore 12, 2) := by decide +kernel
theorem dL_law_155 : decode cL_law 155 = .ok (.iload 10, 2) := by decide +kernel
theorem dL_law_157 : decode cL_law 157 = .ok (.iconst 5, 1) := by decide +kernel
theorem dL_law_158 : decode cL_law 158 = .ok (.ishr, 1) := by decide +kernel
theorem dL_law_159 : decode cL_law 159 = .ok (.iconst 5, 1) := by decide +kernel
theorem dL_law_160 : decode cL_law 160 = .ok (.invokestatic 103, 3) := by decide +kernel
theorem dL_law_163 : decode cL_law 163 = .ok (.istore 13, 2) := by decide +kernel
theorem dL_law_165 : decode cL_law 165 = .ok (.iload 10, 2) := by decide +kernel
theorem dL_law_167 : decode cL_law 167 = .ok (.bipush 8, 2) := by decide +kernel
theorem dL_law_169 : decode cL_law 169 = .ok (.ishr, 1) := by decide +kernel
theorem dL_law_170 : decode cL_law 170 = .ok (.iconst 5, 1) := by decide +kernel
theorem dL_law_171 : decode cL_law 171 = .ok (.invokestatic 103, 3) := by decide +kernel
theorem dL_law_174 : decode cL_law 174 = .ok (.istore 14, 2) := by decide +kernel
theorem dL_law_176 : decode cL_law 176 = .ok (.aload 8, 2) := by decide +kernel
theorem dL_law_178 : decode cL_law 178 = .ok (.iconst 0, 1) := by decide +kernel
theorem dL_law_179 : decode cL_law 179 = .ok (.iaload, 1) := by decide +kernel
theorem dL_law_180 : decode cL_law 180 = .ok (.ifCond .ne 7, 3) := by decide +kernel
theorem dL_law_183 : decode cL_law 183 = .ok (.iconst 0, 1) := by decide +kernel
theorem dL_law_184 : decode cL_law 184 = .ok (.goto 12, 3) := by decide +kernel
theorem dL_law_187 : decode cL_law 187 = .ok (.iload 11, 2) := by decide +kernel
theorem dL_law_189 : decode cL_law 189 = .ok (.aload 8, 2) := by decide +kernel
theorem dL_law_191 : decode cL_law 191 = .ok (.iconst 0, 1) := by decide +kernel
theorem dL_law_192 : decode cL_law 192 = .ok (.iaload, 1) := by decide +kernel
theorem dL_law_193 : decode cL_law 193 = .ok (.invokestatic 103, 3) := by decide +kernel
theorem dL_law_196 : decode cL_law 196 = .ok (.istore 15, 2) := by decide +kernel
theorem dL_law_198 : decode cL_law 198 = .ok (.iload 12, 2) := by decide +kernel
theorem dL_law_200 : decode cL_law 200 = .ok (.iconst 3, 1) := by decide +kernel
theorem dL_law_201 : decode cL_law 201 = .ok (.if_icmp .ge 112, 3) := by decide +kernel
theorem dL_law_204 : decode cL_law 204 = .ok (.aload 8, 2) := by decide +kernel
theorem dL_law_206 : decode cL_law 206 = .ok (.iconst 0, 1) := by decide +kernel
theorem dL_law_207 : decode cL_law 207 = .ok (.iaload, 1) := by decide +kernel
theorem dL_law_208 : decode cL_law 208 = .ok (.bipush 8, 2) := by decide +kernel
theorem dL_law_210 : decode cL_law 210 = .ok (.if_icmp .ne 6, 3) := by decide +kernel
theorem dL_law_213 : decode cL_law 213 = .ok (.goto 1131, 3) := by decide +kernel
theorem dL_law_216 : decode cL_law 216 = .ok (.iconst 4, 1) := by decide +kernel
theorem dL_law_217 : decode cL_law 217 = .ok (.aload 8, 2) := by decide +kernel
theorem dL_law_219 : decode cL_law 219 = .ok (.iconst 0, 1) := by decide +kernel
theorem dL_law_220 : decode cL_law 220 = .ok (.iaload, 1) := by decide +kernel
theorem dL_law_221 : decode cL_law 221 = .ok (.imul, 1) := by decide +kernel
theorem dL_law_222 : decode cL_law 222 = .ok (.istore 16, 2) := by decide +kernel
theorem dL_law_224 : decode cL_law 224 = .ok (.aload 6, 2) := by decide +kernel
theorem dL_law_226 : decode cL_law 226 = .ok (.iload 16, 2) := by decide +kernel
theorem dL_law_228 : decode cL_law 228 = .ok (.iload 13, 2) := by decide +kernel
theorem dL_law_230 : decode cL_law 230 = .ok (.iastore, 1) := by decide +kernel
theorem dL_law_231 : decode cL_law 231 = .ok (.aload 6, 2) := by decide +kernel
theorem dL_law_233 : decode cL_law 233 = .ok (.iload 16, 2) := by decide +kernel
theorem dL_law_235 : decode cL_law 235 = .ok (.iconst 1, 1) := by decide +kernel
theorem dL_law_236 : decode cL_law 236 = .ok (.iadd, 1) := by decide +kernel
theorem dL_law_237 : decode cL_law 237 = .ok (.iload 11, 2) := by decide +kernel
theorem dL_law_239 : decode cL_law 239 = .ok (.sipush 300, 3) := by decide +kernel
theorem dL_law_242 : decode cL_law 242 = .ok (.invokestatic 103, 3) := by decide +kernel
theorem dL_law_245 : decode cL_law 245 = .ok (.iastore, 1) := by decide +kernel
theorem dL_law_246 : decode cL_law 246 = .ok (.aload 6, 2) := by decide +kernel
theorem dL_law_248 : decode cL_law 248 = .ok (.iload 16, 2) := by decide +kernel
theorem dL_law_250 : decode cL_law 250 = .ok (.iconst 2, 1) := by decide +kernel
theorem dL_law_251 : decode cL_law 251 = .ok (.iadd, 1) := by decide +kernel
theorem dL_law_252 : decode cL_law 252 = .ok (.iload 11, 2) := by decide +kernel
theorem dL_law_254 : decode cL_law 254 = .ok (.bipush 9, 2) := by decide +kernel
theorem dL_law_256 : decode cL_law 256 = .ok (.ishr, 1) := by decide +kernel
theorem dL_law_257 : decode cL_law 257 = .ok (.bipush 20, 2) := by decide +kernel
theorem dL_law_259 : decode cL_law 259 = .ok (.invokestatic 103, 3) := by decide +kernel
theorem dL_law_262 : decode cL_law 262 = .ok (.iastore, 1) := by decide +kernel
theorem dL_law_263 : decode cL_law 263 = .ok (.aload 6, 2) := by decide +kernel
theorem dL_law_265 : decode cL_law 265 = .ok (.iload 16, 2) := by decide +kernel
theorem dL_law_267 : decode cL_law 267 = .ok (.iconst 3, 1) := by decide +kernel
theorem dL_law_268 : decode cL_law 268 = .ok (.iadd, 1) := by decide +kernel
theorem dL_law_269 : decode cL_law 269 = .ok (.iconst 1, 1) := by decide +kernel
theorem dL_law_270 : decode cL_law 270 = .ok (.iastore, 1) := by decide +kernel
theorem dL_law_271 : decode cL_law 271 = .ok (.aload 8, 2) := by decide +kernel
theorem dL_law_273 : decode cL_law 273 = .ok (.iconst 0, 1) := by decide +kernel
theorem dL_law_274 : decode cL_law 274 = .ok (.dup2, 1) := by decide +kernel
theorem dL_law_275 : decode cL_law 275 = .ok (.iaload, 1) := by decide +kernel
theorem dL_law_276 : decode cL_law 276 = .ok (.iconst 1, 1) := by decide +kernel
theorem dL_law_277 : decode cL_law 277 = .ok (.iadd, 1) := by decide +kernel
theorem dL_law_278 : decode cL_law 278 = .ok (.iastore, 1) := by decide +kernel
theorem dL_law_279 : decode cL_law 279 = .ok (.aload_n 1, 1) := by decide +kernel
theorem dL_law_280 : decode cL_law 280 = .ok (.iload 13, 2) := by decide +kernel
theorem dL_law_282 : decode cL_law 282 = .ok (.aload 6, 2) := by decide +kernel
theorem dL_law_284 : decode cL_law 284 = .ok (.iload 16, 2) := by decide +kernel
theorem dL_law_286 : decode cL_law 286 = .ok (.iconst 1, 1) := by decide +kernel
theorem dL_law_287 : decode cL_law 287 = .ok (.iadd, 1) := by decide +kernel
theorem dL_law_288 : decode cL_law 288 = .ok (.iaload, 1) := by decide +kernel
theorem dL_law_289 : decode cL_law 289 = .ok (.aload 6, 2) := by decide +kernel
theorem dL_law_291 : decode cL_law 291 = .ok (.iload 16, 2) := by decide +kernel
theorem dL_law_293 : decode cL_law 293 = .ok (.iconst 2, 1) := by decide +kernel
theorem dL_law_294 : decode cL_law 294 = .ok (.iadd, 1) := by decide +kernel
theorem dL_law_295 : decode cL_law 295 = .ok (.iaload, 1) := by decide +kernel
theorem dL_law_296 : decode cL_law 296 = .ok (.invokevirtual 106, 3) := by decide +kernel
theorem dL_law_299 : decode cL_law 299 = .ok (.aload 8, 2) := by decide +kernel
theorem dL_law_301 : decode cL_law 301 = .ok (.iconst 0, 1) := by decide +kernel
theorem dL_law_302 : decode cL_law 302 = .ok (.iaload, 1) := by decide +kernel
theorem dL_law_303 : decode cL_law 303 = .ok (.iconst 1, 1) := by decide +kernel
theorem dL_law_304 : decode cL_law 304 = .ok (.isub, 1) := by decide +kernel
theorem dL_law_305 : decode cL_law 305 = .ok (.if_icmp .eq 5, 3) := by decide +kernel
theorem dL_law_308 : decode cL_law 308 = .ok (.iconst 0, 1) := by decide +kernel
theorem dL_law_309 : decode cL_law 309 = .ok (.ireturn, 1) := by decide +kernel
theorem dL_law_310 : decode cL_law 310 = .ok (.goto 1013, 3) := by decide +kernel
theorem dL_law_313 : decode cL_law 313 = .ok (.iload 12, 2) := by decide +kernel
theorem dL_law_315 : decode cL_law 315 = .ok (.bipush 8, 2) := by decide +kernel
theorem dL_law_317 : decode cL_law 317 = .ok (.if_icmp .ge 110, 3) := by decide +kernel
theorem dL_law_320 : decode cL_law 320 = .ok (.iconst 2, 1) := by decide +kernel
theorem dL_law_321 : decode cL_law 321 = .ok (.iconst 5, 1) := by decide +kernel
theorem dL_law_322 : decode cL_law 322 = .ok (.iload 13, 2) := by decide +kernel
theorem dL_law_324 : decode cL_law 324 = .ok (.imul, 1) := by decide +kernel
theorem dL_law_325 : decode cL_law 325 = .ok (.iload 14, 2) := by decide +kernel
theorem dL_law_327 : decode cL_law 327 = .ok (.iadd, 1) := by decide +kernel
theorem dL_law_328 : decode cL_law 328 = .ok (.imul, 1) := by decide +kernel
theorem dL_law_329 : decode cL_law 329 = .ok (.istore 16, 2) := by decide +kernel
theorem dL_law_331 : decode cL_law 331 = .ok (.iload 13, 2) := by decide +kernel
theorem dL_law_333 : decode cL_law 333 = .ok (.iload 14, 2) := by decide +kernel
theorem dL_law_335 : decode cL_law 335 = .ok (.if_icmp .ne 6, 3) := by decide +kernel
theorem dL_law_338 : decode cL_law 338 = .ok (.goto 1006, 3) := by decide +kernel
theorem dL_law_341 : decode cL_law 341 = .ok (.aload_n 2, 1) := by decide +kernel
theorem dL_law_342 : decode cL_law 342 = .ok (.iload 16, 2) := by decide +kernel
theorem dL_law_344 : decode cL_law 344 = .ok (.iaload, 1) := by decide +kernel
theorem dL_law_345 : decode cL_law 345 = .ok (.ifCond .lt 7, 3) := by decide +kernel
theorem dL_law_348 : decode cL_law 348 = .ok (.iconst 1, 1) := by decide +kernel
theorem dL_law_349 : decode cL_law 349 = .ok (.goto 4, 3) := by decide +kernel
theorem dL_law_352 : decode cL_law 352 = .ok (.iconst 0, 1) := by decide +kernel
theorem dL_law_353 : decode cL_law 353 = .ok (.istore 17, 2) := by decide +kernel
theorem dL_law_355 : decode cL_law 355 = .ok (.aload_n 2, 1) := by decide +kernel
theorem dL_law_356 : decode cL_law 356 = .ok (.iload 16, 2) := by decide +kernel
theorem dL_law_358 : decode cL_law 358 = .ok (.iload 11, 2) := by decide +kernel
theorem dL_law_360 : decode cL_law 360 = .ok (.bipush 12, 2) := by decide +kernel
theorem dL_law_362 : decode cL_law 362 = .ok (.invokestatic 103, 3) := by decide +kernel
theorem dL_law_365 : decode cL_law 365 = .ok (.iastore, 1) := by decide +kernel
theorem dL_law_366 : decode cL_law 366 = .ok (.aload_n 2, 1) := by decide +kernel
theorem dL_law_367 : decode cL_law 367 = .ok (.iload 16, 2) := by decide +kernel
theorem dL_law_369 : decode cL_law 369 = .ok (.iconst 1, 1) := by decide +kernel
theorem dL_law_370 : decode cL_law 370 = .ok (.iadd, 1) := by decide +kernel
theorem dL_law_371 : decode cL_law 371 = .ok (.iload 11, 2) := by decide +kernel
theorem dL_law_373 : decode cL_law 373 = .ok (.iconst 4, 1) := by decide +kernel
theorem dL_law_374 : decode cL_law 374 = .ok (.ishr, 1) := by decide +kernel
theorem dL_law_375 : decode cL_law 375 = .ok (.iload 10, 2) := by decide +kernel
theorem dL_law_377 : decode cL_law 377 = .ok (.bipush 11, 2) := by decide +kernel
theorem dL_law_379 : decode cL_law 379 = .ok (.ishr, 1) := by decide +kernel
theorem dL_law_380 : decode cL_law 380 = .ok (.iconst 3, 1) := by decide +kernel
theorem dL_law_381 : decode cL_law 381 = .ok (.invokestatic 103, 3) := by decide +kernel
theorem dL_law_384 : decode cL_law 384 = .ok (.ifCond .ne 8, 3) := by decide +kernel
theorem dL_law_387 : decode cL_law 387 = .ok (.ldc 109, 2) := by decide +kernel
theorem dL_law_389 : decode cL_law 389 = .ok (.goto 6, 3) := by decide +kernel
theorem dL_law_392 : decode cL_law 392 = .ok (.sipush 150, 3) := by decide +kernel
theorem dL_law_395 : decode cL_law 395 = .ok (.invokestatic 103, 3) := by decide +kernel
theorem dL_law_398 : decode cL_law 398 = .ok (.iastore, 1) := by decide +kernel
theorem dL_law_399 : decode cL_law 399 = .ok (.aload_n 1, 1) := by decide +kernel
theorem dL_law_400 : decode cL_law 400 = .ok (.iload 13, 2) := by decide +kernel
theorem dL_law_402 : decode cL_law 402 = .ok (.iload 14, 2) := by decide +kernel
theorem dL_law_404 : decode cL_law 404 = .ok (.aload_n 2, 1) := by decide +kernel
theorem dL_law_405 : decode cL_law 405 = .ok (.iload 16, 2) := by decide +kernel
theorem dL_law_407 : decode cL_law 407 = .ok (.iaload, 1) := by decide +kernel
theorem dL_law_408 : decode cL_law 408 = .ok (.aload_n 2, 1) := by decide +kernel
theorem dL_law_409 : decode cL_law 409 = .ok (.iload 16, 2) := by decide +kernel
theorem dL_law_411 : decode cL_law 411 = .ok (.iconst 1, 1) := by decide +kernel
theorem dL_law_412 : decode cL_law 412 = .ok (.iadd, 1) := by decide +kernel
theorem dL_law_413 : decode cL_law 413 = .ok (.iaload, 1) := by decide +kernel
theorem dL_law_414 : decode cL_law 414 = .ok (.invokevirtual 110, 3) := by decide +kernel
theorem dL_law_417 : decode cL_law 417 = .ok (.iload 17, 2) := by decide +kernel
theorem dL_law_419 : decode cL_law 419 = .ok (.if_icmp .eq 5, 3) := by decide +kernel
theorem dL_law_422 : decode cL_law 422 = .ok (.iconst 0, 1) := by decide +kernel
theorem dL_law_423 : decode cL_law 423 = .ok (.ireturn, 1) := by decide +kernel
theorem dL_law_424 : decode cL_law 424 = .ok (.goto 899, 3) := by decide +kernel
theorem dL_law_427 : decode cL_law 427 = .ok (.iload 12, 2) := by decide +kernel
theorem dL_law_429 : decode cL_law 429 = .ok (.bipush 8, 2) := by decide +kernel
theorem dL_law_431 : decode cL_law 431 = .ok (.if_icmp .ne 77, 3) := by decide +kernel
theorem dL_law_434 : decode cL_law 434 = .ok (.iconst 2, 1) := by decide +kernel
theorem dL_law_435 : decode cL_law 435 = .ok (.iconst 5, 1) := by decide +kernel
theorem dL_law_436 : decode cL_law 436 = .ok (.iload 13, 2) := by decide +kernel
theorem dL_law_438 : decode cL_law 438 = .ok (.imul, 1) := by decide +kernel
theorem dL_law_439 : decode cL_law 439 = .ok (.iload 14, 2) := by decide +kernel
theorem dL_law_441 : decode cL_law 441 = .ok (.iadd, 1) := by decide +kernel
theorem dL_law_442 : decode cL_law 442 = .ok (.imul, 1) := by decide +kernel
theorem dL_law_443 : decode cL_law 443 = .ok (.istore 16, 2) := by decide +kernel
theorem dL_law_445 : decode cL_law 445 = .ok (.aload_n 2, 1) := by decide +kernel
theorem dL_law_446 : decode cL_law 446 = .ok (.iload 16, 2) := by decide +kernel
theorem dL_law_448 : decode cL_law 448 = .ok (.iaload, 1) := by decide +kernel
theorem dL_law_449 : decode cL_law 449 = .ok (.ifCond .ge 18, 3) := by decide +kernel
theorem dL_law_452 : decode cL_law 452 = .ok (.aload_n 1, 1) := by decide +kernel
theorem dL_law_453 : decode cL_law 453 = .ok (.iconst 3, 1) := by decide +kernel
theorem dL_law_454 : decode cL_law 454 = .ok (.iload 13, 2) := by decide +kernel
theorem dL_law_456 : decode cL_law 456 = .ok (.iload 14, 2) := by decide +kernel
theorem dL_law_458 : decode cL_law 458 = .ok (.invokestatic 65, 3) := by decide +kernel
theorem dL_law_461 : decode cL_law 461 = .ok (.iconst 3, 1) := by decide +kernel
theorem dL_law_462 : decode cL_law 462 = .ok (.if_icmp .eq 882, 3) := by decide +kernel
theorem dL_law_465 : decode cL_law 465 = .ok (.iconst 0, 1) := by decide +kernel
theorem dL_law_466 : decode cL_law 466 = .ok (.ireturn, 1) := by decide +kernel
theorem dL_law_467 : decode cL_law 467 = .ok (.iload 11, 2) := by decide +kernel
theorem dL_law_469 : decode cL_law 469 = .ok (.iconst 2, 1) := by decide +kernel
theorem dL_law_470 : decode cL_law 470 = .ok (.invokestatic 103, 3) := by decide +kernel
theorem dL_law_473 : decode cL_law 473 = .ok (.ifCond .ne 6, 3) := by decide +kernel
theorem dL_law_476 : decode cL_law 476 = .ok (.goto 868, 3) := by decide +kernel
theorem dL_law_479 : decode cL_law 479 = .ok (.aload_n 2, 1) := by decide +kernel
theorem dL_law_480 : decode cL_law 480 = .ok (.iload 16, 2) := by decide +kernel
theorem dL_law_482 : decode cL_law 482 = .ok (.iaload, 1) := by decide +kernel
theorem dL_law_483 : decode cL_law 483 = .ok (.istore 17, 2) := by decide +kernel
theorem dL_law_485 : decode cL_law 485 = .ok (.aload_n 2, 1) := by decide +kernel
theorem dL_law_486 : decode cL_law 486 = .ok (.iload 16, 2) := by decide +kernel
theorem dL_law_488 : decode cL_law 488 = .ok (.iconst (-1), 1) := by decide +kernel
theorem dL_law_489 : decode cL_law 489 = .ok (.iastore, 1) := by decide +kernel
theorem dL_law_490 : decode cL_law 490 = .ok (.aload_n 1, 1) := by decide +kernel
theorem dL_law_491 : decode cL_law 491 = .ok (.iload 13, 2) := by decide +kernel
theorem dL_law_493 : decode cL_law 493 = .ok (.iload 14, 2) := by decide +kernel
theorem dL_law_495 : decode cL_law 495 = .ok (.invokevirtual 38, 3) := by decide +kernel
theorem dL_law_498 : decode cL_law 498 = .ok (.iload 17, 2) := by decide +kernel
theorem dL_law_500 : decode cL_law 500 = .ok (.if_icmp .eq 5, 3) := by decide +kernel
theorem dL_law_503 : decode cL_law 503 = .ok (.iconst 0, 1) := by decide +kernel
theorem dL_law_504 : decode cL_law 504 = .ok (.ireturn, 1) := by decide +kernel
theorem dL_law_505 : decode cL_law 505 = .ok (.goto 818, 3) := by decide +kernel
theorem dL_law_508 : decode cL_law 508 = .ok (.iload 12, 2) := by decide +kernel
theorem dL_law_510 : decode cL_law 510 = .ok (.bipush 9, 2) := by decide +kernel
theorem dL_law_512 : decode cL_law 512 = .ok (.if_icmp .ne 80, 3) := by decide +kernel
theorem dL_law_515 : decode cL_law 515 = .ok (.aload 5, 2) := by decide +kernel
theorem dL_law_517 : decode cL_law 517 = .ok (.iconst 2, 1) := by decide +kernel
theorem dL_law_518 : decode cL_law 518 = .ok (.iload 13, 2) := by decide +kernel
theorem dL_law_520 : decode cL_law 520 = .ok (.imul, 1) := by decide +kernel
theorem dL_law_521 : decode cL_law 521 = .ok (.iconst 1, 1) := by decide +kernel
theorem dL_law_522 : decode cL_law 522 = .ok (.iadd, 1) := by decide +kernel
theorem dL_law_523 : decode cL_law 523 = .ok (.iaload, 1) := by decide +kernel
theorem dL_law_524 : decode cL_law 524 = .ok (.istore 16, 2) := by decide +kernel
theorem dL_law_526 : decode cL_law 526 = .ok (.aload 5, 2) := by decide +kernel
theorem dL_law_528 : decode cL_law 528 = .ok (.iconst 2, 1) := by decide +kernel
theorem dL_law_529 : decode cL_law 529 = .ok (.iload 13, 2) := by decide +kernel
theorem dL_law_531 : decode cL_law 531 = .ok (.imul, 1) := by decide +kernel
theorem dL_law_532 : decode cL_law 532 = .ok (.iconst 1, 1) := by decide +kernel
theorem dL_law_533 : decode cL_law 533 = .ok (.iload 11, 2) := by decide +kernel
theorem dL_law_535 : decode cL_law 535 = .ok (.bipush 10, 2) := by decide +kernel
theorem dL_law_537 : decode cL_law 537 = .ok (.invokestatic 103, 3) := by decide +kernel
theorem dL_law_540 : decode cL_law 540 = .ok (.iadd, 1) := by decide +kernel
theorem dL_law_541 : decode cL_law 541 = .ok (.iastore, 1) := by decide +kernel
theorem dL_law_542 : decode cL_law 542 = .ok (.aload 5, 2) := by decide +kernel
theorem dL_law_544 : decode cL_law 544 = .ok (.iconst 2, 1) := by decide +kernel
theorem dL_law_545 : decode cL_law 545 = .ok (.iload 13, 2) := by decide +kernel
theorem dL_law_547 : decode cL_law 547 = .ok (.imul, 1) := by decide +kernel
theorem dL_law_548 : decode cL_law 548 = .ok (.iconst 1, 1) := by decide +kernel
theorem dL_law_549 : decode cL_law 549 = .ok (.iadd, 1) := by decide +kernel
theorem dL_law_550 : decode cL_law 550 = .ok (.iload 11, 2) := by decide +kernel
theorem dL_law_552 : decode cL_law 552 = .ok (.iconst 4, 1) := by decide +kernel
theorem dL_law_553 : decode cL_law 553 = .ok (.ishr, 1) := by decide +kernel
theorem dL_law_554 : decode cL_law 554 = .ok (.bipush 60, 2) := by decide +kernel
theorem dL_law_556 : decode cL_law 556 = .ok (.invokestatic 103, 3) := by decide +kernel
theorem dL_law_559 : decode cL_law 559 = .ok (.iastore, 1) := by decide +kernel
theorem dL_law_560 : decode cL_law 560 = .ok (.aload_n 1, 1) := by decide +kernel
theorem dL_law_561 : decode cL_law 561 = .ok (.iload 13, 2) := by decide +kernel
theorem dL_law_563 : decode cL_law 563 = .ok (.aload 5, 2) := by decide +kernel
theorem dL_law_565 : decode cL_law 565 = .ok (.iconst 2, 1) := by decide +kernel
theorem dL_law_566 : decode cL_law 566 = .ok (.iload 13, 2) := by decide +kernel
theorem dL_law_568 : decode cL_law 568 = .ok (.imul, 1) := by decide +kernel
theorem dL_law_569 : decode cL_law 569 = .ok (.iaload, 1) := by decide +kernel
theorem dL_law_570 : decode cL_law 570 = .ok (.aload 5, 2) := by decide +kernel
theorem dL_law_572 : decode cL_law 572 = .ok (.iconst 2, 1) := by decide +kernel
theorem dL_law_573 : decode cL_law 573 = .ok (.iload 13, 2) := by decide +kernel
theorem dL_law_575 : decode cL_law 575 = .ok (.imul, 1) := by decide +kernel
theorem dL_law_576 : decode cL_law 576 = .ok (.iconst 1, 1) := by decide +kernel
theorem dL_law_577 : decode cL_law 577 = .ok (.iadd, 1) := by decide +kernel
theorem dL_law_578 : decode cL_law 578 = .ok (.iaload, 1) := by decide +kernel
theorem dL_law_579 : decode cL_law 579 = .ok (.invokevirtual 114, 3) := by decide +kernel
theorem dL_law_582 : decode cL_law 582 = .ok (.iload 16, 2) := by decide +kernel
theorem dL_law_584 : decode cL_law 584 = .ok (.if_icmp .eq 5, 3) := by decide +kernel
theorem dL_law_587 : decode cL_law 587 = .ok (.iconst 0, 1) := by decide +kernel
theorem dL_law_588 : decode cL_law 588 = .ok (.ireturn, 1) := by decide +kernel
theorem dL_law_589 : decode cL_law 589 = .ok (.goto 734, 3) := by decide +kernel
theorem dL_law_592 : decode cL_law 592 = .ok (.iload 12, 2) := by decide +kernel
theorem dL_law_594 : decode cL_law 594 = .ok (.bipush 10, 2) := by decide +kernel
theorem dL_law_596 : decode cL_law 596 = .ok (.if_icmp .ne 104, 3) := by decide +kernel
theorem dL_law_599 : decode cL_law 599 = .ok (.iconst 4, 1) := by decide +kernel
theorem dL_law_600 : decode cL_law 600 = .ok (.iload 15, 2) := by decide +kernel
theorem dL_law_602 : decode cL_law 602 = .ok (.imul, 1) := by decide +kernel
theorem dL_law_603 : decode cL_law 603 = .ok (.istore 16, 2) := by decide +kernel
theorem dL_law_605 : decode cL_law 605 = .ok (.aload 6, 2) := by decide +kernel
theorem dL_law_607 : decode cL_law 607 = .ok (.iload 16, 2) := by decide +kernel
theorem dL_law_609 : decode cL_law 609 = .ok (.iaload, 1) := by decide +kernel
theorem dL_law_610 : decode cL_law 610 = .ok (.iload 14, 2) := by decide +kernel
theorem dL_law_612 : decode cL_law 612 = .ok (.if_icmp .ne 7, 3) := by decide +kernel
theorem dL_law_615 : decode cL_law 615 = .ok (.iconst 2, 1) := by decide +kernel
theorem dL_law_616 : decode cL_law 616 = .ok (.goto 20, 3) := by decide +kernel
theorem dL_law_619 : decode cL_law 619 = .ok (.aload 6, 2) := by decide +kernel
theorem dL_law_621 : decode cL_law 621 = .ok (.iload 16, 2) := by decide +kernel
theorem dL_law_623 : decode cL_law 623 = .ok (.iconst 3, 1) := by decide +kernel
theorem dL_law_624 : decode cL_law 624 = .ok (.iadd, 1) := by decide +kernel
theorem dL_law_625 : decode cL_law 625 = .ok (.iaload, 1) := by decide +kernel
theorem dL_law_626 : decode cL_law 626 = .ok (.bipush 10, 2) := by decide +kernel
theorem dL_law_628 : decode cL_law 628 = .ok (.if_icmp .ne 7, 3) := by decide +kernel
theorem dL_law_631 : decode cL_law 631 = .ok (.iconst 3, 1) := by decide +kernel
theorem dL_law_632 : decode cL_law 632 = .ok (.goto 4, 3) := by decide +kernel
theorem dL_law_635 : decode cL_law 635 = .ok (.iconst 0, 1) := by decide +kernel
theorem dL_law_636 : decode cL_law 636 = .ok (.istore 17, 2) := by decide +kernel
theorem dL_law_638 : decode cL_law 638 = .ok (.iload 17, 2) := by decide +kernel
theorem dL_law_640 : decode cL_law 640 = .ok (.ifCond .le 19, 3) := by decide +kernel
theorem dL_law_643 : decode cL_law 643 = .ok (.aload_n 1, 1) := by decide +kernel
theorem dL_law_644 : decode cL_law 644 = .ok (.iconst 4, 1) := by decide +kernel
theorem dL_law_645 : decode cL_law 645 = .ok (.iload 15, 2) := by decide +kernel
theorem dL_law_647 : decode cL_law 647 = .ok (.iload 14, 2) := by decide +kernel
theorem dL_law_649 : decode cL_law 649 = .ok (.invokestatic 65, 3) := by decide +kernel
theorem dL_law_652 : decode cL_law 652 = .ok (.iload 17, 2) := by decide +kernel
theorem dL_law_654 : decode cL_law 654 = .ok (.if_icmp .eq 690, 3) := by decide +kernel
theorem dL_law_657 : decode cL_law 657 = .ok (.iconst 0, 1) := by decide +kernel
theorem dL_law_658 : decode cL_law 658 = .ok (.ireturn, 1) := by decide +kernel
theorem dL_law_659 : decode cL_law 659 = .ok (.aload 6, 2) := by decide +kernel
theorem dL_law_661 : decode cL_law 661 = .ok (.iload 16, 2) := by decide +kernel
theorem dL_law_663 : decode cL_law 663 = .ok (.iload 14, 2) := by decide +kernel
theorem dL_law_665 : decode cL_law 665 = .ok (.iastore, 1) := by decide +kernel
theorem dL_law_666 : decode cL_law 666 = .ok (.aload 6, 2) := by decide +kernel
theorem dL_law_668 : decode cL_law 668 = .ok (.iload 16, 2) := by decide +kernel
theorem dL_law_670 : decode cL_law 670 = .ok (.iconst 3, 1) := by decide +kernel
theorem dL_law_671 : decode cL_law 671 = .ok (.iadd, 1) := by decide +kernel
theorem dL_law_672 : decode cL_law 672 = .ok (.dup2, 1) := by decide +kernel
theorem dL_law_673 : decode cL_law 673 = .ok (.iaload, 1) := by decide +kernel
theorem dL_law_674 : decode cL_law 674 = .ok (.iconst 1, 1) := by decide +kernel
theorem dL_law_675 : decode cL_law 675 = .ok (.iadd, 1) := by decide +kernel
theorem dL_law_676 : decode cL_law 676 = .ok (.iastore, 1) := by decide +kernel
theorem dL_law_677 : decode cL_law 677 = .ok (.aload_n 1, 1) := by decide +kernel
theorem dL_law_678 : decode cL_law 678 = .ok (.iload 15, 2) := by decide +kernel
theorem dL_law_680 : decode cL_law 680 = .ok (.iload 14, 2) := by decide +kernel
theorem dL_law_682 : decode cL_law 682 = .ok (.invokevirtual 41, 3) := by decide +kernel
theorem dL_law_685 : decode cL_law 685 = .ok (.aload 6, 2) := by decide +kernel
theorem dL_law_687 : decode cL_law 687 = .ok (.iload 16, 2) := by decide +kernel
theorem dL_law_689 : decode cL_law 689 = .ok (.iconst 3, 1) := by decide +kernel
theorem dL_law_690 : decode cL_law 690 = .ok (.iadd, 1) := by decide +kernel
theorem dL_law_691 : decode cL_law 691 = .ok (.iaload, 1) := by decide +kernel
theorem dL_law_692 : decode cL_law 692 = .ok (.if_icmp .eq 5, 3) := by decide +kernel
theorem dL_law_695 : decode cL_law 695 = .ok (.iconst 0, 1) := by decide +kernel
theorem dL_law_696 : decode cL_law 696 = .ok (.ireturn, 1) := by decide +kernel
theorem dL_law_697 : decode cL_law 697 = .ok (.goto 626, 3) := by decide +kernel
theorem dL_law_700 : decode cL_law 700 = .ok (.iload 12, 2) := by decide +kernel
theorem dL_law_702 : decode cL_law 702 = .ok (.bipush 11, 2) := by decide +kernel
theorem dL_law_704 : decode cL_law 704 = .ok (.if_icmp .ne 87, 3) := by decide +kernel
theorem dL_law_707 : decode cL_law 707 = .ok (.aload 6, 2) := by decide +kernel
theorem dL_law_709 : decode cL_law 709 = .ok (.iconst 4, 1) := by decide +kernel
theorem dL_law_710 : decode cL_law 710 = .ok (.iload 15, 2) := by decide +kernel
theorem dL_law_712 : decode cL_law 712 = .ok (.imul, 1) := by decide +kernel
theorem dL_law_713 : decode cL_law 713 = .ok (.iconst 1, 1) := by decide +kernel
theorem dL_law_714 : decode cL_law 714 = .ok (.iadd, 1) := by decide +kernel
theorem dL_law_715 : decode cL_law 715 = .ok (.dup2, 1) := by decide +kernel
theorem dL_law_716 : decode cL_law 716 = .ok (.iaload, 1) := by decide +kernel
theorem dL_law_717 : decode cL_law 717 = .ok (.iload 11, 2) := by decide +kernel
theorem dL_law_719 : decode cL_law 719 = .ok (.iconst 4, 1) := by decide +kernel
theorem dL_law_720 : decode cL_law 720 = .ok (.ishr, 1) := by decide +kernel
theorem dL_law_721 : decode cL_law 721 = .ok (.sipush 200, 3) := by decide +kernel
theorem dL_law_724 : decode cL_law 724 = .ok (.invokestatic 103, 3) := by decide +kernel
theorem dL_law_727 : decode cL_law 727 = .ok (.iadd, 1) := by decide +kernel
theorem dL_law_728 : decode cL_law 728 = .ok (.iastore, 1) := by decide +kernel
theorem dL_law_729 : decode cL_law 729 = .ok (.aload 6, 2) := by decide +kernel
theorem dL_law_731 : decode cL_law 731 = .ok (.iconst 4, 1) := by decide +kernel
theorem dL_law_732 : decode cL_law 732 = .ok (.iload 15, 2) := by decide +kernel
theorem dL_law_734 : decode cL_law 734 = .ok (.imul, 1) := by decide +kernel
theorem dL_law_735 : decode cL_law 735 = .ok (.iconst 2, 1) := by decide +kernel
theorem dL_law_736 : decode cL_law 736 = .ok (.iadd, 1) := by decide +kernel
theorem dL_law_737 : decode cL_law 737 = .ok (.dup2, 1) := by decide +kernel
theorem dL_law_738 : decode cL_law 738 = .ok (.iaload, 1) := by decide +kernel
theorem dL_law_739 : decode cL_law 739 = .ok (.iload 11, 2) := by decide +kernel
theorem dL_law_741 : decode cL_law 741 = .ok (.bipush 12, 2) := by decide +kernel
theorem dL_law_743 : decode cL_law 743 = .ok (.ishr, 1) := by decide +kernel
theorem dL_law_744 : decode cL_law 744 = .ok (.bipush 12, 2) := by decide +kernel
theorem dL_law_746 : decode cL_law 746 = .ok (.invokestatic 103, 3) := by decide +kernel
theorem dL_law_749 : decode cL_law 749 = .ok (.iadd, 1) := by decide +kernel
theorem dL_law_750 : decode cL_law 750 = .ok (.iastore, 1) := by decide +kernel
theorem dL_law_751 : decode cL_law 751 = .ok (.aload_n 1, 1) := by decide +kernel
theorem dL_law_752 : decode cL_law 752 = .ok (.iload 15, 2) := by decide +kernel
theorem dL_law_754 : decode cL_law 754 = .ok (.iload 11, 2) := by decide +kernel
theorem dL_law_756 : decode cL_law 756 = .ok (.iconst 4, 1) := by decide +kernel
theorem dL_law_757 : decode cL_law 757 = .ok (.ishr, 1) := by decide +kernel
theorem dL_law_758 : decode cL_law 758 = .ok (.sipush 200, 3) := by decide +kernel
theorem dL_law_761 : decode cL_law 761 = .ok (.invokestatic 103, 3) := by decide +kernel
theorem dL_law_764 : decode cL_law 764 = .ok (.iload 11, 2) := by decide +kernel
theorem dL_law_766 : decode cL_law 766 = .ok (.bipush 12, 2) := by decide +kernel
theorem dL_law_768 : decode cL_law 768 = .ok (.ishr, 1) := by decide +kernel
theorem dL_law_769 : decode cL_law 769 = .ok (.bipush 12, 2) := by decide +kernel
theorem dL_law_771 : decode cL_law 771 = .ok (.invokestatic 103, 3) := by decide +kernel
theorem dL_law_774 : decode cL_law 774 = .ok (.invokevirtual 117, 3) := by decide +kernel
theorem dL_law_777 : decode cL_law 777 = .ok (.aload 6, 2) := by decide +kernel
theorem dL_law_779 : decode cL_law 779 = .ok (.iconst 4, 1) := by decide +kernel
theorem dL_law_780 : decode cL_law 780 = .ok (.iload 15, 2) := by decide +kernel
theorem dL_law_782 : decode cL_law 782 = .ok (.imul, 1) := by decide +kernel
theorem dL_law_783 : decode cL_law 783 = .ok (.iconst 1, 1) := by decide +kernel
theorem dL_law_784 : decode cL_law 784 = .ok (.iadd, 1) := by decide +kernel
theorem dL_law_785 : decode cL_law 785 = .ok (.iaload, 1) := by decide +kernel
theorem dL_law_786 : decode cL_law 786 = .ok (.if_icmp .eq 537, 3) := by decide +kernel
theorem dL_law_789 : decode cL_law 789 = .ok (.iconst 0, 1) := by decide +kernel
theorem dL_law_790 : decode cL_law 790 = .ok (.ireturn, 1) := by decide +kernel
theorem dL_law_791 : decode cL_law 791 = .ok (.iload 12, 2) := by decide +kernel
theorem dL_law_793 : decode cL_law 793 = .ok (.bipush 15, 2) := by decide +kernel
theorem dL_law_795 : decode cL_law 795 = .ok (.if_icmp .ge 221, 3) := by decide +kernel
theorem dL_law_798 : decode cL_law 798 = .ok (.iload 11, 2) := by decide +kernel
theorem dL_law_800 : decode cL_law 800 = .ok (.iconst 4, 1) := by decide +kernel
theorem dL_law_801 : decode cL_law 801 = .ok (.ishr, 1) := by decide +kernel
theorem dL_law_802 : decode cL_law 802 = .ok (.aload 8, 2) := by decide +kernel
theorem dL_law_804 : decode cL_law 804 = .ok (.iconst 0, 1) := by decide +kernel
theorem dL_law_805 : decode cL_law 805 = .ok (.iaload, 1) := by decide +kernel
theorem dL_law_806 : decode cL_law 806 = .ok (.invokestatic 103, 3) := by decide +kernel
theorem dL_law_809 : decode cL_law 809 = .ok (.istore 16, 2) := by decide +kernel
theorem dL_law_811 : decode cL_law 811 = .ok (.iload 15, 2) := by decide +kernel
theorem dL_law_813 : decode cL_law 813 = .ok (.iload 16, 2) := by decide +kernel
theorem dL_law_815 : decode cL_law 815 = .ok (.if_icmp .ne 18, 3) := by decide +kernel
theorem dL_law_818 : decode cL_law 818 = .ok (.aload_n 1, 1) := by decide +kernel
theorem dL_law_819 : decode cL_law 819 = .ok (.iconst 0, 1) := by decide +kernel
theorem dL_law_820 : decode cL_law 820 = .ok (.iload 15, 2) := by decide +kernel
theorem dL_law_822 : decode cL_law 822 = .ok (.iload 16, 2) := by decide +kernel
theorem dL_law_824 : decode cL_law 824 = .ok (.invokestatic 65, 3) := by decide +kernel
theorem dL_law_827 : decode cL_law 827 = .ok (.iconst 2, 1) := by decide +kernel
theorem dL_law_828 : decode cL_law 828 = .ok (.if_icmp .eq 516, 3) := by decide +kernel
theorem dL_law_831 : decode cL_law 831 = .ok (.iconst 0, 1) := by decide +kernel
theorem dL_law_832 : decode cL_law 832 = .ok (.ireturn, 1) := by decide +kernel
theorem dL_law_833 : decode cL_law 833 = .ok (.aload 6, 2) := by decide +kernel
theorem dL_law_835 : decode cL_law 835 = .ok (.iconst 4, 1) := by decide +kernel
theorem dL_law_836 : decode cL_law 836 = .ok (.iload 15, 2) := by decide +kernel
theorem dL_law_838 : decode cL_law 838 = .ok (.imul, 1) := by decide +kernel
theorem dL_law_839 : decode cL_law 839 = .ok (.iaload, 1) := by decide +kernel
theorem dL_law_840 : decode cL_law 840 = .ok (.aload 6, 2) := by decide +kernel
theorem dL_law_842 : decode cL_law 842 = .ok (.iconst 4, 1) := by decide +kernel
theorem dL_law_843 : decode cL_law 843 = .ok (.iload 16, 2) := by decide +kernel
theorem dL_law_845 : decode cL_law 845 = .ok (.imul, 1) := by decide +kernel
theorem dL_law_846 : decode cL_law 846 = .ok (.iaload, 1) := by decide +kernel
theorem dL_law_847 : decode cL_law 847 = .ok (.aload_n 2, 1) := by decide +kernel
theorem dL_law_848 : decode cL_law 848 = .ok (.aload 4, 2) := by decide +kernel
theorem dL_law_850 : decode cL_law 850 = .ok (.invokestatic 21, 3) := by decide +kernel
theorem dL_law_853 : decode cL_law 853 = .ok (.istore 17, 2) := by decide +kernel
theorem dL_law_855 : decode cL_law 855 = .ok (.iload 17, 2) := by decide +kernel
theorem dL_law_857 : decode cL_law 857 = .ok (.ifCond .eq 27, 3) := by decide +kernel
theorem dL_law_860 : decode cL_law 860 = .ok (.iload 15, 2) := by decide +kernel
theorem dL_law_862 : decode cL_law 862 = .ok (.aload 7, 2) := by decide +kernel
theorem dL_law_864 : decode cL_law 864 = .ok (.aload 8, 2) := by decide +kernel
theorem dL_law_866 : decode cL_law 866 = .ok (.invokestatic 120, 3) := by decide +kernel
theorem dL_law_869 : decode cL_law 869 = .ok (.ifCond .ne 15, 3) := by decide +kernel
theorem dL_law_872 : decode cL_law 872 = .ok (.iload 16, 2) := by decide +kernel
theorem dL_law_874 : decode cL_law 874 = .ok (.aload 7, 2) := by decide +kernel
theorem dL_law_876 : decode cL_law 876 = .ok (.aload 8, 2) := by decide +kernel
theorem dL_law_878 : decode cL_law 878 = .ok (.invokestatic 120, 3) := by decide +kernel
theorem dL_law_881 : decode cL_law 881 = .ok (.ifCond .eq 18, 3) := by decide +kernel
theorem dL_law_884 : decode cL_law 884 = .ok (.aload_n 1, 1) := by decide +kernel
theorem dL_law_885 : decode cL_law 885 = .ok (.iconst 0, 1) := by decide +kernel
theorem dL_law_886 : decode cL_law 886 = .ok (.iload 15, 2) := by decide +kernel
theorem dL_law_888 : decode cL_law 888 = .ok (.iload 16, 2) := by decide +kernel
theorem dL_law_890 : decode cL_law 890 = .ok (.invokestatic 65, 3) := by decide +kernel
theorem dL_law_893 : decode cL_law 893 = .ok (.iconst 3, 1) := by decide +kernel
theorem dL_law_894 : decode cL_law 894 = .ok (.if_icmp .eq 450, 3) := by decide +kernel
theorem dL_law_897 : decode cL_law 897 = .ok (.iconst 0, 1) := by decide +kernel
theorem dL_law_898 : decode cL_law 898 = .ok (.ireturn, 1) := by decide +kernel
theorem dL_law_899 : decode cL_law 899 = .ok (.aload 8, 2) := by decide +kernel
theorem dL_law_901 : decode cL_law 901 = .ok (.iconst 1, 1) := by decide +kernel
theorem dL_law_902 : decode cL_law 902 = .ok (.iaload, 1) := by decide +kernel
theorem dL_law_903 : decode cL_law 903 = .ok (.bipush 7, 2) := by decide +kernel
theorem dL_law_905 : decode cL_law 905 = .ok (.if_icmp .ne 6, 3) := by decide +kernel
theorem dL_law_908 : decode cL_law 908 = .ok (.goto 436, 3) := by decide +kernel
theorem dL_law_911 : decode cL_law 911 = .ok (.bipush 8, 2) := by decide +kernel
theorem dL_law_913 : decode cL_law 913 = .ok (.aload 8, 2) := by decide +kernel
theorem dL_law_915 : decode cL_law 915 = .ok (.iconst 1, 1) := by decide +kernel
theorem dL_law_916 : decode cL_law 916 = .ok (.iaload, 1) := by decide +kernel
theorem dL_law_917 : decode cL_law 917 = .ok (.imul, 1) := by decide +kernel
theorem dL_law_918 : decode cL_law 918 = .ok (.istore 18, 2) := by decide +kernel
theorem dL_law_920 : decode cL_law 920 = .ok (.aload 7, 2) := by decide +kernel
theorem dL_law_922 : decode cL_law 922 = .ok (.iload 18, 2) := by decide +kernel
theorem dL_law_924 : decode cL_law 924 = .ok (.iload 15, 2) := by decide +kernel
theorem dL_law_926 : decode cL_law 926 = .ok (.iastore, 1) := by decide +kernel
theorem dL_law_927 : decode cL_law 927 = .ok (.aload 7, 2) := by decide +kernel
theorem dL_law_929 : decode cL_law 929 = .ok (.iload 18, 2) := by decide +kernel
theorem dL_law_931 : decode cL_law 931 = .ok (.iconst 1, 1) := by decide +kernel
theorem dL_law_932 : decode cL_law 932 = .ok (.iadd, 1) := by decide +kernel
theorem dL_law_933 : decode cL_law 933 = .ok (.iload 16, 2) := by decide +kernel
theorem dL_law_935 : decode cL_law 935 = .ok (.iastore, 1) := by decide +kernel
theorem dL_law_936 : decode cL_law 936 = .ok (.aload 7, 2) := by decide +kernel
theorem dL_law_938 : decode cL_law 938 = .ok (.iload 18, 2) := by decide +kernel
theorem dL_law_940 : decode cL_law 940 = .ok (.iconst 3, 1) := by decide +kernel
theorem dL_law_941 : decode cL_law 941 = .ok (.iadd, 1) := by decide +kernel
theorem dL_law_942 : decode cL_law 942 = .ok (.aload 5, 2) := by decide +kernel
theorem dL_law_944 : decode cL_law 944 = .ok (.iconst 2, 1) := by decide +kernel
theorem dL_law_945 : decode cL_law 945 = .ok (.aload 6, 2) := by decide +kernel
theorem dL_law_947 : decode cL_law 947 = .ok (.iconst 4, 1) := by decide +kernel
theorem dL_law_948 : decode cL_law 948 = .ok (.iload 15, 2) := by decide +kernel
theorem dL_law_950 : decode cL_law 950 = .ok (.imul, 1) := by decide +kernel
theorem dL_law_951 : decode cL_law 951 = .ok (.iaload, 1) := by decide +kernel
theorem dL_law_952 : decode cL_law 952 = .ok (.imul, 1) := by decide +kernel
theorem dL_law_953 : decode cL_law 953 = .ok (.iaload, 1) := by decide +kernel
theorem dL_law_954 : decode cL_law 954 = .ok (.iastore, 1) := by decide +kernel
theorem dL_law_955 : decode cL_law 955 = .ok (.aload 7, 2) := by decide +kernel
theorem dL_law_957 : decode cL_law 957 = .ok (.iload 18, 2) := by decide +kernel
theorem dL_law_959 : decode cL_law 959 = .ok (.iconst 4, 1) := by decide +kernel
theorem dL_law_960 : decode cL_law 960 = .ok (.iadd, 1) := by decide +kernel
theorem dL_law_961 : decode cL_law 961 = .ok (.aload 5, 2) := by decide +kernel
theorem dL_law_963 : decode cL_law 963 = .ok (.iconst 2, 1) := by decide +kernel
theorem dL_law_964 : decode cL_law 964 = .ok (.aload 6, 2) := by decide +kernel
theorem dL_law_966 : decode cL_law 966 = .ok (.iconst 4, 1) := by decide +kernel
theorem dL_law_967 : decode cL_law 967 = .ok (.iload 15, 2) := by decide +kernel
theorem dL_law_969 : decode cL_law 969 = .ok (.imul, 1) := by decide +kernel
theorem dL_law_970 : decode cL_law 970 = .ok (.iaload, 1) := by decide +kernel
theorem dL_law_971 : decode cL_law 971 = .ok (.imul, 1) := by decide +kernel
theorem dL_law_972 : decode cL_law 972 = .ok (.iconst 1, 1) := by decide +kernel
theorem dL_law_973 : decode cL_law 973 = .ok (.iadd, 1) := by decide +kernel
theorem dL_law_974 : decode cL_law 974 = .ok (.iaload, 1) := by decide +kernel
theorem dL_law_975 : decode cL_law 975 = .ok (.iastore, 1) := by decide +kernel
theorem dL_law_976 : decode cL_law 976 = .ok (.aload 7, 2) := by decide +kernel
theorem dL_law_978 : decode cL_law 978 = .ok (.iload 18, 2) := by decide +kernel
theorem dL_law_980 : decode cL_law 980 = .ok (.bipush 7, 2) := by decide +kernel
theorem dL_law_982 : decode cL_law 982 = .ok (.iadd, 1) := by decide +kernel
theorem dL_law_983 : decode cL_law 983 = .ok (.iload 17, 2) := by decide +kernel
theorem dL_law_985 : decode cL_law 985 = .ok (.iastore, 1) := by decide +kernel
theorem dL_law_986 : decode cL_law 986 = .ok (.aload 8, 2) := by decide +kernel
theorem dL_law_988 : decode cL_law 988 = .ok (.iconst 1, 1) := by decide +kernel
theorem dL_law_989 : decode cL_law 989 = .ok (.dup2, 1) := by decide +kernel
theorem dL_law_990 : decode cL_law 990 = .ok (.iaload, 1) := by decide +kernel
theorem dL_law_991 : decode cL_law 991 = .ok (.iconst 1, 1) := by decide +kernel
theorem dL_law_992 : decode cL_law 992 = .ok (.iadd, 1) := by decide +kernel
theorem dL_law_993 : decode cL_law 993 = .ok (.iastore, 1) := by decide +kernel
theorem dL_law_994 : decode cL_law 994 = .ok (.aload_n 1, 1) := by decide +kernel
theorem dL_law_995 : decode cL_law 995 = .ok (.iload 15, 2) := by decide +kernel
theorem dL_law_997 : decode cL_law 997 = .ok (.iload 16, 2) := by decide +kernel
theorem dL_law_999 : decode cL_law 999 = .ok (.invokevirtual 25, 3) := by decide +kernel
theorem dL_law_1002 : decode cL_law 1002 = .ok (.aload 8, 2) := by decide +kernel
theorem dL_law_1004 : decode cL_law 1004 = .ok (.iconst 1, 1) := by decide +kernel
theorem dL_law_1005 : decode cL_law 1005 = .ok (.iaload, 1) := by decide +kernel
theorem dL_law_1006 : decode cL_law 1006 = .ok (.iconst 1, 1) := by decide +kernel
theorem dL_law_1007 : decode cL_law 1007 = .ok (.isub, 1) := by decide +kernel
theorem dL_law_1008 : decode cL_law 1008 = .ok (.if_icmp .eq 5, 3) := by decide +kernel
theorem dL_law_1011 : decode cL_law 1011 = .ok (.iconst 0, 1) := by decide +kernel
theorem dL_law_1012 : decode cL_law 1012 = .ok (.ireturn, 1) := by decide +kernel
theorem dL_law_1013 : decode cL_law 1013 = .ok (.goto 310, 3) := by decide +kernel
theorem dL_law_1016 : decode cL_law 1016 = .ok (.iload 12, 2) := by decide +kernel
theorem dL_law_1018 : decode cL_law 1018 = .ok (.bipush 15, 2) := by decide +kernel
theorem dL_law_1020 : decode cL_law 1020 = .ok (.if_icmp .ne 96, 3) := by decide +kernel
theorem dL_law_1023 : decode cL_law 1023 = .ok (.iload 11, 2) := by decide +kernel
theorem dL_law_1025 : decode cL_law 1025 = .ok (.bipush 7, 2) := by decide +kernel
theorem dL_law_1027 : decode cL_law 1027 = .ok (.invokestatic 103, 3) := by decide +kernel
theorem dL_law_1030 : decode cL_law 1030 = .ok (.istore 16, 2) := by decide +kernel
theorem dL_law_1032 : decode cL_law 1032 = .ok (.iload 16, 2) := by decide +kernel
theorem dL_law_1034 : decode cL_law 1034 = .ok (.aload 8, 2) := by decide +kernel
theorem dL_law_1036 : decode cL_law 1036 = .ok (.iconst 1, 1) := by decide +kernel
theorem dL_law_1037 : decode cL_law 1037 = .ok (.iaload, 1) := by decide +kernel
theorem dL_law_1038 : decode cL_law 1038 = .ok (.if_icmp .ge 16, 3) := by decide +kernel
theorem dL_law_1041 : decode cL_law 1041 = .ok (.aload 7, 2) := by decide +kernel
theorem dL_law_1043 : decode cL_law 1043 = .ok (.bipush 8, 2) := by decide +kernel
theorem dL_law_1045 : decode cL_law 1045 = .ok (.iload 16, 2) := by decide +kernel
theorem dL_law_1047 : decode cL_law 1047 = .ok (.imul, 1) := by decide +kernel
theorem dL_law_1048 : decode cL_law 1048 = .ok (.iconst 2, 1) := by decide +kernel
theorem dL_law_1049 : decode cL_law 1049 = .ok (.iadd, 1) := by decide +kernel
theorem dL_law_1050 : decode cL_law 1050 = .ok (.iaload, 1) := by decide +kernel
theorem dL_law_1051 : decode cL_law 1051 = .ok (.ifCond .eq 30, 3) := by decide +kernel
theorem dL_law_1054 : decode cL_law 1054 = .ok (.aload_n 1, 1) := by decide +kernel
theorem dL_law_1055 : decode cL_law 1055 = .ok (.iconst 1, 1) := by decide +kernel
theorem dL_law_1056 : decode cL_law 1056 = .ok (.iload 16, 2) := by decide +kernel
theorem dL_law_1058 : decode cL_law 1058 = .ok (.iconst 0, 1) := by decide +kernel
theorem dL_law_1059 : decode cL_law 1059 = .ok (.invokestatic 65, 3) := by decide +kernel
theorem dL_law_1062 : decode cL_law 1062 = .ok (.iload 16, 2) := by decide +kernel
theorem dL_law_1064 : decode cL_law 1064 = .ok (.aload 8, 2) := by decide +kernel
theorem dL_law_1066 : decode cL_law 1066 = .ok (.iconst 1, 1) := by decide +kernel
theorem dL_law_1067 : decode cL_law 1067 = .ok (.iaload, 1) := by decide +kernel
theorem dL_law_1068 : decode cL_law 1068 = .ok (.if_icmp .lt 7, 3) := by decide +kernel
theorem dL_law_1071 : decode cL_law 1071 = .ok (.iconst 1, 1) := by decide +kernel
theorem dL_law_1072 : decode cL_law 1072 = .ok (.goto 4, 3) := by decide +kernel
theorem dL_law_1075 : decode cL_law 1075 = .ok (.iconst 3, 1) := by decide +kernel
theorem dL_law_1076 : decode cL_law 1076 = .ok (.if_icmp .eq 268, 3) := by decide +kernel
theorem dL_law_1079 : decode cL_law 1079 = .ok (.iconst 0, 1) := by decide +kernel
theorem dL_law_1080 : decode cL_law 1080 = .ok (.ireturn, 1) := by decide +kernel
theorem dL_law_1081 : decode cL_law 1081 = .ok (.aload 7, 2) := by decide +kernel
theorem dL_law_1083 : decode cL_law 1083 = .ok (.bipush 8, 2) := by decide +kernel
theorem dL_law_1085 : decode cL_law 1085 = .ok (.iload 16, 2) := by decide +kernel
theorem dL_law_1087 : decode cL_law 1087 = .ok (.imul, 1) := by decide +kernel
theorem dL_law_1088 : decode cL_law 1088 = .ok (.iconst 2, 1) := by decide +kernel
theorem dL_law_1089 : decode cL_law 1089 = .ok (.iadd, 1) := by decide +kernel
theorem dL_law_1090 : decode cL_law 1090 = .ok (.iconst 1, 1) := by decide +kernel
theorem dL_law_1091 : decode cL_law 1091 = .ok (.iastore, 1) := by decide +kernel
theorem dL_law_1092 : decode cL_law 1092 = .ok (.aload_n 1, 1) := by decide +kernel
theorem dL_law_1093 : decode cL_law 1093 = .ok (.iload 16, 2) := by decide +kernel
theorem dL_law_1095 : decode cL_law 1095 = .ok (.invokevirtual 31, 3) := by decide +kernel
theorem dL_law_1098 : decode cL_law 1098 = .ok (.aload 7, 2) := by decide +kernel
theorem dL_law_1100 : decode cL_law 1100 = .ok (.bipush 8, 2) := by decide +kernel
theorem dL_law_1102 : decode cL_law 1102 = .ok (.iload 16, 2) := by decide +kernel
theorem dL_law_1104 : decode cL_law 1104 = .ok (.imul, 1) := by decide +kernel
theorem dL_law_1105 : decode cL_law 1105 = .ok (.iconst 5, 1) := by decide +kernel
theorem dL_law_1106 : decode cL_law 1106 = .ok (.iadd, 1) := by decide +kernel
theorem dL_law_1107 : decode cL_law 1107 = .ok (.iaload, 1) := by decide +kernel
theorem dL_law_1108 : decode cL_law 1108 = .ok (.if_icmp .eq 5, 3) := by decide +kernel
theorem dL_law_1111 : decode cL_law 1111 = .ok (.iconst 0, 1) := by decide +kernel
theorem dL_law_1112 : decode cL_law 1112 = .ok (.ireturn, 1) := by decide +kernel
theorem dL_law_1113 : decode cL_law 1113 = .ok (.goto 210, 3) := by decide +kernel
theorem dL_law_1116 : decode cL_law 1116 = .ok (.iload 12, 2) := by decide +kernel
theorem dL_law_1118 : decode cL_law 1118 = .ok (.bipush 16, 2) := by decide +kernel
theorem dL_law_1120 : decode cL_law 1120 = .ok (.if_icmp .ne 86, 3) := by decide +kernel
theorem dL_law_1123 : decode cL_law 1123 = .ok (.aload 4, 2) := by decide +kernel
theorem dL_law_1125 : decode cL_law 1125 = .ok (.iconst 5, 1) := by decide +kernel
theorem dL_law_1126 : decode cL_law 1126 = .ok (.iload 13, 2) := by decide +kernel
theorem dL_law_1128 : decode cL_law 1128 = .ok (.imul, 1) := by decide +kernel
theorem dL_law_1129 : decode cL_law 1129 = .ok (.iload 14, 2) := by decide +kernel
theorem dL_law_1131 : decode cL_law 1131 = .ok (.iadd, 1) := by decide +kernel
theorem dL_law_1132 : decode cL_law 1132 = .ok (.laload, 1) := by decide +kernel
theorem dL_law_1133 : decode cL_law 1133 = .ok (.lconst 0, 1) := by decide +kernel
theorem dL_law_1134 : decode cL_law 1134 = .ok (.lcmp, 1) := by decide +kernel
theorem dL_law_1135 : decode cL_law 1135 = .ok (.ifCond .gt 18, 3) := by decide +kernel
theorem dL_law_1138 : decode cL_law 1138 = .ok (.aload_n 1, 1) := by decide +kernel
theorem dL_law_1139 : decode cL_law 1139 = .ok (.iconst 2, 1) := by decide +kernel
theorem dL_law_1140 : decode cL_law 1140 = .ok (.iload 13, 2) := by decide +kernel
theorem dL_law_1142 : decode cL_law 1142 = .ok (.iload 14, 2) := by decide +kernel
theorem dL_law_1144 : decode cL_law 1144 = .ok (.invokestatic 65, 3) := by decide +kernel
theorem dL_law_1147 : decode cL_law 1147 = .ok (.iconst 3, 1) := by decide +kernel
theorem dL_law_1148 : decode cL_law 1148 = .ok (.if_icmp .eq 196, 3) := by decide +kernel
theorem dL_law_1151 : decode cL_law 1151 = .ok (.iconst 0, 1) := by decide +kernel
theorem dL_law_1152 : decode cL_law 1152 = .ok (.ireturn, 1) := by decide +kernel
theorem dL_law_1153 : decode cL_law 1153 = .ok (.aload 4, 2) := by decide +kernel
theorem dL_law_1155 : decode cL_law 1155 = .ok (.iconst 5, 1) := by decide +kernel
theorem dL_law_1156 : decode cL_law 1156 = .ok (.iload 13, 2) := by decide +kernel
theorem dL_law_1158 : decode cL_law 1158 = .ok (.imul, 1) := by decide +kernel
theorem dL_law_1159 : decode cL_law 1159 = .ok (.iload 14, 2) := by decide +kernel
theorem dL_law_1161 : decode cL_law 1161 = .ok (.iadd, 1) := by decide +kernel
theorem dL_law_1162 : decode cL_law 1162 = .ok (.laload, 1) := by decide +kernel
theorem dL_law_1163 : decode cL_law 1163 = .ok (.lstore 16, 2) := by decide +kernel
theorem dL_law_1165 : decode cL_law 1165 = .ok (.aload 4, 2) := by decide +kernel
theorem dL_law_1167 : decode cL_law 1167 = .ok (.iconst 5, 1) := by decide +kernel
theorem dL_law_1168 : decode cL_law 1168 = .ok (.iload 13, 2) := by decide +kernel
theorem dL_law_1170 : decode cL_law 1170 = .ok (.imul, 1) := by decide +kernel
theorem dL_law_1171 : decode cL_law 1171 = .ok (.iload 14, 2) := by decide +kernel
theorem dL_law_1173 : decode cL_law 1173 = .ok (.iadd, 1) := by decide +kernel
theorem dL_law_1174 : decode cL_law 1174 = .ok (.lconst 0, 1) := by decide +kernel
theorem dL_law_1175 : decode cL_law 1175 = .ok (.lastore, 1) := by decide +kernel
theorem dL_law_1176 : decode cL_law 1176 = .ok (.aload 4, 2) := by decide +kernel
theorem dL_law_1178 : decode cL_law 1178 = .ok (.iconst 5, 1) := by decide +kernel
theorem dL_law_1179 : decode cL_law 1179 = .ok (.iload 14, 2) := by decide +kernel
theorem dL_law_1181 : decode cL_law 1181 = .ok (.imul, 1) := by decide +kernel
theorem dL_law_1182 : decode cL_law 1182 = .ok (.iload 13, 2) := by decide +kernel
theorem dL_law_1184 : decode cL_law 1184 = .ok (.iadd, 1) := by decide +kernel
theorem dL_law_1185 : decode cL_law 1185 = .ok (.lconst 0, 1) := by decide +kernel
theorem dL_law_1186 : decode cL_law 1186 = .ok (.lastore, 1) := by decide +kernel
theorem dL_law_1187 : decode cL_law 1187 = .ok (.aload_n 1, 1) := by decide +kernel
theorem dL_law_1188 : decode cL_law 1188 = .ok (.iload 13, 2) := by decide +kernel
theorem dL_law_1190 : decode cL_law 1190 = .ok (.iload 14, 2) := by decide +kernel
theorem dL_law_1192 : decode cL_law 1192 = .ok (.invokevirtual 34, 3) := by decide +kernel
theorem dL_law_1195 : decode cL_law 1195 = .ok (.lload 16, 2) := by decide +kernel
theorem dL_law_1197 : decode cL_law 1197 = .ok (.lcmp, 1) := by decide +kernel
theorem dL_law_1198 : decode cL_law 1198 = .ok (.ifCond .eq 5, 3) := by decide +kernel
theorem dL_law_1201 : decode cL_law 1201 = .ok (.iconst 0, 1) := by decide +kernel
theorem dL_law_1202 : decode cL_law 1202 = .ok (.ireturn, 1) := by decide +kernel
theorem dL_law_1203 : decode cL_law 1203 = .ok (.goto 120, 3) := by decide +kernel
theorem dL_law_1206 : decode cL_law 1206 = .ok (.iconst 1, 1) := by decide +kernel
theorem dL_law_1207 : decode cL_law 1207 = .ok (.iload 11, 2) := by decide +kernel
theorem dL_law_1209 : decode cL_law 1209 = .ok (.bipush 8, 2) := by decide +kernel
theorem dL_law_1211 : decode cL_law 1211 = .ok (.invokestatic 103, 3) := by decide +kernel
theorem dL_law_1214 : decode cL_law 1214 = .ok (.iadd, 1) := by decide +kernel
theorem dL_law_1215 : decode cL_law 1215 = .ok (.istore 16, 2) := by decide +kernel
theorem dL_law_1217 : decode cL_law 1217 = .ok (.iconst 0, 1) := by decide +kernel
theorem dL_law_1218 : decode cL_law 1218 = .ok (.istore 17, 2) := by decide +kernel
theorem dL_law_1220 : decode cL_law 1220 = .ok (.iconst 0, 1) := by decide +kernel
theorem dL_law_1221 : decode cL_law 1221 = .ok (.istore 18, 2) := by decide +kernel
theorem dL_law_1223 : decode cL_law 1223 = .ok (.iload 18, 2) := by decide +kernel
theorem dL_law_1225 : decode cL_law 1225 = .ok (.iload 16, 2) := by decide +kernel
theorem dL_law_1227 : decode cL_law 1227 = .ok (.if_icmp .ge 83, 3) := by decide +kernel
theorem dL_law_1230 : decode cL_law 1230 = .ok (.iconst 0, 1) := by decide +kernel
theorem dL_law_1231 : decode cL_law 1231 = .ok (.istore 19, 2) := by decide +kernel
theorem dL_law_1233 : decode cL_law 1233 = .ok (.iload 19, 2) := by decide +kernel
theorem dL_law_1235 : decode cL_law 1235 = .ok (.aload 8, 2) := by decide +kernel
theorem dL_law_1237 : decode cL_law 1237 = .ok (.iconst 1, 1) := by decide +kernel
theorem dL_law_1238 : decode cL_law 1238 = .ok (.iaload, 1) := by decide +kernel
theorem dL_law_1239 : decode cL_law 1239 = .ok (.if_icmp .ge 65, 3) := by decide +kernel
theorem dL_law_1242 : decode cL_law 1242 = .ok (.aload 7, 2) := by decide +kernel
theorem dL_law_1244 : decode cL_law 1244 = .ok (.bipush 8, 2) := by decide +kernel
theorem dL_law_1246 : decode cL_law 1246 = .ok (.iload 19, 2) := by decide +kernel
theorem dL_law_1248 : decode cL_law 1248 = .ok (.imul, 1) := by decide +kernel
theorem dL_law_1249 : decode cL_law 1249 = .ok (.iconst 2, 1) := by decide +kernel
theorem dL_law_1250 : decode cL_law 1250 = .ok (.iadd, 1) := by decide +kernel
theorem dL_law_1251 : decode cL_law 1251 = .ok (.iaload, 1) := by decide +kernel
theorem dL_law_1252 : decode cL_law 1252 = .ok (.ifCond .eq 6, 3) := by decide +kernel
theorem dL_law_1255 : decode cL_law 1255 = .ok (.goto 43, 3) := by decide +kernel
theorem dL_law_1258 : decode cL_law 1258 = .ok (.bipush 8, 2) := by decide +kernel
theorem dL_law_1260 : decode cL_law 1260 = .ok (.iload 19, 2) := by decide +kernel
theorem dL_law_1262 : decode cL_law 1262 = .ok (.imul, 1) := by decide +kernel
theorem dL_law_1263 : decode cL_law 1263 = .ok (.aload_n 2, 1) := by decide +kernel
theorem dL_law_1264 : decode cL_law 1264 = .ok (.aload_n 3, 1) := by decide +kernel
theorem dL_law_1265 : decode cL_law 1265 = .ok (.aload 4, 2) := by decide +kernel
theorem dL_law_1267 : decode cL_law 1267 = .ok (.aload 6, 2) := by decide +kernel
theorem dL_law_1269 : decode cL_law 1269 = .ok (.aload 7, 2) := by decide +kernel
theorem dL_law_1271 : decode cL_law 1271 = .ok (.invokestatic 124, 3) := by decide +kernel
theorem dL_law_1274 : decode cL_law 1274 = .ok (.iload 17, 2) := by decide +kernel
theorem dL_law_1276 : decode cL_law 1276 = .ok (.aload 7, 2) := by decide +kernel
theorem dL_law_1278 : decode cL_law 1278 = .ok (.bipush 8, 2) := by decide +kernel
theorem dL_law_1280 : decode cL_law 1280 = .ok (.iload 19, 2) := by decide +kernel
theorem dL_law_1282 : decode cL_law 1282 = .ok (.imul, 1) := by decide +kernel
theorem dL_law_1283 : decode cL_law 1283 = .ok (.iconst 2, 1) := by decide +kernel
theorem dL_law_1284 : decode cL_law 1284 = .ok (.iadd, 1) := by decide +kernel
theorem dL_law_1285 : decode cL_law 1285 = .ok (.iaload, 1) := by decide +kernel
theorem dL_law_1286 : decode cL_law 1286 = .ok (.iconst 2, 1) := by decide +kernel
theorem dL_law_1287 : decode cL_law 1287 = .ok (.if_icmp .ne 7, 3) := by decide +kernel
theorem dL_law_1290 : decode cL_law 1290 = .ok (.iconst 1, 1) := by decide +kernel
theorem dL_law_1291 : decode cL_law 1291 = .ok (.goto 4, 3) := by decide +kernel
theorem dL_law_1294 : decode cL_law 1294 = .ok (.iconst 0, 1) := by decide +kernel
theorem dL_law_1295 : decode cL_law 1295 = .ok (.iadd, 1) := by decide +kernel
theorem dL_law_1296 : decode cL_law 1296 = .ok (.istore 17, 2) := by decide +kernel
theorem dL_law_1298 : decode cL_law 1298 = .ok (.iinc 19 1, 3) := by decide +kernel
theorem dL_law_1301 : decode cL_law 1301 = .ok (.goto (-68), 3) := by decide +kernel
theorem dL_law_1304 : decode cL_law 1304 = .ok (.iinc 18 1, 3) := by decide +kernel
theorem dL_law_1307 : decode cL_law 1307 = .ok (.goto (-84), 3) := by decide +kernel
theorem dL_law_1310 : decode cL_law 1310 = .ok (.aload_n 1, 1) := by decide +kernel
theorem dL_law_1311 : decode cL_law 1311 = .ok (.iload 16, 2) := by decide +kernel
theorem dL_law_1313 : decode cL_law 1313 = .ok (.invokevirtual 128, 3) := by decide +kernel
theorem dL_law_1316 : decode cL_law 1316 = .ok (.iload 17, 2) := by decide +kernel
theorem dL_law_1318 : decode cL_law 1318 = .ok (.if_icmp .eq 5, 3) := by decide +kernel
theorem dL_law_1321 : decode cL_law 1321 = .ok (.iconst 0, 1) := by decide +kernel
theorem dL_law_1322 : decode cL_law 1322 = .ok (.ireturn, 1) := by decide +kernel
theorem dL_law_1323 : decode cL_law 1323 = .ok (.aload_n 1, 1) := by decide +kernel
theorem dL_law_1324 : decode cL_law 1324 = .ok (.aload_n 2, 1) := by decide +kernel
theorem dL_law_1325 : decode cL_law 1325 = .ok (.aload_n 3, 1) := by decide +kernel
theorem dL_law_1326 : decode cL_law 1326 = .ok (.aload 4, 2) := by decide +kernel
theorem dL_law_1328 : decode cL_law 1328 = .ok (.aload 6, 2) := by decide +kernel
theorem dL_law_1330 : decode cL_law 1330 = .ok (.aload 7, 2) := by decide +kernel
theorem dL_law_1332 : decode cL_law 1332 = .ok (.aload 8, 2) := by decide +kernel
theorem dL_law_1334 : decode cL_law 1334 = .ok (.iload 13, 2) := by decide +kernel
theorem dL_law_1336 : decode cL_law 1336 = .ok (.invokestatic 131, 3) := by decide +kernel
theorem dL_law_1339 : decode cL_law 1339 = .ok (.ifCond .ne 5, 3) := by decide +kernel
theorem dL_law_1342 : decode cL_law 1342 = .ok (.iconst 0, 1) := by decide +kernel
theorem dL_law_1343 : decode cL_law 1343 = .ok (.ireturn, 1) := by decide +kernel
theorem dL_law_1344 : decode cL_law 1344 = .ok (.iinc 9 1, 3) := by decide +kernel
theorem dL_law_1347 : decode cL_law 1347 = .ok (.goto (-1240), 3) := by decide +kernel
theorem dL_law_1350 : decode cL_law 1350 = .ok (.iconst 1, 1) := by decide +kernel
theorem dL_law_1351 : decode cL_law 1351 = .ok (.ireturn, 1) := by decide +kernel
