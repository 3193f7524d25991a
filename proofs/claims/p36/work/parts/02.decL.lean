theorem dL_cell_0 : decode cL_cell 0 = .ok (.iload_n 1, 1) := by decide +kernel
theorem dL_cell_1 : decode cL_cell 1 = .ok (.aload_n 0, 1) := by decide +kernel
theorem dL_cell_2 : decode cL_cell 2 = .ok (.arraylength, 1) := by decide +kernel
theorem dL_cell_3 : decode cL_cell 3 = .ok (.if_icmp .ge 9, 3) := by decide +kernel
theorem dL_cell_6 : decode cL_cell 6 = .ok (.aload_n 0, 1) := by decide +kernel
theorem dL_cell_7 : decode cL_cell 7 = .ok (.iload_n 1, 1) := by decide +kernel
theorem dL_cell_8 : decode cL_cell 8 = .ok (.iaload, 1) := by decide +kernel
theorem dL_cell_9 : decode cL_cell 9 = .ok (.goto 15, 3) := by decide +kernel
theorem dL_cell_12 : decode cL_cell 12 = .ok (.sipush 7919, 3) := by decide +kernel
theorem dL_cell_15 : decode cL_cell 15 = .ok (.iload_n 1, 1) := by decide +kernel
theorem dL_cell_16 : decode cL_cell 16 = .ok (.iconst 3, 1) := by decide +kernel
theorem dL_cell_17 : decode cL_cell 17 = .ok (.iadd, 1) := by decide +kernel
theorem dL_cell_18 : decode cL_cell 18 = .ok (.imul, 1) := by decide +kernel
theorem dL_cell_19 : decode cL_cell 19 = .ok (.iload_n 1, 1) := by decide +kernel
theorem dL_cell_20 : decode cL_cell 20 = .ok (.bipush 11, 2) := by decide +kernel
theorem dL_cell_22 : decode cL_cell 22 = .ok (.iadd, 1) := by decide +kernel
theorem dL_cell_23 : decode cL_cell 23 = .ok (.imul, 1) := by decide +kernel
theorem dL_cell_24 : decode cL_cell 24 = .ok (.ireturn, 1) := by decide +kernel
theorem dL_low_0 : decode cL_low 0 = .ok (.iload_n 0, 1) := by decide +kernel
theorem dL_low_1 : decode cL_low 1 = .ok (.ldc 7, 2) := by decide +kernel
theorem dL_low_3 : decode cL_low 3 = .ok (.iand, 1) := by decide +kernel
theorem dL_low_4 : decode cL_low 4 = .ok (.iload_n 1, 1) := by decide +kernel
theorem dL_low_5 : decode cL_low 5 = .ok (.irem, 1) := by decide +kernel
theorem dL_low_6 : decode cL_low 6 = .ok (.ireturn, 1) := by decide +kernel
theorem dL_areLossesSound_0 : decode cL_areLossesSound 0 = .ok (.iconst 0, 1) := by decide +kernel
theorem dL_areLossesSound_1 : decode cL_areLossesSound 1 = .ok (.istore_n 1, 1) := by decide +kernel
theorem dL_areLossesSound_2 : decode cL_areLossesSound 2 = .ok (.iconst 0, 1) := by decide +kernel
theorem dL_areLossesSound_3 : decode cL_areLossesSound 3 = .ok (.istore_n 2, 1) := by decide +kernel
theorem dL_areLossesSound_4 : decode cL_areLossesSound 4 = .ok (.iconst 0, 1) := by decide +kernel
theorem dL_areLossesSound_5 : decode cL_areLossesSound 5 = .ok (.istore_n 3, 1) := by decide +kernel
theorem dL_areLossesSound_6 : decode cL_areLossesSound 6 = .ok (.iconst 0, 1) := by decide +kernel
theorem dL_areLossesSound_7 : decode cL_areLossesSound 7 = .ok (.istore 4, 2) := by decide +kernel
theorem dL_areLossesSound_9 : decode cL_areLossesSound 9 = .ok (.lconst 0, 1) := by decide +kernel
theorem dL_areLossesSound_10 : decode cL_areLossesSound 10 = .ok (.lstore 5, 2) := by decide +kernel
theorem dL_areLossesSound_12 : decode cL_areLossesSound 12 = .ok (.iconst 0, 1) := by decide +kernel
theorem dL_areLossesSound_13 : decode cL_areLossesSound 13 = .ok (.istore 7, 2) := by decide +kernel
theorem dL_areLossesSound_15 : decode cL_areLossesSound 15 = .ok (.iload 7, 2) := by decide +kernel
theorem dL_areLossesSound_17 : decode cL_areLossesSound 17 = .ok (.aload_n 0, 1) := by decide +kernel
theorem dL_areLossesSound_18 : decode cL_areLossesSound 18 = .ok (.iconst 1, 1) := by decide +kernel
theorem dL_areLossesSound_19 : decode cL_areLossesSound 19 = .ok (.invokevirtual 8, 3) := by decide +kernel
theorem dL_areLossesSound_22 : decode cL_areLossesSound 22 = .ok (.if_icmp .ge 177, 3) := by decide +kernel
theorem dL_areLossesSound_25 : decode cL_areLossesSound 25 = .ok (.aload_n 0, 1) := by decide +kernel
theorem dL_areLossesSound_26 : decode cL_areLossesSound 26 = .ok (.iload 7, 2) := by decide +kernel
theorem dL_areLossesSound_28 : decode cL_areLossesSound 28 = .ok (.iconst 5, 1) := by decide +kernel
theorem dL_areLossesSound_29 : decode cL_areLossesSound 29 = .ok (.invokevirtual 14, 3) := by decide +kernel
theorem dL_areLossesSound_32 : decode cL_areLossesSound 32 = .ok (.istore 8, 2) := by decide +kernel
theorem dL_areLossesSound_34 : decode cL_areLossesSound 34 = .ok (.aload_n 0, 1) := by decide +kernel
theorem dL_areLossesSound_35 : decode cL_areLossesSound 35 = .ok (.iload 7, 2) := by decide +kernel
theorem dL_areLossesSound_37 : decode cL_areLossesSound 37 = .ok (.invokevirtual 18, 3) := by decide +kernel
theorem dL_areLossesSound_40 : decode cL_areLossesSound 40 = .ok (.istore 9, 2) := by decide +kernel
theorem dL_areLossesSound_42 : decode cL_areLossesSound 42 = .ok (.aload_n 0, 1) := by decide +kernel
theorem dL_areLossesSound_43 : decode cL_areLossesSound 43 = .ok (.iload 7, 2) := by decide +kernel
theorem dL_areLossesSound_45 : decode cL_areLossesSound 45 = .ok (.iconst 2, 1) := by decide +kernel
theorem dL_areLossesSound_46 : decode cL_areLossesSound 46 = .ok (.invokevirtual 14, 3) := by decide +kernel
theorem dL_areLossesSound_49 : decode cL_areLossesSound 49 = .ok (.aload_n 0, 1) := by decide +kernel
theorem dL_areLossesSound_50 : decode cL_areLossesSound 50 = .ok (.iload 7, 2) := by decide +kernel
theorem dL_areLossesSound_52 : decode cL_areLossesSound 52 = .ok (.iconst 2, 1) := by decide +kernel
theorem dL_areLossesSound_53 : decode cL_areLossesSound 53 = .ok (.invokevirtual 14, 3) := by decide +kernel
theorem dL_areLossesSound_56 : decode cL_areLossesSound 56 = .ok (.imul, 1) := by decide +kernel
theorem dL_areLossesSound_57 : decode cL_areLossesSound 57 = .ok (.aload_n 0, 1) := by decide +kernel
theorem dL_areLossesSound_58 : decode cL_areLossesSound 58 = .ok (.aload_n 0, 1) := by decide +kernel
theorem dL_areLossesSound_59 : decode cL_areLossesSound 59 = .ok (.iload 7, 2) := by decide +kernel
theorem dL_areLossesSound_61 : decode cL_areLossesSound 61 = .ok (.bipush 7, 2) := by decide +kernel
theorem dL_areLossesSound_63 : decode cL_areLossesSound 63 = .ok (.invokevirtual 14, 3) := by decide +kernel
theorem dL_areLossesSound_66 : decode cL_areLossesSound 66 = .ok (.invokevirtual 21, 3) := by decide +kernel
theorem dL_areLossesSound_69 : decode cL_areLossesSound 69 = .ok (.iconst 1, 1) := by decide +kernel
theorem dL_areLossesSound_70 : decode cL_areLossesSound 70 = .ok (.iadd, 1) := by decide +kernel
theorem dL_areLossesSound_71 : decode cL_areLossesSound 71 = .ok (.imul, 1) := by decide +kernel
theorem dL_areLossesSound_72 : decode cL_areLossesSound 72 = .ok (.bipush 10, 2) := by decide +kernel
theorem dL_areLossesSound_74 : decode cL_areLossesSound 74 = .ok (.imul, 1) := by decide +kernel
theorem dL_areLossesSound_75 : decode cL_areLossesSound 75 = .ok (.istore 10, 2) := by decide +kernel
theorem dL_areLossesSound_77 : decode cL_areLossesSound 77 = .ok (.iload 9, 2) := by decide +kernel
theorem dL_areLossesSound_79 : decode cL_areLossesSound 79 = .ok (.iload 8, 2) := by decide +kernel
theorem dL_areLossesSound_81 : decode cL_areLossesSound 81 = .ok (.iconst 3, 1) := by decide +kernel
theorem dL_areLossesSound_82 : decode cL_areLossesSound 82 = .ok (.if_icmp .ne 8, 3) := by decide +kernel
theorem dL_areLossesSound_85 : decode cL_areLossesSound 85 = .ok (.iload 10, 2) := by decide +kernel
theorem dL_areLossesSound_87 : decode cL_areLossesSound 87 = .ok (.goto 17, 3) := by decide +kernel
theorem dL_areLossesSound_90 : decode cL_areLossesSound 90 = .ok (.iload 8, 2) := by decide +kernel
theorem dL_areLossesSound_92 : decode cL_areLossesSound 92 = .ok (.iconst 2, 1) := by decide +kernel
theorem dL_areLossesSound_93 : decode cL_areLossesSound 93 = .ok (.if_icmp .ne 10, 3) := by decide +kernel
theorem dL_areLossesSound_96 : decode cL_areLossesSound 96 = .ok (.iload 10, 2) := by decide +kernel
theorem dL_areLossesSound_98 : decode cL_areLossesSound 98 = .ok (.iconst 4, 1) := by decide +kernel
theorem dL_areLossesSound_99 : decode cL_areLossesSound 99 = .ok (.idiv, 1) := by decide +kernel
theorem dL_areLossesSound_100 : decode cL_areLossesSound 100 = .ok (.goto 4, 3) := by decide +kernel
theorem dL_areLossesSound_103 : decode cL_areLossesSound 103 = .ok (.iconst 0, 1) := by decide +kernel
theorem dL_areLossesSound_104 : decode cL_areLossesSound 104 = .ok (.if_icmp .ne 71, 3) := by decide +kernel
theorem dL_areLossesSound_107 : decode cL_areLossesSound 107 = .ok (.aload_n 0, 1) := by decide +kernel
theorem dL_areLossesSound_108 : decode cL_areLossesSound 108 = .ok (.iload 7, 2) := by decide +kernel
theorem dL_areLossesSound_110 : decode cL_areLossesSound 110 = .ok (.bipush 7, 2) := by decide +kernel
theorem dL_areLossesSound_112 : decode cL_areLossesSound 112 = .ok (.invokevirtual 14, 3) := by decide +kernel
theorem dL_areLossesSound_115 : decode cL_areLossesSound 115 = .ok (.aload_n 0, 1) := by decide +kernel
theorem dL_areLossesSound_116 : decode cL_areLossesSound 116 = .ok (.aload_n 0, 1) := by decide +kernel
theorem dL_areLossesSound_117 : decode cL_areLossesSound 117 = .ok (.iload 7, 2) := by decide +kernel
theorem dL_areLossesSound_119 : decode cL_areLossesSound 119 = .ok (.iconst 0, 1) := by decide +kernel
theorem dL_areLossesSound_120 : decode cL_areLossesSound 120 = .ok (.invokevirtual 14, 3) := by decide +kernel
theorem dL_areLossesSound_123 : decode cL_areLossesSound 123 = .ok (.invokevirtual 24, 3) := by decide +kernel
theorem dL_areLossesSound_126 : decode cL_areLossesSound 126 = .ok (.if_icmp .ne 49, 3) := by decide +kernel
theorem dL_areLossesSound_129 : decode cL_areLossesSound 129 = .ok (.iload 8, 2) := by decide +kernel
theorem dL_areLossesSound_131 : decode cL_areLossesSound 131 = .ok (.ifCond .ne 7, 3) := by decide +kernel
theorem dL_areLossesSound_134 : decode cL_areLossesSound 134 = .ok (.iconst 1, 1) := by decide +kernel
theorem dL_areLossesSound_135 : decode cL_areLossesSound 135 = .ok (.goto 4, 3) := by decide +kernel
theorem dL_areLossesSound_138 : decode cL_areLossesSound 138 = .ok (.iconst 0, 1) := by decide +kernel
theorem dL_areLossesSound_139 : decode cL_areLossesSound 139 = .ok (.aload_n 0, 1) := by decide +kernel
theorem dL_areLossesSound_140 : decode cL_areLossesSound 140 = .ok (.iload 7, 2) := by decide +kernel
theorem dL_areLossesSound_142 : decode cL_areLossesSound 142 = .ok (.bipush 6, 2) := by decide +kernel
theorem dL_areLossesSound_144 : decode cL_areLossesSound 144 = .ok (.invokevirtual 14, 3) := by decide +kernel
theorem dL_areLossesSound_147 : decode cL_areLossesSound 147 = .ok (.iconst (-1), 1) := by decide +kernel
theorem dL_areLossesSound_148 : decode cL_areLossesSound 148 = .ok (.if_icmp .ne 7, 3) := by decide +kernel
theorem dL_areLossesSound_151 : decode cL_areLossesSound 151 = .ok (.iconst 1, 1) := by decide +kernel
theorem dL_areLossesSound_152 : decode cL_areLossesSound 152 = .ok (.goto 4, 3) := by decide +kernel
theorem dL_areLossesSound_155 : decode cL_areLossesSound 155 = .ok (.iconst 0, 1) := by decide +kernel
theorem dL_areLossesSound_156 : decode cL_areLossesSound 156 = .ok (.if_icmp .ne 19, 3) := by decide +kernel
theorem dL_areLossesSound_159 : decode cL_areLossesSound 159 = .ok (.aload_n 0, 1) := by decide +kernel
theorem dL_areLossesSound_160 : decode cL_areLossesSound 160 = .ok (.iload 7, 2) := by decide +kernel
theorem dL_areLossesSound_162 : decode cL_areLossesSound 162 = .ok (.bipush 6, 2) := by decide +kernel
theorem dL_areLossesSound_164 : decode cL_areLossesSound 164 = .ok (.invokevirtual 14, 3) := by decide +kernel
theorem dL_areLossesSound_167 : decode cL_areLossesSound 167 = .ok (.aload_n 0, 1) := by decide +kernel
theorem dL_areLossesSound_168 : decode cL_areLossesSound 168 = .ok (.iconst 5, 1) := by decide +kernel
theorem dL_areLossesSound_169 : decode cL_areLossesSound 169 = .ok (.invokevirtual 8, 3) := by decide +kernel
theorem dL_areLossesSound_172 : decode cL_areLossesSound 172 = .ok (.if_icmp .le 5, 3) := by decide +kernel
theorem dL_areLossesSound_175 : decode cL_areLossesSound 175 = .ok (.iconst 0, 1) := by decide +kernel
theorem dL_areLossesSound_176 : decode cL_areLossesSound 176 = .ok (.ireturn, 1) := by decide +kernel
theorem dL_areLossesSound_177 : decode cL_areLossesSound 177 = .ok (.iload_n 1, 1) := by decide +kernel
theorem dL_areLossesSound_178 : decode cL_areLossesSound 178 = .ok (.iload 9, 2) := by decide +kernel
theorem dL_areLossesSound_180 : decode cL_areLossesSound 180 = .ok (.iadd, 1) := by decide +kernel
theorem dL_areLossesSound_181 : decode cL_areLossesSound 181 = .ok (.istore_n 1, 1) := by decide +kernel
theorem dL_areLossesSound_182 : decode cL_areLossesSound 182 = .ok (.lload 5, 2) := by decide +kernel
theorem dL_areLossesSound_184 : decode cL_areLossesSound 184 = .ok (.aload_n 0, 1) := by decide +kernel
theorem dL_areLossesSound_185 : decode cL_areLossesSound 185 = .ok (.iload 7, 2) := by decide +kernel
theorem dL_areLossesSound_187 : decode cL_areLossesSound 187 = .ok (.invokevirtual 27, 3) := by decide +kernel
theorem dL_areLossesSound_190 : decode cL_areLossesSound 190 = .ok (.ladd, 1) := by decide +kernel
theorem dL_areLossesSound_191 : decode cL_areLossesSound 191 = .ok (.lstore 5, 2) := by decide +kernel
theorem dL_areLossesSound_193 : decode cL_areLossesSound 193 = .ok (.iinc 7 1, 3) := by decide +kernel
theorem dL_areLossesSound_196 : decode cL_areLossesSound 196 = .ok (.goto (-181), 3) := by decide +kernel
theorem dL_areLossesSound_199 : decode cL_areLossesSound 199 = .ok (.iconst 0, 1) := by decide +kernel
theorem dL_areLossesSound_200 : decode cL_areLossesSound 200 = .ok (.istore 7, 2) := by decide +kernel
theorem dL_areLossesSound_202 : decode cL_areLossesSound 202 = .ok (.iload 7, 2) := by decide +kernel
theorem dL_areLossesSound_204 : decode cL_areLossesSound 204 = .ok (.aload_n 0, 1) := by decide +kernel
theorem dL_areLossesSound_205 : decode cL_areLossesSound 205 = .ok (.iconst 0, 1) := by decide +kernel
theorem dL_areLossesSound_206 : decode cL_areLossesSound 206 = .ok (.invokevirtual 8, 3) := by decide +kernel
theorem dL_areLossesSound_209 : decode cL_areLossesSound 209 = .ok (.if_icmp .ge 76, 3) := by decide +kernel
theorem dL_areLossesSound_212 : decode cL_areLossesSound 212 = .ok (.iconst 0, 1) := by decide +kernel
theorem dL_areLossesSound_213 : decode cL_areLossesSound 213 = .ok (.istore 8, 2) := by decide +kernel
theorem dL_areLossesSound_215 : decode cL_areLossesSound 215 = .ok (.iconst 0, 1) := by decide +kernel
theorem dL_areLossesSound_216 : decode cL_areLossesSound 216 = .ok (.istore 9, 2) := by decide +kernel
theorem dL_areLossesSound_218 : decode cL_areLossesSound 218 = .ok (.iload 9, 2) := by decide +kernel
theorem dL_areLossesSound_220 : decode cL_areLossesSound 220 = .ok (.aload_n 0, 1) := by decide +kernel
theorem dL_areLossesSound_221 : decode cL_areLossesSound 221 = .ok (.iconst 1, 1) := by decide +kernel
theorem dL_areLossesSound_222 : decode cL_areLossesSound 222 = .ok (.invokevirtual 8, 3) := by decide +kernel
theorem dL_areLossesSound_225 : decode cL_areLossesSound 225 = .ok (.if_icmp .ge 36, 3) := by decide +kernel
theorem dL_areLossesSound_228 : decode cL_areLossesSound 228 = .ok (.iload 8, 2) := by decide +kernel
theorem dL_areLossesSound_230 : decode cL_areLossesSound 230 = .ok (.aload_n 0, 1) := by decide +kernel
theorem dL_areLossesSound_231 : decode cL_areLossesSound 231 = .ok (.iload 9, 2) := by decide +kernel
theorem dL_areLossesSound_233 : decode cL_areLossesSound 233 = .ok (.iconst 0, 1) := by decide +kernel
theorem dL_areLossesSound_234 : decode cL_areLossesSound 234 = .ok (.invokevirtual 14, 3) := by decide +kernel
theorem dL_areLossesSound_237 : decode cL_areLossesSound 237 = .ok (.iload 7, 2) := by decide +kernel
theorem dL_areLossesSound_239 : decode cL_areLossesSound 239 = .ok (.if_icmp .ne 12, 3) := by decide +kernel
theorem dL_areLossesSound_242 : decode cL_areLossesSound 242 = .ok (.aload_n 0, 1) := by decide +kernel
theorem dL_areLossesSound_243 : decode cL_areLossesSound 243 = .ok (.iload 9, 2) := by decide +kernel
theorem dL_areLossesSound_245 : decode cL_areLossesSound 245 = .ok (.invokevirtual 18, 3) := by decide +kernel
theorem dL_areLossesSound_248 : decode cL_areLossesSound 248 = .ok (.goto 4, 3) := by decide +kernel
theorem dL_areLossesSound_251 : decode cL_areLossesSound 251 = .ok (.iconst 0, 1) := by decide +kernel
theorem dL_areLossesSound_252 : decode cL_areLossesSound 252 = .ok (.iadd, 1) := by decide +kernel
theorem dL_areLossesSound_253 : decode cL_areLossesSound 253 = .ok (.istore 8, 2) := by decide +kernel
theorem dL_areLossesSound_255 : decode cL_areLossesSound 255 = .ok (.iinc 9 1, 3) := by decide +kernel
theorem dL_areLossesSound_258 : decode cL_areLossesSound 258 = .ok (.goto (-40), 3) := by decide +kernel
theorem dL_areLossesSound_261 : decode cL_areLossesSound 261 = .ok (.aload_n 0, 1) := by decide +kernel
theorem dL_areLossesSound_262 : decode cL_areLossesSound 262 = .ok (.iload 7, 2) := by decide +kernel
theorem dL_areLossesSound_264 : decode cL_areLossesSound 264 = .ok (.invokevirtual 31, 3) := by decide +kernel
theorem dL_areLossesSound_267 : decode cL_areLossesSound 267 = .ok (.iload 8, 2) := by decide +kernel
theorem dL_areLossesSound_269 : decode cL_areLossesSound 269 = .ok (.if_icmp .eq 5, 3) := by decide +kernel
theorem dL_areLossesSound_272 : decode cL_areLossesSound 272 = .ok (.iconst 0, 1) := by decide +kernel
theorem dL_areLossesSound_273 : decode cL_areLossesSound 273 = .ok (.ireturn, 1) := by decide +kernel
theorem dL_areLossesSound_274 : decode cL_areLossesSound 274 = .ok (.iload_n 3, 1) := by decide +kernel
theorem dL_areLossesSound_275 : decode cL_areLossesSound 275 = .ok (.iload 8, 2) := by decide +kernel
theorem dL_areLossesSound_277 : decode cL_areLossesSound 277 = .ok (.iadd, 1) := by decide +kernel
theorem dL_areLossesSound_278 : decode cL_areLossesSound 278 = .ok (.istore_n 3, 1) := by decide +kernel
theorem dL_areLossesSound_279 : decode cL_areLossesSound 279 = .ok (.iinc 7 1, 3) := by decide +kernel
theorem dL_areLossesSound_282 : decode cL_areLossesSound 282 = .ok (.goto (-80), 3) := by decide +kernel
theorem dL_areLossesSound_285 : decode cL_areLossesSound 285 = .ok (.iconst 0, 1) := by decide +kernel
theorem dL_areLossesSound_286 : decode cL_areLossesSound 286 = .ok (.istore 7, 2) := by decide +kernel
theorem dL_areLossesSound_288 : decode cL_areLossesSound 288 = .ok (.iload 7, 2) := by decide +kernel
theorem dL_areLossesSound_290 : decode cL_areLossesSound 290 = .ok (.iconst 3, 1) := by decide +kernel
theorem dL_areLossesSound_291 : decode cL_areLossesSound 291 = .ok (.if_icmp .ge 18, 3) := by decide +kernel
theorem dL_areLossesSound_294 : decode cL_areLossesSound 294 = .ok (.iload_n 2, 1) := by decide +kernel
theorem dL_areLossesSound_295 : decode cL_areLossesSound 295 = .ok (.aload_n 0, 1) := by decide +kernel
theorem dL_areLossesSound_296 : decode cL_areLossesSound 296 = .ok (.iload 7, 2) := by decide +kernel
theorem dL_areLossesSound_298 : decode cL_areLossesSound 298 = .ok (.invokevirtual 34, 3) := by decide +kernel
theorem dL_areLossesSound_301 : decode cL_areLossesSound 301 = .ok (.iadd, 1) := by decide +kernel
theorem dL_areLossesSound_302 : decode cL_areLossesSound 302 = .ok (.istore_n 2, 1) := by decide +kernel
theorem dL_areLossesSound_303 : decode cL_areLossesSound 303 = .ok (.iinc 7 1, 3) := by decide +kernel
theorem dL_areLossesSound_306 : decode cL_areLossesSound 306 = .ok (.goto (-18), 3) := by decide +kernel
theorem dL_areLossesSound_309 : decode cL_areLossesSound 309 = .ok (.iconst 0, 1) := by decide +kernel
theorem dL_areLossesSound_310 : decode cL_areLossesSound 310 = .ok (.istore 7, 2) := by decide +kernel
theorem dL_areLossesSound_312 : decode cL_areLossesSound 312 = .ok (.iload 7, 2) := by decide +kernel
theorem dL_areLossesSound_314 : decode cL_areLossesSound 314 = .ok (.bipush 6, 2) := by decide +kernel
theorem dL_areLossesSound_316 : decode cL_areLossesSound 316 = .ok (.if_icmp .ge 20, 3) := by decide +kernel
theorem dL_areLossesSound_319 : decode cL_areLossesSound 319 = .ok (.iload 4, 2) := by decide +kernel
theorem dL_areLossesSound_321 : decode cL_areLossesSound 321 = .ok (.aload_n 0, 1) := by decide +kernel
theorem dL_areLossesSound_322 : decode cL_areLossesSound 322 = .ok (.iload 7, 2) := by decide +kernel
theorem dL_areLossesSound_324 : decode cL_areLossesSound 324 = .ok (.invokevirtual 37, 3) := by decide +kernel
theorem dL_areLossesSound_327 : decode cL_areLossesSound 327 = .ok (.iadd, 1) := by decide +kernel
theorem dL_areLossesSound_328 : decode cL_areLossesSound 328 = .ok (.istore 4, 2) := by decide +kernel
theorem dL_areLossesSound_330 : decode cL_areLossesSound 330 = .ok (.iinc 7 1, 3) := by decide +kernel
theorem dL_areLossesSound_333 : decode cL_areLossesSound 333 = .ok (.goto (-21), 3) := by decide +kernel
theorem dL_areLossesSound_336 : decode cL_areLossesSound 336 = .ok (.iload_n 3, 1) := by decide +kernel
theorem dL_areLossesSound_337 : decode cL_areLossesSound 337 = .ok (.iload_n 1, 1) := by decide +kernel
theorem dL_areLossesSound_338 : decode cL_areLossesSound 338 = .ok (.if_icmp .ne 33, 3) := by decide +kernel
theorem dL_areLossesSound_341 : decode cL_areLossesSound 341 = .ok (.iload_n 2, 1) := by decide +kernel
theorem dL_areLossesSound_342 : decode cL_areLossesSound 342 = .ok (.iload_n 1, 1) := by decide +kernel
theorem dL_areLossesSound_343 : decode cL_areLossesSound 343 = .ok (.if_icmp .ne 28, 3) := by decide +kernel
theorem dL_areLossesSound_346 : decode cL_areLossesSound 346 = .ok (.iload 4, 2) := by decide +kernel
theorem dL_areLossesSound_348 : decode cL_areLossesSound 348 = .ok (.aload_n 0, 1) := by decide +kernel
theorem dL_areLossesSound_349 : decode cL_areLossesSound 349 = .ok (.iconst 1, 1) := by decide +kernel
theorem dL_areLossesSound_350 : decode cL_areLossesSound 350 = .ok (.invokevirtual 8, 3) := by decide +kernel
theorem dL_areLossesSound_353 : decode cL_areLossesSound 353 = .ok (.if_icmp .ne 18, 3) := by decide +kernel
theorem dL_areLossesSound_356 : decode cL_areLossesSound 356 = .ok (.aload_n 0, 1) := by decide +kernel
theorem dL_areLossesSound_357 : decode cL_areLossesSound 357 = .ok (.iconst (-1), 1) := by decide +kernel
theorem dL_areLossesSound_358 : decode cL_areLossesSound 358 = .ok (.invokevirtual 27, 3) := by decide +kernel
theorem dL_areLossesSound_361 : decode cL_areLossesSound 361 = .ok (.lload 5, 2) := by decide +kernel
theorem dL_areLossesSound_363 : decode cL_areLossesSound 363 = .ok (.lcmp, 1) := by decide +kernel
theorem dL_areLossesSound_364 : decode cL_areLossesSound 364 = .ok (.ifCond .ne 7, 3) := by decide +kernel
theorem dL_areLossesSound_367 : decode cL_areLossesSound 367 = .ok (.iconst 1, 1) := by decide +kernel
theorem dL_areLossesSound_368 : decode cL_areLossesSound 368 = .ok (.goto 4, 3) := by decide +kernel
theorem dL_areLossesSound_371 : decode cL_areLossesSound 371 = .ok (.iconst 0, 1) := by decide +kernel
theorem dL_areLossesSound_372 : decode cL_areLossesSound 372 = .ok (.ireturn, 1) := by decide +kernel
theorem dL_isOrderSound_0 : decode cL_isOrderSound 0 = .ok (.iconst 0, 1) := by decide +kernel
theorem dL_isOrderSound_1 : decode cL_isOrderSound 1 = .ok (.istore_n 1, 1) := by decide +kernel
theorem dL_isOrderSound_2 : decode cL_isOrderSound 2 = .ok (.iconst 0, 1) := by decide +kernel
theorem dL_isOrderSound_3 : decode cL_isOrderSound 3 = .ok (.istore_n 2, 1) := by decide +kernel
theorem dL_isOrderSound_4 : decode cL_isOrderSound 4 = .ok (.iconst (-1), 1) := by decide +kernel
theorem dL_isOrderSound_5 : decode cL_isOrderSound 5 = .ok (.istore_n 3, 1) := by decide +kernel
theorem dL_isOrderSound_6 : decode cL_isOrderSound 6 = .ok (.aload_n 0, 1) := by decide +kernel
theorem dL_isOrderSound_7 : decode cL_isOrderSound 7 = .ok (.iload_n 2, 1) := by decide +kernel
theorem dL_isOrderSound_8 : decode cL_isOrderSound 8 = .ok (.invokevirtual 40, 3) := by decide +kernel
theorem dL_isOrderSound_11 : decode cL_isOrderSound 11 = .ok (.iconst (-1), 1) := by decide +kernel
theorem dL_isOrderSound_12 : decode cL_isOrderSound 12 = .ok (.if_icmp .eq 242, 3) := by decide +kernel
theorem dL_isOrderSound_15 : decode cL_isOrderSound 15 = .ok (.aload_n 0, 1) := by decide +kernel
theorem dL_isOrderSound_16 : decode cL_isOrderSound 16 = .ok (.iload_n 2, 1) := by decide +kernel
theorem dL_isOrderSound_17 : decode cL_isOrderSound 17 = .ok (.invokevirtual 40, 3) := by decide +kernel
theorem dL_isOrderSound_20 : decode cL_isOrderSound 20 = .ok (.istore 4, 2) := by decide +kernel
theorem dL_isOrderSound_22 : decode cL_isOrderSound 22 = .ok (.iload 4, 2) := by decide +kernel
theorem dL_isOrderSound_24 : decode cL_isOrderSound 24 = .ok (.ifCond .lt 32, 3) := by decide +kernel
theorem dL_isOrderSound_27 : decode cL_isOrderSound 27 = .ok (.iload 4, 2) := by decide +kernel
theorem dL_isOrderSound_29 : decode cL_isOrderSound 29 = .ok (.aload_n 0, 1) := by decide +kernel
theorem dL_isOrderSound_30 : decode cL_isOrderSound 30 = .ok (.iconst 1, 1) := by decide +kernel
theorem dL_isOrderSound_31 : decode cL_isOrderSound 31 = .ok (.invokevirtual 8, 3) := by decide +kernel
theorem dL_isOrderSound_34 : decode cL_isOrderSound 34 = .ok (.if_icmp .ge 22, 3) := by decide +kernel
theorem dL_isOrderSound_37 : decode cL_isOrderSound 37 = .ok (.iload_n 1, 1) := by decide +kernel
theorem dL_isOrderSound_38 : decode cL_isOrderSound 38 = .ok (.iload 4, 2) := by decide +kernel
theorem dL_isOrderSound_40 : decode cL_isOrderSound 40 = .ok (.ishr, 1) := by decide +kernel
theorem dL_isOrderSound_41 : decode cL_isOrderSound 41 = .ok (.iconst 1, 1) := by decide +kernel
theorem dL_isOrderSound_42 : decode cL_isOrderSound 42 = .ok (.iand, 1) := by decide +kernel
theorem dL_isOrderSound_43 : decode cL_isOrderSound 43 = .ok (.iconst 1, 1) := by decide +kernel
theorem dL_isOrderSound_44 : decode cL_isOrderSound 44 = .ok (.if_icmp .eq 12, 3) := by decide +kernel
theorem dL_isOrderSound_47 : decode cL_isOrderSound 47 = .ok (.aload_n 0, 1) := by decide +kernel
theorem dL_isOrderSound_48 : decode cL_isOrderSound 48 = .ok (.iload 4, 2) := by decide +kernel
theorem dL_isOrderSound_50 : decode cL_isOrderSound 50 = .ok (.invokevirtual 18, 3) := by decide +kernel
theorem dL_isOrderSound_53 : decode cL_isOrderSound 53 = .ok (.ifCond .ne 5, 3) := by decide +kernel
theorem dL_isOrderSound_56 : decode cL_isOrderSound 56 = .ok (.iconst 0, 1) := by decide +kernel
theorem dL_isOrderSound_57 : decode cL_isOrderSound 57 = .ok (.ireturn, 1) := by decide +kernel
theorem dL_isOrderSound_58 : decode cL_isOrderSound 58 = .ok (.aload_n 0, 1) := by decide +kernel
theorem dL_isOrderSound_59 : decode cL_isOrderSound 59 = .ok (.iload 4, 2) := by decide +kernel
theorem dL_isOrderSound_61 : decode cL_isOrderSound 61 = .ok (.invokevirtual 43, 3) := by decide +kernel
theorem dL_isOrderSound_64 : decode cL_isOrderSound 64 = .ok (.lstore 5, 2) := by decide +kernel
theorem dL_isOrderSound_66 : decode cL_isOrderSound 66 = .ok (.aload_n 0, 1) := by decide +kernel
theorem dL_isOrderSound_67 : decode cL_isOrderSound 67 = .ok (.iload 4, 2) := by decide +kernel
theorem dL_isOrderSound_69 : decode cL_isOrderSound 69 = .ok (.invokevirtual 18, 3) := by decide +kernel
theorem dL_isOrderSound_72 : decode cL_isOrderSound 72 = .ok (.i2l, 1) := by decide +kernel
theorem dL_isOrderSound_73 : decode cL_isOrderSound 73 = .ok (.aload_n 0, 1) := by decide +kernel
theorem dL_isOrderSound_74 : decode cL_isOrderSound 74 = .ok (.iconst 2, 1) := by decide +kernel
theorem dL_isOrderSound_75 : decode cL_isOrderSound 75 = .ok (.invokevirtual 8, 3) := by decide +kernel
theorem dL_isOrderSound_78 : decode cL_isOrderSound 78 = .ok (.i2l, 1) := by decide +kernel
theorem dL_isOrderSound_79 : decode cL_isOrderSound 79 = .ok (.lmul, 1) := by decide +kernel
theorem dL_isOrderSound_80 : decode cL_isOrderSound 80 = .ok (.aload_n 0, 1) := by decide +kernel
theorem dL_isOrderSound_81 : decode cL_isOrderSound 81 = .ok (.iconst 3, 1) := by decide +kernel
theorem dL_isOrderSound_82 : decode cL_isOrderSound 82 = .ok (.invokevirtual 8, 3) := by decide +kernel
theorem dL_isOrderSound_85 : decode cL_isOrderSound 85 = .ok (.i2l, 1) := by decide +kernel
theorem dL_isOrderSound_86 : decode cL_isOrderSound 86 = .ok (.lmul, 1) := by decide +kernel
theorem dL_isOrderSound_87 : decode cL_isOrderSound 87 = .ok (.lstore 7, 2) := by decide +kernel
theorem dL_isOrderSound_89 : decode cL_isOrderSound 89 = .ok (.lload 5, 2) := by decide +kernel
theorem dL_isOrderSound_91 : decode cL_isOrderSound 91 = .ok (.lconst 1, 1) := by decide +kernel
theorem dL_isOrderSound_92 : decode cL_isOrderSound 92 = .ok (.lcmp, 1) := by decide +kernel
theorem dL_isOrderSound_93 : decode cL_isOrderSound 93 = .ok (.ifCond .lt 68, 3) := by decide +kernel
theorem dL_isOrderSound_96 : decode cL_isOrderSound 96 = .ok (.lload 7, 2) := by decide +kernel
theorem dL_isOrderSound_98 : decode cL_isOrderSound 98 = .ok (.lload 5, 2) := by decide +kernel
theorem dL_isOrderSound_100 : decode cL_isOrderSound 100 = .ok (.lmul, 1) := by decide +kernel
theorem dL_isOrderSound_101 : decode cL_isOrderSound 101 = .ok (.ldc2_w 46, 3) := by decide +kernel
theorem dL_isOrderSound_104 : decode cL_isOrderSound 104 = .ok (.aload_n 0, 1) := by decide +kernel
theorem dL_isOrderSound_105 : decode cL_isOrderSound 105 = .ok (.iload 4, 2) := by decide +kernel
theorem dL_isOrderSound_107 : decode cL_isOrderSound 107 = .ok (.invokevirtual 48, 3) := by decide +kernel
theorem dL_isOrderSound_110 : decode cL_isOrderSound 110 = .ok (.i2l, 1) := by decide +kernel
theorem dL_isOrderSound_111 : decode cL_isOrderSound 111 = .ok (.lmul, 1) := by decide +kernel
theorem dL_isOrderSound_112 : decode cL_isOrderSound 112 = .ok (.lcmp, 1) := by decide +kernel
theorem dL_isOrderSound_113 : decode cL_isOrderSound 113 = .ok (.ifCond .lt 48, 3) := by decide +kernel
theorem dL_isOrderSound_116 : decode cL_isOrderSound 116 = .ok (.lload 5, 2) := by decide +kernel
theorem dL_isOrderSound_118 : decode cL_isOrderSound 118 = .ok (.lconst 1, 1) := by decide +kernel
theorem dL_isOrderSound_119 : decode cL_isOrderSound 119 = .ok (.lcmp, 1) := by decide +kernel
theorem dL_isOrderSound_120 : decode cL_isOrderSound 120 = .ok (.ifCond .le 25, 3) := by decide +kernel
theorem dL_isOrderSound_123 : decode cL_isOrderSound 123 = .ok (.lload 7, 2) := by decide +kernel
theorem dL_isOrderSound_125 : decode cL_isOrderSound 125 = .ok (.lload 5, 2) := by decide +kernel
theorem dL_isOrderSound_127 : decode cL_isOrderSound 127 = .ok (.lconst 1, 1) := by decide +kernel
theorem dL_isOrderSound_128 : decode cL_isOrderSound 128 = .ok (.lsub, 1) := by decide +kernel
theorem dL_isOrderSound_129 : decode cL_isOrderSound 129 = .ok (.lmul, 1) := by decide +kernel
theorem dL_isOrderSound_130 : decode cL_isOrderSound 130 = .ok (.ldc2_w 46, 3) := by decide +kernel
theorem dL_isOrderSound_133 : decode cL_isOrderSound 133 = .ok (.aload_n 0, 1) := by decide +kernel
theorem dL_isOrderSound_134 : decode cL_isOrderSound 134 = .ok (.iload 4, 2) := by decide +kernel
theorem dL_isOrderSound_136 : decode cL_isOrderSound 136 = .ok (.invokevirtual 48, 3) := by decide +kernel
theorem dL_isOrderSound_139 : decode cL_isOrderSound 139 = .ok (.i2l, 1) := by decide +kernel
theorem dL_isOrderSound_140 : decode cL_isOrderSound 140 = .ok (.lmul, 1) := by decide +kernel
theorem dL_isOrderSound_141 : decode cL_isOrderSound 141 = .ok (.lcmp, 1) := by decide +kernel
theorem dL_isOrderSound_142 : decode cL_isOrderSound 142 = .ok (.ifCond .ge 19, 3) := by decide +kernel
theorem dL_isOrderSound_145 : decode cL_isOrderSound 145 = .ok (.aload_n 0, 1) := by decide +kernel
theorem dL_isOrderSound_146 : decode cL_isOrderSound 146 = .ok (.iload 4, 2) := by decide +kernel
theorem dL_isOrderSound_148 : decode cL_isOrderSound 148 = .ok (.invokevirtual 51, 3) := by decide +kernel
theorem dL_isOrderSound_151 : decode cL_isOrderSound 151 = .ok (.lload 7, 2) := by decide +kernel
theorem dL_isOrderSound_153 : decode cL_isOrderSound 153 = .ok (.ldc2_w 46, 3) := by decide +kernel
theorem dL_isOrderSound_156 : decode cL_isOrderSound 156 = .ok (.ldiv, 1) := by decide +kernel
theorem dL_isOrderSound_157 : decode cL_isOrderSound 157 = .ok (.lcmp, 1) := by decide +kernel
theorem dL_isOrderSound_158 : decode cL_isOrderSound 158 = .ok (.ifCond .eq 5, 3) := by decide +kernel
theorem dL_isOrderSound_161 : decode cL_isOrderSound 161 = .ok (.iconst 0, 1) := by decide +kernel
theorem dL_isOrderSound_162 : decode cL_isOrderSound 162 = .ok (.ireturn, 1) := by decide +kernel
theorem dL_isOrderSound_163 : decode cL_isOrderSound 163 = .ok (.iload_n 3, 1) := by decide +kernel
theorem dL_isOrderSound_164 : decode cL_isOrderSound 164 = .ok (.ifCond .lt 74, 3) := by decide +kernel
theorem dL_isOrderSound_167 : decode cL_isOrderSound 167 = .ok (.aload_n 0, 1) := by decide +kernel
theorem dL_isOrderSound_168 : decode cL_isOrderSound 168 = .ok (.iload_n 3, 1) := by decide +kernel
theorem dL_isOrderSound_169 : decode cL_isOrderSound 169 = .ok (.invokevirtual 43, 3) := by decide +kernel
theorem dL_isOrderSound_172 : decode cL_isOrderSound 172 = .ok (.lstore 9, 2) := by decide +kernel
theorem dL_isOrderSound_174 : decode cL_isOrderSound 174 = .ok (.lload 9, 2) := by decide +kernel
theorem dL_isOrderSound_176 : decode cL_isOrderSound 176 = .ok (.lload 5, 2) := by decide +kernel
theorem dL_isOrderSound_178 : decode cL_isOrderSound 178 = .ok (.lcmp, 1) := by decide +kernel
theorem dL_isOrderSound_179 : decode cL_isOrderSound 179 = .ok (.ifCond .lt 45, 3) := by decide +kernel
theorem dL_isOrderSound_182 : decode cL_isOrderSound 182 = .ok (.lload 9, 2) := by decide +kernel
theorem dL_isOrderSound_184 : decode cL_isOrderSound 184 = .ok (.lload 5, 2) := by decide +kernel
theorem dL_isOrderSound_186 : decode cL_isOrderSound 186 = .ok (.lcmp, 1) := by decide +kernel
theorem dL_isOrderSound_187 : decode cL_isOrderSound 187 = .ok (.ifCond .ne 41, 3) := by decide +kernel
theorem dL_isOrderSound_190 : decode cL_isOrderSound 190 = .ok (.aload_n 0, 1) := by decide +kernel
theorem dL_isOrderSound_191 : decode cL_isOrderSound 191 = .ok (.iload_n 3, 1) := by decide +kernel
theorem dL_isOrderSound_192 : decode cL_isOrderSound 192 = .ok (.invokevirtual 18, 3) := by decide +kernel
theorem dL_isOrderSound_195 : decode cL_isOrderSound 195 = .ok (.aload_n 0, 1) := by decide +kernel
theorem dL_isOrderSound_196 : decode cL_isOrderSound 196 = .ok (.iload 4, 2) := by decide +kernel
theorem dL_isOrderSound_198 : decode cL_isOrderSound 198 = .ok (.invokevirtual 18, 3) := by decide +kernel
theorem dL_isOrderSound_201 : decode cL_isOrderSound 201 = .ok (.if_icmp .gt 23, 3) := by decide +kernel
theorem dL_isOrderSound_204 : decode cL_isOrderSound 204 = .ok (.aload_n 0, 1) := by decide +kernel
theorem dL_isOrderSound_205 : decode cL_isOrderSound 205 = .ok (.iload_n 3, 1) := by decide +kernel
theorem dL_isOrderSound_206 : decode cL_isOrderSound 206 = .ok (.invokevirtual 18, 3) := by decide +kernel
theorem dL_isOrderSound_209 : decode cL_isOrderSound 209 = .ok (.aload_n 0, 1) := by decide +kernel
theorem dL_isOrderSound_210 : decode cL_isOrderSound 210 = .ok (.iload 4, 2) := by decide +kernel
theorem dL_isOrderSound_212 : decode cL_isOrderSound 212 = .ok (.invokevirtual 18, 3) := by decide +kernel
theorem dL_isOrderSound_215 : decode cL_isOrderSound 215 = .ok (.if_icmp .ne 13, 3) := by decide +kernel
theorem dL_isOrderSound_218 : decode cL_isOrderSound 218 = .ok (.iload_n 3, 1) := by decide +kernel
theorem dL_isOrderSound_219 : decode cL_isOrderSound 219 = .ok (.iload 4, 2) := by decide +kernel
theorem dL_isOrderSound_221 : decode cL_isOrderSound 221 = .ok (.if_icmp .ge 7, 3) := by decide +kernel
theorem dL_isOrderSound_224 : decode cL_isOrderSound 224 = .ok (.iconst 1, 1) := by decide +kernel
theorem dL_isOrderSound_225 : decode cL_isOrderSound 225 = .ok (.goto 4, 3) := by decide +kernel
theorem dL_isOrderSound_228 : decode cL_isOrderSound 228 = .ok (.iconst 0, 1) := by decide +kernel
theorem dL_isOrderSound_229 : decode cL_isOrderSound 229 = .ok (.istore 11, 2) := by decide +kernel
theorem dL_isOrderSound_231 : decode cL_isOrderSound 231 = .ok (.iload 11, 2) := by decide +kernel
theorem dL_isOrderSound_233 : decode cL_isOrderSound 233 = .ok (.ifCond .ne 5, 3) := by decide +kernel
theorem dL_isOrderSound_236 : decode cL_isOrderSound 236 = .ok (.iconst 0, 1) := by decide +kernel
theorem dL_isOrderSound_237 : decode cL_isOrderSound 237 = .ok (.ireturn, 1) := by decide +kernel
theorem dL_isOrderSound_238 : decode cL_isOrderSound 238 = .ok (.iload_n 1, 1) := by decide +kernel
theorem dL_isOrderSound_239 : decode cL_isOrderSound 239 = .ok (.iconst 1, 1) := by decide +kernel
theorem dL_isOrderSound_240 : decode cL_isOrderSound 240 = .ok (.iload 4, 2) := by decide +kernel
theorem dL_isOrderSound_242 : decode cL_isOrderSound 242 = .ok (.ishl, 1) := by decide +kernel
theorem dL_isOrderSound_243 : decode cL_isOrderSound 243 = .ok (.ior, 1) := by decide +kernel
theorem dL_isOrderSound_244 : decode cL_isOrderSound 244 = .ok (.istore_n 1, 1) := by decide +kernel
theorem dL_isOrderSound_245 : decode cL_isOrderSound 245 = .ok (.iload 4, 2) := by decide +kernel
theorem dL_isOrderSound_247 : decode cL_isOrderSound 247 = .ok (.istore_n 3, 1) := by decide +kernel
theorem dL_isOrderSound_248 : decode cL_isOrderSound 248 = .ok (.iinc 2 1, 3) := by decide +kernel
theorem dL_isOrderSound_251 : decode cL_isOrderSound 251 = .ok (.goto (-245), 3) := by decide +kernel
theorem dL_isOrderSound_254 : decode cL_isOrderSound 254 = .ok (.iconst 0, 1) := by decide +kernel
theorem dL_isOrderSound_255 : decode cL_isOrderSound 255 = .ok (.istore 4, 2) := by decide +kernel
theorem dL_isOrderSound_257 : decode cL_isOrderSound 257 = .ok (.iload 4, 2) := by decide +kernel
theorem dL_isOrderSound_259 : decode cL_isOrderSound 259 = .ok (.aload_n 0, 1) := by decide +kernel
theorem dL_isOrderSound_260 : decode cL_isOrderSound 260 = .ok (.iconst 1, 1) := by decide +kernel
theorem dL_isOrderSound_261 : decode cL_isOrderSound 261 = .ok (.invokevirtual 8, 3) := by decide +kernel
theorem dL_isOrderSound_264 : decode cL_isOrderSound 264 = .ok (.if_icmp .ge 76, 3) := by decide +kernel
theorem dL_isOrderSound_267 : decode cL_isOrderSound 267 = .ok (.iload_n 1, 1) := by decide +kernel
theorem dL_isOrderSound_268 : decode cL_isOrderSound 268 = .ok (.iload 4, 2) := by decide +kernel
theorem dL_isOrderSound_270 : decode cL_isOrderSound 270 = .ok (.ishr, 1) := by decide +kernel
theorem dL_isOrderSound_271 : decode cL_isOrderSound 271 = .ok (.iconst 1, 1) := by decide +kernel
theorem dL_isOrderSound_272 : decode cL_isOrderSound 272 = .ok (.iand, 1) := by decide +kernel
theorem dL_isOrderSound_273 : decode cL_isOrderSound 273 = .ok (.iconst 1, 1) := by decide +kernel
theorem dL_isOrderSound_274 : decode cL_isOrderSound 274 = .ok (.if_icmp .ne 7, 3) := by decide +kernel
theorem dL_isOrderSound_277 : decode cL_isOrderSound 277 = .ok (.iconst 1, 1) := by decide +kernel
theorem dL_isOrderSound_278 : decode cL_isOrderSound 278 = .ok (.goto 4, 3) := by decide +kernel
theorem dL_isOrderSound_281 : decode cL_isOrderSound 281 = .ok (.iconst 0, 1) := by decide +kernel
theorem dL_isOrderSound_282 : decode cL_isOrderSound 282 = .ok (.istore 5, 2) := by decide +kernel
theorem dL_isOrderSound_284 : decode cL_isOrderSound 284 = .ok (.iload 5, 2) := by decide +kernel
theorem dL_isOrderSound_286 : decode cL_isOrderSound 286 = .ok (.aload_n 0, 1) := by decide +kernel
theorem dL_isOrderSound_287 : decode cL_isOrderSound 287 = .ok (.iload 4, 2) := by decide +kernel
theorem dL_isOrderSound_289 : decode cL_isOrderSound 289 = .ok (.invokevirtual 18, 3) := by decide +kernel
theorem dL_isOrderSound_292 : decode cL_isOrderSound 292 = .ok (.ifCond .le 7, 3) := by decide +kernel
theorem dL_isOrderSound_295 : decode cL_isOrderSound 295 = .ok (.iconst 1, 1) := by decide +kernel
theorem dL_isOrderSound_296 : decode cL_isOrderSound 296 = .ok (.goto 4, 3) := by decide +kernel
theorem dL_isOrderSound_299 : decode cL_isOrderSound 299 = .ok (.iconst 0, 1) := by decide +kernel
theorem dL_isOrderSound_300 : decode cL_isOrderSound 300 = .ok (.if_icmp .ne 32, 3) := by decide +kernel
theorem dL_isOrderSound_303 : decode cL_isOrderSound 303 = .ok (.iload 5, 2) := by decide +kernel
theorem dL_isOrderSound_305 : decode cL_isOrderSound 305 = .ok (.ifCond .ne 29, 3) := by decide +kernel
theorem dL_isOrderSound_308 : decode cL_isOrderSound 308 = .ok (.aload_n 0, 1) := by decide +kernel
theorem dL_isOrderSound_309 : decode cL_isOrderSound 309 = .ok (.iload 4, 2) := by decide +kernel
theorem dL_isOrderSound_311 : decode cL_isOrderSound 311 = .ok (.invokevirtual 43, 3) := by decide +kernel
theorem dL_isOrderSound_314 : decode cL_isOrderSound 314 = .ok (.ldc2_w 54, 3) := by decide +kernel
theorem dL_isOrderSound_317 : decode cL_isOrderSound 317 = .ok (.lcmp, 1) := by decide +kernel
theorem dL_isOrderSound_318 : decode cL_isOrderSound 318 = .ok (.ifCond .ne 14, 3) := by decide +kernel
theorem dL_isOrderSound_321 : decode cL_isOrderSound 321 = .ok (.aload_n 0, 1) := by decide +kernel
theorem dL_isOrderSound_322 : decode cL_isOrderSound 322 = .ok (.iload 4, 2) := by decide +kernel
theorem dL_isOrderSound_324 : decode cL_isOrderSound 324 = .ok (.invokevirtual 51, 3) := by decide +kernel
theorem dL_isOrderSound_327 : decode cL_isOrderSound 327 = .ok (.lconst 0, 1) := by decide +kernel
theorem dL_isOrderSound_328 : decode cL_isOrderSound 328 = .ok (.lcmp, 1) := by decide +kernel
theorem dL_isOrderSound_329 : decode cL_isOrderSound 329 = .ok (.ifCond .eq 5, 3) := by decide +kernel
theorem dL_isOrderSound_332 : decode cL_isOrderSound 332 = .ok (.iconst 0, 1) := by decide +kernel
theorem dL_isOrderSound_333 : decode cL_isOrderSound 333 = .ok (.ireturn, 1) := by decide +kernel
theorem dL_isOrderSound_334 : decode cL_isOrderSound 334 = .ok (.iinc 4 1, 3) := by decide +kernel
theorem dL_isOrderSound_337 : decode cL_isOrderSound 337 = .ok (.goto (-80), 3) := by decide +kernel
theorem dL_isOrderSound_340 : decode cL_isOrderSound 340 = .ok (.aload_n 0, 1) := by decide +kernel
theorem dL_isOrderSound_341 : decode cL_isOrderSound 341 = .ok (.iload_n 2, 1) := by decide +kernel
theorem dL_isOrderSound_342 : decode cL_isOrderSound 342 = .ok (.iconst 1, 1) := by decide +kernel
theorem dL_isOrderSound_343 : decode cL_isOrderSound 343 = .ok (.iadd, 1) := by decide +kernel
theorem dL_isOrderSound_344 : decode cL_isOrderSound 344 = .ok (.invokevirtual 40, 3) := by decide +kernel
theorem dL_isOrderSound_347 : decode cL_isOrderSound 347 = .ok (.iconst (-1), 1) := by decide +kernel
theorem dL_isOrderSound_348 : decode cL_isOrderSound 348 = .ok (.if_icmp .ne 7, 3) := by decide +kernel
theorem dL_isOrderSound_351 : decode cL_isOrderSound 351 = .ok (.iconst 1, 1) := by decide +kernel
theorem dL_isOrderSound_352 : decode cL_isOrderSound 352 = .ok (.goto 4, 3) := by decide +kernel
theorem dL_isOrderSound_355 : decode cL_isOrderSound 355 = .ok (.iconst 0, 1) := by decide +kernel
theorem dL_isOrderSound_356 : decode cL_isOrderSound 356 = .ok (.ireturn, 1) := by decide +kernel
theorem dL_isRoundSound_0 : decode cL_isRoundSound 0 = .ok (.iconst 0, 1) := by decide +kernel
theorem dL_isRoundSound_1 : decode cL_isRoundSound 1 = .ok (.istore_n 1, 1) := by decide +kernel
theorem dL_isRoundSound_2 : decode cL_isRoundSound 2 = .ok (.iconst 0, 1) := by decide +kernel
theorem dL_isRoundSound_3 : decode cL_isRoundSound 3 = .ok (.istore_n 2, 1) := by decide +kernel
theorem dL_isRoundSound_4 : decode cL_isRoundSound 4 = .ok (.iconst 0, 1) := by decide +kernel
theorem dL_isRoundSound_5 : decode cL_isRoundSound 5 = .ok (.istore_n 3, 1) := by decide +kernel
theorem dL_isRoundSound_6 : decode cL_isRoundSound 6 = .ok (.iconst 0, 1) := by decide +kernel
theorem dL_isRoundSound_7 : decode cL_isRoundSound 7 = .ok (.istore 4, 2) := by decide +kernel
theorem dL_isRoundSound_9 : decode cL_isRoundSound 9 = .ok (.iconst 0, 1) := by decide +kernel
theorem dL_isRoundSound_10 : decode cL_isRoundSound 10 = .ok (.istore 5, 2) := by decide +kernel
theorem dL_isRoundSound_12 : decode cL_isRoundSound 12 = .ok (.aload_n 0, 1) := by decide +kernel
theorem dL_isRoundSound_13 : decode cL_isRoundSound 13 = .ok (.iload_n 2, 1) := by decide +kernel
theorem dL_isRoundSound_14 : decode cL_isRoundSound 14 = .ok (.invokevirtual 56, 3) := by decide +kernel
theorem dL_isRoundSound_17 : decode cL_isRoundSound 17 = .ok (.iconst (-1), 1) := by decide +kernel
theorem dL_isRoundSound_18 : decode cL_isRoundSound 18 = .ok (.if_icmp .eq 186, 3) := by decide +kernel
theorem dL_isRoundSound_21 : decode cL_isRoundSound 21 = .ok (.aload_n 0, 1) := by decide +kernel
theorem dL_isRoundSound_22 : decode cL_isRoundSound 22 = .ok (.iload_n 2, 1) := by decide +kernel
theorem dL_isRoundSound_23 : decode cL_isRoundSound 23 = .ok (.invokevirtual 56, 3) := by decide +kernel
theorem dL_isRoundSound_26 : decode cL_isRoundSound 26 = .ok (.istore 6, 2) := by decide +kernel
theorem dL_isRoundSound_28 : decode cL_isRoundSound 28 = .ok (.iload 6, 2) := by decide +kernel
theorem dL_isRoundSound_30 : decode cL_isRoundSound 30 = .ok (.ifCond .lt 37, 3) := by decide +kernel
theorem dL_isRoundSound_33 : decode cL_isRoundSound 33 = .ok (.iload_n 1, 1) := by decide +kernel
theorem dL_isRoundSound_34 : decode cL_isRoundSound 34 = .ok (.iload 6, 2) := by decide +kernel
theorem dL_isRoundSound_36 : decode cL_isRoundSound 36 = .ok (.ishr, 1) := by decide +kernel
theorem dL_isRoundSound_37 : decode cL_isRoundSound 37 = .ok (.iconst 1, 1) := by decide +kernel
theorem dL_isRoundSound_38 : decode cL_isRoundSound 38 = .ok (.iand, 1) := by decide +kernel
theorem dL_isRoundSound_39 : decode cL_isRoundSound 39 = .ok (.iconst 1, 1) := by decide +kernel
theorem dL_isRoundSound_40 : decode cL_isRoundSound 40 = .ok (.if_icmp .eq 27, 3) := by decide +kernel
theorem dL_isRoundSound_43 : decode cL_isRoundSound 43 = .ok (.aload_n 0, 1) := by decide +kernel
theorem dL_isRoundSound_44 : decode cL_isRoundSound 44 = .ok (.iload 6, 2) := by decide +kernel
theorem dL_isRoundSound_46 : decode cL_isRoundSound 46 = .ok (.invokevirtual 59, 3) := by decide +kernel
theorem dL_isRoundSound_49 : decode cL_isRoundSound 49 = .ok (.iconst 1, 1) := by decide +kernel
theorem dL_isRoundSound_50 : decode cL_isRoundSound 50 = .ok (.if_icmp .ne 17, 3) := by decide +kernel
theorem dL_isRoundSound_53 : decode cL_isRoundSound 53 = .ok (.aload_n 0, 1) := by decide +kernel
theorem dL_isRoundSound_54 : decode cL_isRoundSound 54 = .ok (.iload 6, 2) := by decide +kernel
theorem dL_isRoundSound_56 : decode cL_isRoundSound 56 = .ok (.invokevirtual 62, 3) := by decide +kernel
theorem dL_isRoundSound_59 : decode cL_isRoundSound 59 = .ok (.aload_n 0, 1) := by decide +kernel
theorem dL_isRoundSound_60 : decode cL_isRoundSound 60 = .ok (.iconst 5, 1) := by decide +kernel
theorem dL_isRoundSound_61 : decode cL_isRoundSound 61 = .ok (.invokevirtual 8, 3) := by decide +kernel
theorem dL_isRoundSound_64 : decode cL_isRoundSound 64 = .ok (.if_icmp .eq 5, 3) := by decide +kernel
theorem dL_isRoundSound_67 : decode cL_isRoundSound 67 = .ok (.iconst 0, 1) := by decide +kernel
theorem dL_isRoundSound_68 : decode cL_isRoundSound 68 = .ok (.ireturn, 1) := by decide +kernel
theorem dL_isRoundSound_69 : decode cL_isRoundSound 69 = .ok (.aload_n 0, 1) := by decide +kernel
theorem dL_isRoundSound_70 : decode cL_isRoundSound 70 = .ok (.iload 6, 2) := by decide +kernel
theorem dL_isRoundSound_72 : decode cL_isRoundSound 72 = .ok (.iload_n 3, 1) := by decide +kernel
theorem dL_isRoundSound_73 : decode cL_isRoundSound 73 = .ok (.iload 4, 2) := by decide +kernel
theorem dL_isRoundSound_75 : decode cL_isRoundSound 75 = .ok (.invokestatic 65, 3) := by decide +kernel
theorem dL_isRoundSound_78 : decode cL_isRoundSound 78 = .ok (.istore 7, 2) := by decide +kernel
theorem dL_isRoundSound_80 : decode cL_isRoundSound 80 = .ok (.iconst 0, 1) := by decide +kernel
theorem dL_isRoundSound_81 : decode cL_isRoundSound 81 = .ok (.istore 8, 2) := by decide +kernel
theorem dL_isRoundSound_83 : decode cL_isRoundSound 83 = .ok (.iload 8, 2) := by decide +kernel
theorem dL_isRoundSound_85 : decode cL_isRoundSound 85 = .ok (.aload_n 0, 1) := by decide +kernel
theorem dL_isRoundSound_86 : decode cL_isRoundSound 86 = .ok (.iconst 1, 1) := by decide +kernel
theorem dL_isRoundSound_87 : decode cL_isRoundSound 87 = .ok (.invokevirtual 8, 3) := by decide +kernel
theorem dL_isRoundSound_90 : decode cL_isRoundSound 90 = .ok (.if_icmp .ge 77, 3) := by decide +kernel
theorem dL_isRoundSound_93 : decode cL_isRoundSound 93 = .ok (.aload_n 0, 1) := by decide +kernel
theorem dL_isRoundSound_94 : decode cL_isRoundSound 94 = .ok (.iload 8, 2) := by decide +kernel
theorem dL_isRoundSound_96 : decode cL_isRoundSound 96 = .ok (.invokevirtual 59, 3) := by decide +kernel
theorem dL_isRoundSound_99 : decode cL_isRoundSound 99 = .ok (.iconst 1, 1) := by decide +kernel
theorem dL_isRoundSound_100 : decode cL_isRoundSound 100 = .ok (.if_icmp .ne 16, 3) := by decide +kernel
theorem dL_isRoundSound_103 : decode cL_isRoundSound 103 = .ok (.iload_n 1, 1) := by decide +kernel
theorem dL_isRoundSound_104 : decode cL_isRoundSound 104 = .ok (.iload 8, 2) := by decide +kernel
theorem dL_isRoundSound_106 : decode cL_isRoundSound 106 = .ok (.ishr, 1) := by decide +kernel
theorem dL_isRoundSound_107 : decode cL_isRoundSound 107 = .ok (.iconst 1, 1) := by decide +kernel
theorem dL_isRoundSound_108 : decode cL_isRoundSound 108 = .ok (.iand, 1) := by decide +kernel
theorem dL_isRoundSound_109 : decode cL_isRoundSound 109 = .ok (.ifCond .ne 7, 3) := by decide +kernel
theorem dL_isRoundSound_112 : decode cL_isRoundSound 112 = .ok (.iconst 1, 1) := by decide +kernel
theorem dL_isRoundSound_113 : decode cL_isRoundSound 113 = .ok (.goto 4, 3) := by decide +kernel
theorem dL_isRoundSound_116 : decode cL_isRoundSound 116 = .ok (.iconst 0, 1) := by decide +kernel
theorem dL_isRoundSound_117 : decode cL_isRoundSound 117 = .ok (.istore 9, 2) := by decide +kernel
theorem dL_isRoundSound_119 : decode cL_isRoundSound 119 = .ok (.iload 9, 2) := by decide +kernel
theorem dL_isRoundSound_121 : decode cL_isRoundSound 121 = .ok (.ifCond .eq 40, 3) := by decide +kernel
theorem dL_isRoundSound_124 : decode cL_isRoundSound 124 = .ok (.aload_n 0, 1) := by decide +kernel
theorem dL_isRoundSound_125 : decode cL_isRoundSound 125 = .ok (.iload 8, 2) := by decide +kernel
theorem dL_isRoundSound_127 : decode cL_isRoundSound 127 = .ok (.iload_n 3, 1) := by decide +kernel
theorem dL_isRoundSound_128 : decode cL_isRoundSound 128 = .ok (.iload 4, 2) := by decide +kernel
theorem dL_isRoundSound_130 : decode cL_isRoundSound 130 = .ok (.invokestatic 65, 3) := by decide +kernel
theorem dL_isRoundSound_133 : decode cL_isRoundSound 133 = .ok (.iload 7, 2) := by decide +kernel
theorem dL_isRoundSound_135 : decode cL_isRoundSound 135 = .ok (.if_icmp .lt 24, 3) := by decide +kernel
theorem dL_isRoundSound_138 : decode cL_isRoundSound 138 = .ok (.aload_n 0, 1) := by decide +kernel
theorem dL_isRoundSound_139 : decode cL_isRoundSound 139 = .ok (.iload 8, 2) := by decide +kernel
theorem dL_isRoundSound_141 : decode cL_isRoundSound 141 = .ok (.iload_n 3, 1) := by decide +kernel
theorem dL_isRoundSound_142 : decode cL_isRoundSound 142 = .ok (.iload 4, 2) := by decide +kernel
theorem dL_isRoundSound_144 : decode cL_isRoundSound 144 = .ok (.invokestatic 65, 3) := by decide +kernel
theorem dL_isRoundSound_147 : decode cL_isRoundSound 147 = .ok (.iload 7, 2) := by decide +kernel
theorem dL_isRoundSound_149 : decode cL_isRoundSound 149 = .ok (.if_icmp .ne 12, 3) := by decide +kernel
theorem dL_isRoundSound_152 : decode cL_isRoundSound 152 = .ok (.iload 8, 2) := by decide +kernel
theorem dL_isRoundSound_154 : decode cL_isRoundSound 154 = .ok (.iload 6, 2) := by decide +kernel
theorem dL_isRoundSound_156 : decode cL_isRoundSound 156 = .ok (.if_icmp .ge 5, 3) := by decide +kernel
theorem dL_isRoundSound_159 : decode cL_isRoundSound 159 = .ok (.iconst 0, 1) := by decide +kernel
theorem dL_isRoundSound_160 : decode cL_isRoundSound 160 = .ok (.ireturn, 1) := by decide +kernel
theorem dL_isRoundSound_161 : decode cL_isRoundSound 161 = .ok (.iinc 8 1, 3) := by decide +kernel
theorem dL_isRoundSound_164 : decode cL_isRoundSound 164 = .ok (.goto (-81), 3) := by decide +kernel
theorem dL_isRoundSound_167 : decode cL_isRoundSound 167 = .ok (.iload 5, 2) := by decide +kernel
theorem dL_isRoundSound_169 : decode cL_isRoundSound 169 = .ok (.iload 7, 2) := by decide +kernel
theorem dL_isRoundSound_171 : decode cL_isRoundSound 171 = .ok (.iadd, 1) := by decide +kernel
theorem dL_isRoundSound_172 : decode cL_isRoundSound 172 = .ok (.istore 5, 2) := by decide +kernel
theorem dL_isRoundSound_174 : decode cL_isRoundSound 174 = .ok (.aload_n 0, 1) := by decide +kernel
theorem dL_isRoundSound_175 : decode cL_isRoundSound 175 = .ok (.iload 6, 2) := by decide +kernel
theorem dL_isRoundSound_177 : decode cL_isRoundSound 177 = .ok (.iconst 3, 1) := by decide +kernel
theorem dL_isRoundSound_178 : decode cL_isRoundSound 178 = .ok (.invokevirtual 14, 3) := by decide +kernel
theorem dL_isRoundSound_181 : decode cL_isRoundSound 181 = .ok (.istore_n 3, 1) := by decide +kernel
theorem dL_isRoundSound_182 : decode cL_isRoundSound 182 = .ok (.aload_n 0, 1) := by decide +kernel
theorem dL_isRoundSound_183 : decode cL_isRoundSound 183 = .ok (.iload 6, 2) := by decide +kernel
theorem dL_isRoundSound_185 : decode cL_isRoundSound 185 = .ok (.iconst 4, 1) := by decide +kernel
theorem dL_isRoundSound_186 : decode cL_isRoundSound 186 = .ok (.invokevirtual 14, 3) := by decide +kernel
theorem dL_isRoundSound_189 : decode cL_isRoundSound 189 = .ok (.istore 4, 2) := by decide +kernel
theorem dL_isRoundSound_191 : decode cL_isRoundSound 191 = .ok (.iload_n 1, 1) := by decide +kernel
theorem dL_isRoundSound_192 : decode cL_isRoundSound 192 = .ok (.iconst 1, 1) := by decide +kernel
theorem dL_isRoundSound_193 : decode cL_isRoundSound 193 = .ok (.iload 6, 2) := by decide +kernel
theorem dL_isRoundSound_195 : decode cL_isRoundSound 195 = .ok (.ishl, 1) := by decide +kernel
theorem dL_isRoundSound_196 : decode cL_isRoundSound 196 = .ok (.ior, 1) := by decide +kernel
theorem dL_isRoundSound_197 : decode cL_isRoundSound 197 = .ok (.istore_n 1, 1) := by decide +kernel
theorem dL_isRoundSound_198 : decode cL_isRoundSound 198 = .ok (.iinc 2 1, 3) := by decide +kernel
theorem dL_isRoundSound_201 : decode cL_isRoundSound 201 = .ok (.goto (-189), 3) := by decide +kernel
theorem dL_isRoundSound_204 : decode cL_isRoundSound 204 = .ok (.iconst 0, 1) := by decide +kernel
theorem dL_isRoundSound_205 : decode cL_isRoundSound 205 = .ok (.istore 6, 2) := by decide +kernel
theorem dL_isRoundSound_207 : decode cL_isRoundSound 207 = .ok (.iconst 0, 1) := by decide +kernel
theorem dL_isRoundSound_208 : decode cL_isRoundSound 208 = .ok (.istore 7, 2) := by decide +kernel
theorem dL_isRoundSound_210 : decode cL_isRoundSound 210 = .ok (.iload 7, 2) := by decide +kernel
theorem dL_isRoundSound_212 : decode cL_isRoundSound 212 = .ok (.aload_n 0, 1) := by decide +kernel
theorem dL_isRoundSound_213 : decode cL_isRoundSound 213 = .ok (.iconst 1, 1) := by decide +kernel
theorem dL_isRoundSound_214 : decode cL_isRoundSound 214 = .ok (.invokevirtual 8, 3) := by decide +kernel
theorem dL_isRoundSound_217 : decode cL_isRoundSound 217 = .ok (.if_icmp .ge 79, 3) := by decide +kernel
theorem dL_isRoundSound_220 : decode cL_isRoundSound 220 = .ok (.iload 6, 2) := by decide +kernel
theorem dL_isRoundSound_222 : decode cL_isRoundSound 222 = .ok (.aload_n 0, 1) := by decide +kernel
theorem dL_isRoundSound_223 : decode cL_isRoundSound 223 = .ok (.iload 7, 2) := by decide +kernel
theorem dL_isRoundSound_225 : decode cL_isRoundSound 225 = .ok (.invokevirtual 59, 3) := by decide +kernel
theorem dL_isRoundSound_228 : decode cL_isRoundSound 228 = .ok (.iadd, 1) := by decide +kernel
theorem dL_isRoundSound_229 : decode cL_isRoundSound 229 = .ok (.istore 6, 2) := by decide +kernel
theorem dL_isRoundSound_231 : decode cL_isRoundSound 231 = .ok (.aload_n 0, 1) := by decide +kernel
theorem dL_isRoundSound_232 : decode cL_isRoundSound 232 = .ok (.iload 7, 2) := by decide +kernel
theorem dL_isRoundSound_234 : decode cL_isRoundSound 234 = .ok (.invokevirtual 59, 3) := by decide +kernel
theorem dL_isRoundSound_237 : decode cL_isRoundSound 237 = .ok (.ifCond .ne 53, 3) := by decide +kernel
theorem dL_isRoundSound_240 : decode cL_isRoundSound 240 = .ok (.aload_n 0, 1) := by decide +kernel
theorem dL_isRoundSound_241 : decode cL_isRoundSound 241 = .ok (.iload 7, 2) := by decide +kernel
theorem dL_isRoundSound_243 : decode cL_isRoundSound 243 = .ok (.invokevirtual 62, 3) := by decide +kernel
theorem dL_isRoundSound_246 : decode cL_isRoundSound 246 = .ok (.aload_n 0, 1) := by decide +kernel
theorem dL_isRoundSound_247 : decode cL_isRoundSound 247 = .ok (.iconst 5, 1) := by decide +kernel
theorem dL_isRoundSound_248 : decode cL_isRoundSound 248 = .ok (.invokevirtual 8, 3) := by decide +kernel
theorem dL_isRoundSound_251 : decode cL_isRoundSound 251 = .ok (.if_icmp .le 37, 3) := by decide +kernel
theorem dL_isRoundSound_254 : decode cL_isRoundSound 254 = .ok (.aload_n 0, 1) := by decide +kernel
theorem dL_isRoundSound_255 : decode cL_isRoundSound 255 = .ok (.iload 7, 2) := by decide +kernel
theorem dL_isRoundSound_257 : decode cL_isRoundSound 257 = .ok (.iconst 5, 1) := by decide +kernel
theorem dL_isRoundSound_258 : decode cL_isRoundSound 258 = .ok (.invokevirtual 14, 3) := by decide +kernel
theorem dL_isRoundSound_261 : decode cL_isRoundSound 261 = .ok (.iconst 1, 1) := by decide +kernel
theorem dL_isRoundSound_262 : decode cL_isRoundSound 262 = .ok (.if_icmp .ne 26, 3) := by decide +kernel
theorem dL_isRoundSound_265 : decode cL_isRoundSound 265 = .ok (.aload_n 0, 1) := by decide +kernel
theorem dL_isRoundSound_266 : decode cL_isRoundSound 266 = .ok (.iload 7, 2) := by decide +kernel
theorem dL_isRoundSound_268 : decode cL_isRoundSound 268 = .ok (.invokevirtual 62, 3) := by decide +kernel
theorem dL_isRoundSound_271 : decode cL_isRoundSound 271 = .ok (.aload_n 0, 1) := by decide +kernel
theorem dL_isRoundSound_272 : decode cL_isRoundSound 272 = .ok (.iload 7, 2) := by decide +kernel
theorem dL_isRoundSound_274 : decode cL_isRoundSound 274 = .ok (.bipush 6, 2) := by decide +kernel
theorem dL_isRoundSound_276 : decode cL_isRoundSound 276 = .ok (.invokevirtual 14, 3) := by decide +kernel
theorem dL_isRoundSound_279 : decode cL_isRoundSound 279 = .ok (.aload_n 0, 1) := by decide +kernel
theorem dL_isRoundSound_280 : decode cL_isRoundSound 280 = .ok (.iconst 4, 1) := by decide +kernel
theorem dL_isRoundSound_281 : decode cL_isRoundSound 281 = .ok (.invokevirtual 8, 3) := by decide +kernel
theorem dL_isRoundSound_284 : decode cL_isRoundSound 284 = .ok (.iadd, 1) := by decide +kernel
theorem dL_isRoundSound_285 : decode cL_isRoundSound 285 = .ok (.if_icmp .eq 5, 3) := by decide +kernel
theorem dL_isRoundSound_288 : decode cL_isRoundSound 288 = .ok (.iconst 0, 1) := by decide +kernel
theorem dL_isRoundSound_289 : decode cL_isRoundSound 289 = .ok (.ireturn, 1) := by decide +kernel
theorem dL_isRoundSound_290 : decode cL_isRoundSound 290 = .ok (.iinc 7 1, 3) := by decide +kernel
theorem dL_isRoundSound_293 : decode cL_isRoundSound 293 = .ok (.goto (-83), 3) := by decide +kernel
theorem dL_isRoundSound_296 : decode cL_isRoundSound 296 = .ok (.iload 6, 2) := by decide +kernel
theorem dL_isRoundSound_298 : decode cL_isRoundSound 298 = .ok (.iload_n 2, 1) := by decide +kernel
theorem dL_isRoundSound_299 : decode cL_isRoundSound 299 = .ok (.if_icmp .ne 21, 3) := by decide +kernel
theorem dL_isRoundSound_302 : decode cL_isRoundSound 302 = .ok (.aload_n 0, 1) := by decide +kernel
theorem dL_isRoundSound_303 : decode cL_isRoundSound 303 = .ok (.invokevirtual 71, 3) := by decide +kernel
theorem dL_isRoundSound_306 : decode cL_isRoundSound 306 = .ok (.iload 5, 2) := by decide +kernel
theorem dL_isRoundSound_308 : decode cL_isRoundSound 308 = .ok (.iload_n 3, 1) := by decide +kernel
theorem dL_isRoundSound_309 : decode cL_isRoundSound 309 = .ok (.iadd, 1) := by decide +kernel
theorem dL_isRoundSound_310 : decode cL_isRoundSound 310 = .ok (.iload 4, 2) := by decide +kernel
theorem dL_isRoundSound_312 : decode cL_isRoundSound 312 = .ok (.iadd, 1) := by decide +kernel
theorem dL_isRoundSound_313 : decode cL_isRoundSound 313 = .ok (.if_icmp .ne 7, 3) := by decide +kernel
theorem dL_isRoundSound_316 : decode cL_isRoundSound 316 = .ok (.iconst 1, 1) := by decide +kernel
theorem dL_isRoundSound_317 : decode cL_isRoundSound 317 = .ok (.goto 4, 3) := by decide +kernel
theorem dL_isRoundSound_320 : decode cL_isRoundSound 320 = .ok (.iconst 0, 1) := by decide +kernel
theorem dL_isRoundSound_321 : decode cL_isRoundSound 321 = .ok (.ireturn, 1) := by decide +kernel
theorem dL_way_0 : decode cL_way 0 = .ok (.aload_n 0, 1) := by decide +kernel
theorem dL_way_1 : decode cL_way 1 = .ok (.iload_n 1, 1) := by decide +kernel
theorem dL_way_2 : decode cL_way 2 = .ok (.iconst 3, 1) := by decide +kernel
theorem dL_way_3 : decode cL_way 3 = .ok (.invokevirtual 14, 3) := by decide +kernel
theorem dL_way_6 : decode cL_way 6 = .ok (.iload_n 2, 1) := by decide +kernel
theorem dL_way_7 : decode cL_way 7 = .ok (.isub, 1) := by decide +kernel
theorem dL_way_8 : decode cL_way 8 = .ok (.istore 4, 2) := by decide +kernel
theorem dL_way_10 : decode cL_way 10 = .ok (.aload_n 0, 1) := by decide +kernel
theorem dL_way_11 : decode cL_way 11 = .ok (.iload_n 1, 1) := by decide +kernel
theorem dL_way_12 : decode cL_way 12 = .ok (.iconst 4, 1) := by decide +kernel
theorem dL_way_13 : decode cL_way 13 = .ok (.invokevirtual 14, 3) := by decide +kernel
theorem dL_way_16 : decode cL_way 16 = .ok (.iload_n 3, 1) := by decide +kernel
theorem dL_way_17 : decode cL_way 17 = .ok (.isub, 1) := by decide +kernel
theorem dL_way_18 : decode cL_way 18 = .ok (.istore 5, 2) := by decide +kernel
theorem dL_way_20 : decode cL_way 20 = .ok (.iload 4, 2) := by decide +kernel
theorem dL_way_22 : decode cL_way 22 = .ok (.ifCond .ge 9, 3) := by decide +kernel
theorem dL_way_25 : decode cL_way 25 = .ok (.iload 4, 2) := by decide +kernel
theorem dL_way_27 : decode cL_way 27 = .ok (.ineg, 1) := by decide +kernel
theorem dL_way_28 : decode cL_way 28 = .ok (.goto 5, 3) := by decide +kernel
theorem dL_way_31 : decode cL_way 31 = .ok (.iload 4, 2) := by decide +kernel
theorem dL_way_33 : decode cL_way 33 = .ok (.iload 5, 2) := by decide +kernel
theorem dL_way_35 : decode cL_way 35 = .ok (.ifCond .ge 9, 3) := by decide +kernel
theorem dL_way_38 : decode cL_way 38 = .ok (.iload 5, 2) := by decide +kernel
theorem dL_way_40 : decode cL_way 40 = .ok (.ineg, 1) := by decide +kernel
theorem dL_way_41 : decode cL_way 41 = .ok (.goto 5, 3) := by decide +kernel
theorem dL_way_44 : decode cL_way 44 = .ok (.iload 5, 2) := by decide +kernel
theorem dL_way_46 : decode cL_way 46 = .ok (.iadd, 1) := by decide +kernel
theorem dL_way_47 : decode cL_way 47 = .ok (.ireturn, 1) := by decide +kernel
theorem dL_changes_0 : decode cL_changes 0 = .ok (.iload_n 1, 1) := by decide +kernel
theorem dL_changes_1 : decode cL_changes 1 = .ok (.iconst 4, 1) := by decide +kernel
theorem dL_changes_2 : decode cL_changes 2 = .ok (.ishr, 1) := by decide +kernel
theorem dL_changes_3 : decode cL_changes 3 = .ok (.bipush 10, 2) := by decide +kernel
theorem dL_changes_5 : decode cL_changes 5 = .ok (.invokestatic 75, 3) := by decide +kernel
theorem dL_changes_8 : decode cL_changes 8 = .ok (.istore_n 2, 1) := by decide +kernel
theorem dL_changes_9 : decode cL_changes 9 = .ok (.iload_n 1, 1) := by decide +kernel
theorem dL_changes_10 : decode cL_changes 10 = .ok (.bipush 14, 2) := by decide +kernel
theorem dL_changes_12 : decode cL_changes 12 = .ok (.invokestatic 75, 3) := by decide +kernel
theorem dL_changes_15 : decode cL_changes 15 = .ok (.tableswitch 230 0 9 #[53, 76, 88, 88, 137, 157, 195, 201, 215, 215], 53) := by decide +kernel
theorem dL_changes_68 : decode cL_changes 68 = .ok (.aload_n 0, 1) := by decide +kernel
theorem dL_changes_69 : decode cL_changes 69 = .ok (.iload_n 1, 1) := by decide +kernel
theorem dL_changes_70 : decode cL_changes 70 = .ok (.iconst 4, 1) := by decide +kernel
theorem dL_changes_71 : decode cL_changes 71 = .ok (.ishr, 1) := by decide +kernel
theorem dL_changes_72 : decode cL_changes 72 = .ok (.iconst 3, 1) := by decide +kernel
theorem dL_changes_73 : decode cL_changes 73 = .ok (.invokestatic 75, 3) := by decide +kernel
theorem dL_changes_76 : decode cL_changes 76 = .ok (.iconst 1, 1) := by decide +kernel
theorem dL_changes_77 : decode cL_changes 77 = .ok (.iload_n 1, 1) := by decide +kernel
theorem dL_changes_78 : decode cL_changes 78 = .ok (.bipush 6, 2) := by decide +kernel
theorem dL_changes_80 : decode cL_changes 80 = .ok (.ishr, 1) := by decide +kernel
theorem dL_changes_81 : decode cL_changes 81 = .ok (.bipush 20, 2) := by decide +kernel
theorem dL_changes_83 : decode cL_changes 83 = .ok (.invokestatic 75, 3) := by decide +kernel
theorem dL_changes_86 : decode cL_changes 86 = .ok (.iadd, 1) := by decide +kernel
theorem dL_changes_87 : decode cL_changes 87 = .ok (.invokevirtual 78, 3) := by decide +kernel
theorem dL_changes_90 : decode cL_changes 90 = .ok (.ireturn, 1) := by decide +kernel
theorem dL_changes_91 : decode cL_changes 91 = .ok (.aload_n 0, 1) := by decide +kernel
theorem dL_changes_92 : decode cL_changes 92 = .ok (.iload_n 1, 1) := by decide +kernel
theorem dL_changes_93 : decode cL_changes 93 = .ok (.iconst 4, 1) := by decide +kernel
theorem dL_changes_94 : decode cL_changes 94 = .ok (.ishr, 1) := by decide +kernel
theorem dL_changes_95 : decode cL_changes 95 = .ok (.iconst 4, 1) := by decide +kernel
theorem dL_changes_96 : decode cL_changes 96 = .ok (.invokestatic 75, 3) := by decide +kernel
theorem dL_changes_99 : decode cL_changes 99 = .ok (.invokevirtual 81, 3) := by decide +kernel
theorem dL_changes_102 : decode cL_changes 102 = .ok (.ireturn, 1) := by decide +kernel
theorem dL_changes_103 : decode cL_changes 103 = .ok (.aload_n 0, 1) := by decide +kernel
theorem dL_changes_104 : decode cL_changes 104 = .ok (.iload_n 1, 1) := by decide +kernel
theorem dL_changes_105 : decode cL_changes 105 = .ok (.iconst 4, 1) := by decide +kernel
theorem dL_changes_106 : decode cL_changes 106 = .ok (.ishr, 1) := by decide +kernel
theorem dL_changes_107 : decode cL_changes 107 = .ok (.iconst 4, 1) := by decide +kernel
theorem dL_changes_108 : decode cL_changes 108 = .ok (.invokestatic 75, 3) := by decide +kernel
theorem dL_changes_111 : decode cL_changes 111 = .ok (.iload_n 1, 1) := by decide +kernel
theorem dL_changes_112 : decode cL_changes 112 = .ok (.bipush 6, 2) := by decide +kernel
theorem dL_changes_114 : decode cL_changes 114 = .ok (.ishr, 1) := by decide +kernel
theorem dL_changes_115 : decode cL_changes 115 = .ok (.iconst 3, 1) := by decide +kernel
theorem dL_changes_116 : decode cL_changes 116 = .ok (.invokestatic 75, 3) := by decide +kernel
theorem dL_changes_119 : decode cL_changes 119 = .ok (.iconst 1, 1) := by decide +kernel
theorem dL_changes_120 : decode cL_changes 120 = .ok (.iload_n 1, 1) := by decide +kernel
theorem dL_changes_121 : decode cL_changes 121 = .ok (.bipush 8, 2) := by decide +kernel
theorem dL_changes_123 : decode cL_changes 123 = .ok (.ishr, 1) := by decide +kernel
theorem dL_changes_124 : decode cL_changes 124 = .ok (.bipush 9, 2) := by decide +kernel
theorem dL_changes_126 : decode cL_changes 126 = .ok (.invokestatic 75, 3) := by decide +kernel
theorem dL_changes_129 : decode cL_changes 129 = .ok (.iadd, 1) := by decide +kernel
theorem dL_changes_130 : decode cL_changes 130 = .ok (.iload_n 1, 1) := by decide +kernel
theorem dL_changes_131 : decode cL_changes 131 = .ok (.bipush 12, 2) := by decide +kernel
theorem dL_changes_133 : decode cL_changes 133 = .ok (.ishr, 1) := by decide +kernel
theorem dL_changes_134 : decode cL_changes 134 = .ok (.bipush 51, 2) := by decide +kernel
theorem dL_changes_136 : decode cL_changes 136 = .ok (.invokestatic 75, 3) := by decide +kernel
theorem dL_changes_139 : decode cL_changes 139 = .ok (.iload_n 1, 1) := by decide +kernel
theorem dL_changes_140 : decode cL_changes 140 = .ok (.bipush 18, 2) := by decide +kernel
theorem dL_changes_142 : decode cL_changes 142 = .ok (.ishr, 1) := by decide +kernel
theorem dL_changes_143 : decode cL_changes 143 = .ok (.bipush 51, 2) := by decide +kernel
theorem dL_changes_145 : decode cL_changes 145 = .ok (.invokestatic 75, 3) := by decide +kernel
theorem dL_changes_148 : decode cL_changes 148 = .ok (.invokevirtual 84, 3) := by decide +kernel
theorem dL_changes_151 : decode cL_changes 151 = .ok (.ireturn, 1) := by decide +kernel
theorem dL_changes_152 : decode cL_changes 152 = .ok (.aload_n 0, 1) := by decide +kernel
theorem dL_changes_153 : decode cL_changes 153 = .ok (.iload_n 1, 1) := by decide +kernel
theorem dL_changes_154 : decode cL_changes 154 = .ok (.iconst 4, 1) := by decide +kernel
theorem dL_changes_155 : decode cL_changes 155 = .ok (.ishr, 1) := by decide +kernel
theorem dL_changes_156 : decode cL_changes 156 = .ok (.iconst 4, 1) := by decide +kernel
theorem dL_changes_157 : decode cL_changes 157 = .ok (.invokestatic 75, 3) := by decide +kernel
theorem dL_changes_160 : decode cL_changes 160 = .ok (.iload_n 1, 1) := by decide +kernel
theorem dL_changes_161 : decode cL_changes 161 = .ok (.bipush 6, 2) := by decide +kernel
theorem dL_changes_163 : decode cL_changes 163 = .ok (.ishr, 1) := by decide +kernel
theorem dL_changes_164 : decode cL_changes 164 = .ok (.iconst 3, 1) := by decide +kernel
theorem dL_changes_165 : decode cL_changes 165 = .ok (.invokestatic 75, 3) := by decide +kernel
theorem dL_changes_168 : decode cL_changes 168 = .ok (.invokevirtual 88, 3) := by decide +kernel
theorem dL_changes_171 : decode cL_changes 171 = .ok (.ireturn, 1) := by decide +kernel
theorem dL_changes_172 : decode cL_changes 172 = .ok (.aload_n 0, 1) := by decide +kernel
theorem dL_changes_173 : decode cL_changes 173 = .ok (.iconst 1, 1) := by decide +kernel
theorem dL_changes_174 : decode cL_changes 174 = .ok (.iload_n 1, 1) := by decide +kernel
theorem dL_changes_175 : decode cL_changes 175 = .ok (.iconst 4, 1) := by decide +kernel
theorem dL_changes_176 : decode cL_changes 176 = .ok (.ishr, 1) := by decide +kernel
theorem dL_changes_177 : decode cL_changes 177 = .ok (.bipush 24, 2) := by decide +kernel
theorem dL_changes_179 : decode cL_changes 179 = .ok (.invokestatic 75, 3) := by decide +kernel
theorem dL_changes_182 : decode cL_changes 182 = .ok (.iadd, 1) := by decide +kernel
theorem dL_changes_183 : decode cL_changes 183 = .ok (.iconst 1, 1) := by decide +kernel
theorem dL_changes_184 : decode cL_changes 184 = .ok (.iload_n 1, 1) := by decide +kernel
theorem dL_changes_185 : decode cL_changes 185 = .ok (.bipush 9, 2) := by decide +kernel
theorem dL_changes_187 : decode cL_changes 187 = .ok (.ishr, 1) := by decide +kernel
theorem dL_changes_188 : decode cL_changes 188 = .ok (.sipush 1000, 3) := by decide +kernel
theorem dL_changes_191 : decode cL_changes 191 = .ok (.invokestatic 75, 3) := by decide +kernel
theorem dL_changes_194 : decode cL_changes 194 = .ok (.iadd, 1) := by decide +kernel
theorem dL_changes_195 : decode cL_changes 195 = .ok (.iconst 1, 1) := by decide +kernel
theorem dL_changes_196 : decode cL_changes 196 = .ok (.iload_n 1, 1) := by decide +kernel
theorem dL_changes_197 : decode cL_changes 197 = .ok (.bipush 19, 2) := by decide +kernel
theorem dL_changes_199 : decode cL_changes 199 = .ok (.ishr, 1) := by decide +kernel
theorem dL_changes_200 : decode cL_changes 200 = .ok (.bipush 60, 2) := by decide +kernel
theorem dL_changes_202 : decode cL_changes 202 = .ok (.invokestatic 75, 3) := by decide +kernel
theorem dL_changes_205 : decode cL_changes 205 = .ok (.iadd, 1) := by decide +kernel
theorem dL_changes_206 : decode cL_changes 206 = .ok (.invokevirtual 91, 3) := by decide +kernel
theorem dL_changes_209 : decode cL_changes 209 = .ok (.ireturn, 1) := by decide +kernel
theorem dL_changes_210 : decode cL_changes 210 = .ok (.aload_n 0, 1) := by decide +kernel
theorem dL_changes_211 : decode cL_changes 211 = .ok (.iload_n 2, 1) := by decide +kernel
theorem dL_changes_212 : decode cL_changes 212 = .ok (.invokevirtual 95, 3) := by decide +kernel
theorem dL_changes_215 : decode cL_changes 215 = .ok (.ireturn, 1) := by decide +kernel
theorem dL_changes_216 : decode cL_changes 216 = .ok (.aload_n 0, 1) := by decide +kernel
theorem dL_changes_217 : decode cL_changes 217 = .ok (.iload_n 1, 1) := by decide +kernel
theorem dL_changes_218 : decode cL_changes 218 = .ok (.iconst 4, 1) := by decide +kernel
theorem dL_changes_219 : decode cL_changes 219 = .ok (.ishr, 1) := by decide +kernel
theorem dL_changes_220 : decode cL_changes 220 = .ok (.sipush 700, 3) := by decide +kernel
theorem dL_changes_223 : decode cL_changes 223 = .ok (.invokestatic 75, 3) := by decide +kernel
theorem dL_changes_226 : decode cL_changes 226 = .ok (.invokevirtual 98, 3) := by decide +kernel
theorem dL_changes_229 : decode cL_changes 229 = .ok (.ireturn, 1) := by decide +kernel
theorem dL_changes_230 : decode cL_changes 230 = .ok (.aload_n 0, 1) := by decide +kernel
theorem dL_changes_231 : decode cL_changes 231 = .ok (.iconst 1, 1) := by decide +kernel
theorem dL_changes_232 : decode cL_changes 232 = .ok (.iload_n 1, 1) := by decide +kernel
theorem dL_changes_233 : decode cL_changes 233 = .ok (.iconst 4, 1) := by decide +kernel
theorem dL_changes_234 : decode cL_changes 234 = .ok (.ishr, 1) := by decide +kernel
theorem dL_changes_235 : decode cL_changes 235 = .ok (.bipush 40, 2) := by decide +kernel
theorem dL_changes_237 : decode cL_changes 237 = .ok (.invokestatic 75, 3) := by decide +kernel
theorem dL_changes_240 : decode cL_changes 240 = .ok (.iadd, 1) := by decide +kernel
theorem dL_changes_241 : decode cL_changes 241 = .ok (.invokevirtual 101, 3) := by decide +kernel
theorem dL_changes_244 : decode cL_changes 244 = .ok (.ireturn, 1) := by decide +kernel
theorem dL_changes_245 : decode cL_changes 245 = .ok (.aload_n 0, 1) := by decide +kernel
theorem dL_changes_246 : decode cL_changes 246 = .ok (.iload_n 2, 1) := by decide +kernel
theorem dL_changes_247 : decode cL_changes 247 = .ok (.bipush 80, 2) := by decide +kernel
theorem dL_changes_249 : decode cL_changes 249 = .ok (.iload_n 1, 1) := by decide +kernel
theorem dL_changes_250 : decode cL_changes 250 = .ok (.bipush 8, 2) := by decide +kernel
theorem dL_changes_252 : decode cL_changes 252 = .ok (.ishr, 1) := by decide +kernel
theorem dL_changes_253 : decode cL_changes 253 = .ok (.sipush 140, 3) := by decide +kernel
theorem dL_changes_256 : decode cL_changes 256 = .ok (.invokestatic 75, 3) := by decide +kernel
theorem dL_changes_259 : decode cL_changes 259 = .ok (.iadd, 1) := by decide +kernel
theorem dL_changes_260 : decode cL_changes 260 = .ok (.bipush 60, 2) := by decide +kernel
theorem dL_changes_262 : decode cL_changes 262 = .ok (.iload_n 1, 1) := by decide +kernel
theorem dL_changes_263 : decode cL_changes 263 = .ok (.bipush 13, 2) := by decide +kernel
theorem dL_changes_265 : decode cL_changes 265 = .ok (.ishr, 1) := by decide +kernel
theorem dL_changes_266 : decode cL_changes 266 = .ok (.sipush 160, 3) := by decide +kernel
theorem dL_changes_269 : decode cL_changes 269 = .ok (.invokestatic 75, 3) := by decide +kernel
theorem dL_changes_272 : decode cL_changes 272 = .ok (.iadd, 1) := by decide +kernel
theorem dL_changes_273 : decode cL_changes 273 = .ok (.iload_n 1, 1) := by decide +kernel
theorem dL_changes_274 : decode cL_changes 274 = .ok (.bipush 19, 2) := by decide +kernel
theorem dL_changes_276 : decode cL_changes 276 = .ok (.ishr, 1) := by decide +kernel
theorem dL_changes_277 : decode cL_changes 277 = .ok (.bipush 61, 2) := by decide +kernel
theorem dL_changes_279 : decode cL_changes 279 = .ok (.invokestatic 75, 3) := by decide +kernel
theorem dL_changes_282 : decode cL_changes 282 = .ok (.invokevirtual 104, 3) := by decide +kernel
theorem dL_changes_285 : decode cL_changes 285 = .ok (.ireturn, 1) := by decide +kernel
theorem dL_law_0 : decode cL_law 0 = .ok (.new 9, 3) := by decide +kernel
theorem dL_law_3 : decode cL_law 3 = .ok (.dup, 1) := by decide +kernel
theorem dL_law_4 : decode cL_law 4 = .ok (.invokespecial 108, 3) := by decide +kernel
theorem dL_law_7 : decode cL_law 7 = .ok (.astore_n 1, 1) := by decide +kernel
theorem dL_law_8 : decode cL_law 8 = .ok (.aload_n 0, 1) := by decide +kernel
theorem dL_law_9 : decode cL_law 9 = .ok (.iconst 0, 1) := by decide +kernel
theorem dL_law_10 : decode cL_law 10 = .ok (.invokestatic 109, 3) := by decide +kernel
theorem dL_law_13 : decode cL_law 13 = .ok (.istore_n 2, 1) := by decide +kernel
theorem dL_law_14 : decode cL_law 14 = .ok (.aload_n 1, 1) := by decide +kernel
theorem dL_law_15 : decode cL_law 15 = .ok (.invokevirtual 113, 3) := by decide +kernel
theorem dL_law_18 : decode cL_law 18 = .ok (.bipush (-4), 2) := by decide +kernel
theorem dL_law_20 : decode cL_law 20 = .ok (.if_icmp .ne 61, 3) := by decide +kernel
theorem dL_law_23 : decode cL_law 23 = .ok (.aload_n 1, 1) := by decide +kernel
theorem dL_law_24 : decode cL_law 24 = .ok (.invokevirtual 116, 3) := by decide +kernel
theorem dL_law_27 : decode cL_law 27 = .ok (.bipush (-4), 2) := by decide +kernel
theorem dL_law_29 : decode cL_law 29 = .ok (.if_icmp .ne 52, 3) := by decide +kernel
theorem dL_law_32 : decode cL_law 32 = .ok (.aload_n 1, 1) := by decide +kernel
theorem dL_law_33 : decode cL_law 33 = .ok (.invokevirtual 71, 3) := by decide +kernel
theorem dL_law_36 : decode cL_law 36 = .ok (.ifCond .ne 45, 3) := by decide +kernel
theorem dL_law_39 : decode cL_law 39 = .ok (.aload_n 1, 1) := by decide +kernel
theorem dL_law_40 : decode cL_law 40 = .ok (.iconst 0, 1) := by decide +kernel
theorem dL_law_41 : decode cL_law 41 = .ok (.invokevirtual 56, 3) := by decide +kernel
theorem dL_law_44 : decode cL_law 44 = .ok (.iconst (-1), 1) := by decide +kernel
theorem dL_law_45 : decode cL_law 45 = .ok (.if_icmp .ne 36, 3) := by decide +kernel
theorem dL_law_48 : decode cL_law 48 = .ok (.aload_n 1, 1) := by decide +kernel
theorem dL_law_49 : decode cL_law 49 = .ok (.iconst 0, 1) := by decide +kernel
theorem dL_law_50 : decode cL_law 50 = .ok (.invokevirtual 40, 3) := by decide +kernel
theorem dL_law_53 : decode cL_law 53 = .ok (.iconst (-1), 1) := by decide +kernel
theorem dL_law_54 : decode cL_law 54 = .ok (.if_icmp .ne 27, 3) := by decide +kernel
theorem dL_law_57 : decode cL_law 57 = .ok (.aload_n 1, 1) := by decide +kernel
theorem dL_law_58 : decode cL_law 58 = .ok (.iconst (-1), 1) := by decide +kernel
theorem dL_law_59 : decode cL_law 59 = .ok (.invokevirtual 27, 3) := by decide +kernel
theorem dL_law_62 : decode cL_law 62 = .ok (.lconst 0, 1) := by decide +kernel
theorem dL_law_63 : decode cL_law 63 = .ok (.lcmp, 1) := by decide +kernel
theorem dL_law_64 : decode cL_law 64 = .ok (.ifCond .ne 17, 3) := by decide +kernel
theorem dL_law_67 : decode cL_law 67 = .ok (.aload_n 1, 1) := by decide +kernel
theorem dL_law_68 : decode cL_law 68 = .ok (.iconst 0, 1) := by decide +kernel
theorem dL_law_69 : decode cL_law 69 = .ok (.iconst 0, 1) := by decide +kernel
theorem dL_law_70 : decode cL_law 70 = .ok (.iconst 1, 1) := by decide +kernel
theorem dL_law_71 : decode cL_law 71 = .ok (.iconst 0, 1) := by decide +kernel
theorem dL_law_72 : decode cL_law 72 = .ok (.iconst 0, 1) := by decide +kernel
theorem dL_law_73 : decode cL_law 73 = .ok (.invokevirtual 84, 3) := by decide +kernel
theorem dL_law_76 : decode cL_law 76 = .ok (.bipush (-2), 2) := by decide +kernel
theorem dL_law_78 : decode cL_law 78 = .ok (.if_icmp .eq 5, 3) := by decide +kernel
theorem dL_law_81 : decode cL_law 81 = .ok (.iconst 0, 1) := by decide +kernel
theorem dL_law_82 : decode cL_law 82 = .ok (.ireturn, 1) := by decide +kernel
theorem dL_law_83 : decode cL_law 83 = .ok (.iconst 0, 1) := by decide +kernel
theorem dL_law_84 : decode cL_law 84 = .ok (.istore_n 3, 1) := by decide +kernel
theorem dL_law_85 : decode cL_law 85 = .ok (.iload_n 3, 1) := by decide +kernel
theorem dL_law_86 : decode cL_law 86 = .ok (.iconst 1, 1) := by decide +kernel
theorem dL_law_87 : decode cL_law 87 = .ok (.iload_n 2, 1) := by decide +kernel
theorem dL_law_88 : decode cL_law 88 = .ok (.iconst 3, 1) := by decide +kernel
theorem dL_law_89 : decode cL_law 89 = .ok (.invokestatic 75, 3) := by decide +kernel
theorem dL_law_92 : decode cL_law 92 = .ok (.iadd, 1) := by decide +kernel
theorem dL_law_93 : decode cL_law 93 = .ok (.if_icmp .ge 23, 3) := by decide +kernel
theorem dL_law_96 : decode cL_law 96 = .ok (.aload_n 1, 1) := by decide +kernel
theorem dL_law_97 : decode cL_law 97 = .ok (.iload_n 2, 1) := by decide +kernel
theorem dL_law_98 : decode cL_law 98 = .ok (.iconst 2, 1) := by decide +kernel
theorem dL_law_99 : decode cL_law 99 = .ok (.iload_n 3, 1) := by decide +kernel
theorem dL_law_100 : decode cL_law 100 = .ok (.iadd, 1) := by decide +kernel
theorem dL_law_101 : decode cL_law 101 = .ok (.ishr, 1) := by decide +kernel
theorem dL_law_102 : decode cL_law 102 = .ok (.iconst 3, 1) := by decide +kernel
theorem dL_law_103 : decode cL_law 103 = .ok (.invokestatic 75, 3) := by decide +kernel
theorem dL_law_106 : decode cL_law 106 = .ok (.invokevirtual 81, 3) := by decide +kernel
theorem dL_law_109 : decode cL_law 109 = .ok (.pop, 1) := by decide +kernel
theorem dL_law_110 : decode cL_law 110 = .ok (.iinc 3 1, 3) := by decide +kernel
theorem dL_law_113 : decode cL_law 113 = .ok (.goto (-28), 3) := by decide +kernel
theorem dL_law_116 : decode cL_law 116 = .ok (.iconst 0, 1) := by decide +kernel
theorem dL_law_117 : decode cL_law 117 = .ok (.istore_n 3, 1) := by decide +kernel
theorem dL_law_118 : decode cL_law 118 = .ok (.iload_n 3, 1) := by decide +kernel
theorem dL_law_119 : decode cL_law 119 = .ok (.iconst 1, 1) := by decide +kernel
theorem dL_law_120 : decode cL_law 120 = .ok (.iload_n 2, 1) := by decide +kernel
theorem dL_law_121 : decode cL_law 121 = .ok (.bipush 8, 2) := by decide +kernel
theorem dL_law_123 : decode cL_law 123 = .ok (.ishr, 1) := by decide +kernel
theorem dL_law_124 : decode cL_law 124 = .ok (.bipush 7, 2) := by decide +kernel
theorem dL_law_126 : decode cL_law 126 = .ok (.invokestatic 75, 3) := by decide +kernel
theorem dL_law_129 : decode cL_law 129 = .ok (.iadd, 1) := by decide +kernel
theorem dL_law_130 : decode cL_law 130 = .ok (.if_icmp .ge 77, 3) := by decide +kernel
theorem dL_law_133 : decode cL_law 133 = .ok (.aload_n 0, 1) := by decide +kernel
theorem dL_law_134 : decode cL_law 134 = .ok (.iconst 1, 1) := by decide +kernel
theorem dL_law_135 : decode cL_law 135 = .ok (.iload_n 3, 1) := by decide +kernel
theorem dL_law_136 : decode cL_law 136 = .ok (.iadd, 1) := by decide +kernel
theorem dL_law_137 : decode cL_law 137 = .ok (.invokestatic 109, 3) := by decide +kernel
theorem dL_law_140 : decode cL_law 140 = .ok (.istore 4, 2) := by decide +kernel
theorem dL_law_142 : decode cL_law 142 = .ok (.aload_n 1, 1) := by decide +kernel
theorem dL_law_143 : decode cL_law 143 = .ok (.iload 4, 2) := by decide +kernel
theorem dL_law_145 : decode cL_law 145 = .ok (.aload_n 1, 1) := by decide +kernel
theorem dL_law_146 : decode cL_law 146 = .ok (.iconst 0, 1) := by decide +kernel
theorem dL_law_147 : decode cL_law 147 = .ok (.invokevirtual 8, 3) := by decide +kernel
theorem dL_law_150 : decode cL_law 150 = .ok (.invokestatic 75, 3) := by decide +kernel
theorem dL_law_153 : decode cL_law 153 = .ok (.iload 4, 2) := by decide +kernel
theorem dL_law_155 : decode cL_law 155 = .ok (.iconst 3, 1) := by decide +kernel
theorem dL_law_156 : decode cL_law 156 = .ok (.ishr, 1) := by decide +kernel
theorem dL_law_157 : decode cL_law 157 = .ok (.iconst 3, 1) := by decide +kernel
theorem dL_law_158 : decode cL_law 158 = .ok (.invokestatic 75, 3) := by decide +kernel
theorem dL_law_161 : decode cL_law 161 = .ok (.iconst 1, 1) := by decide +kernel
theorem dL_law_162 : decode cL_law 162 = .ok (.iload 4, 2) := by decide +kernel
theorem dL_law_164 : decode cL_law 164 = .ok (.iconst 5, 1) := by decide +kernel
theorem dL_law_165 : decode cL_law 165 = .ok (.ishr, 1) := by decide +kernel
theorem dL_law_166 : decode cL_law 166 = .ok (.bipush 9, 2) := by decide +kernel
theorem dL_law_168 : decode cL_law 168 = .ok (.invokestatic 75, 3) := by decide +kernel
theorem dL_law_171 : decode cL_law 171 = .ok (.iadd, 1) := by decide +kernel
theorem dL_law_172 : decode cL_law 172 = .ok (.iload 4, 2) := by decide +kernel
theorem dL_law_174 : decode cL_law 174 = .ok (.bipush 9, 2) := by decide +kernel
theorem dL_law_176 : decode cL_law 176 = .ok (.ishr, 1) := by decide +kernel
theorem dL_law_177 : decode cL_law 177 = .ok (.bipush 51, 2) := by decide +kernel
theorem dL_law_179 : decode cL_law 179 = .ok (.invokestatic 75, 3) := by decide +kernel
theorem dL_law_182 : decode cL_law 182 = .ok (.iload 4, 2) := by decide +kernel
theorem dL_law_184 : decode cL_law 184 = .ok (.bipush 15, 2) := by decide +kernel
theorem dL_law_186 : decode cL_law 186 = .ok (.ishr, 1) := by decide +kernel
theorem dL_law_187 : decode cL_law 187 = .ok (.bipush 51, 2) := by decide +kernel
theorem dL_law_189 : decode cL_law 189 = .ok (.invokestatic 75, 3) := by decide +kernel
theorem dL_law_192 : decode cL_law 192 = .ok (.invokevirtual 84, 3) := by decide +kernel
theorem dL_law_195 : decode cL_law 195 = .ok (.iload_n 3, 1) := by decide +kernel
theorem dL_law_196 : decode cL_law 196 = .ok (.if_icmp .eq 5, 3) := by decide +kernel
theorem dL_law_199 : decode cL_law 199 = .ok (.iconst 0, 1) := by decide +kernel
theorem dL_law_200 : decode cL_law 200 = .ok (.ireturn, 1) := by decide +kernel
theorem dL_law_201 : decode cL_law 201 = .ok (.iinc 3 1, 3) := by decide +kernel
theorem dL_law_204 : decode cL_law 204 = .ok (.goto (-86), 3) := by decide +kernel
theorem dL_law_207 : decode cL_law 207 = .ok (.iconst 0, 1) := by decide +kernel
theorem dL_law_208 : decode cL_law 208 = .ok (.istore_n 3, 1) := by decide +kernel
theorem dL_law_209 : decode cL_law 209 = .ok (.iload_n 3, 1) := by decide +kernel
theorem dL_law_210 : decode cL_law 210 = .ok (.bipush 18, 2) := by decide +kernel
theorem dL_law_212 : decode cL_law 212 = .ok (.if_icmp .ge 223, 3) := by decide +kernel
theorem dL_law_215 : decode cL_law 215 = .ok (.aload_n 0, 1) := by decide +kernel
theorem dL_law_216 : decode cL_law 216 = .ok (.bipush 8, 2) := by decide +kernel
theorem dL_law_218 : decode cL_law 218 = .ok (.iload_n 3, 1) := by decide +kernel
theorem dL_law_219 : decode cL_law 219 = .ok (.iadd, 1) := by decide +kernel
theorem dL_law_220 : decode cL_law 220 = .ok (.invokestatic 109, 3) := by decide +kernel
theorem dL_law_223 : decode cL_law 223 = .ok (.istore 4, 2) := by decide +kernel
theorem dL_law_225 : decode cL_law 225 = .ok (.aload_n 1, 1) := by decide +kernel
theorem dL_law_226 : decode cL_law 226 = .ok (.invokevirtual 119, 3) := by decide +kernel
theorem dL_law_229 : decode cL_law 229 = .ok (.lstore 5, 2) := by decide +kernel
theorem dL_law_231 : decode cL_law 231 = .ok (.aload_n 1, 1) := by decide +kernel
theorem dL_law_232 : decode cL_law 232 = .ok (.bipush 6, 2) := by decide +kernel
theorem dL_law_234 : decode cL_law 234 = .ok (.invokevirtual 8, 3) := by decide +kernel
theorem dL_law_237 : decode cL_law 237 = .ok (.istore 7, 2) := by decide +kernel
theorem dL_law_239 : decode cL_law 239 = .ok (.aload_n 1, 1) := by decide +kernel
theorem dL_law_240 : decode cL_law 240 = .ok (.bipush 7, 2) := by decide +kernel
theorem dL_law_242 : decode cL_law 242 = .ok (.invokevirtual 8, 3) := by decide +kernel
theorem dL_law_245 : decode cL_law 245 = .ok (.istore 8, 2) := by decide +kernel
theorem dL_law_247 : decode cL_law 247 = .ok (.iload 4, 2) := by decide +kernel
theorem dL_law_249 : decode cL_law 249 = .ok (.bipush 14, 2) := by decide +kernel
theorem dL_law_251 : decode cL_law 251 = .ok (.invokestatic 75, 3) := by decide +kernel
theorem dL_law_254 : decode cL_law 254 = .ok (.istore 9, 2) := by decide +kernel
theorem dL_law_256 : decode cL_law 256 = .ok (.aload_n 1, 1) := by decide +kernel
theorem dL_law_257 : decode cL_law 257 = .ok (.iload 4, 2) := by decide +kernel
theorem dL_law_259 : decode cL_law 259 = .ok (.invokestatic 123, 3) := by decide +kernel
theorem dL_law_262 : decode cL_law 262 = .ok (.istore 10, 2) := by decide +kernel
theorem dL_law_264 : decode cL_law 264 = .ok (.iload 10, 2) := by decide +kernel
theorem dL_law_266 : decode cL_law 266 = .ok (.ifCond .ge 15, 3) := by decide +kernel
theorem dL_law_269 : decode cL_law 269 = .ok (.aload_n 1, 1) := by decide +kernel
theorem dL_law_270 : decode cL_law 270 = .ok (.invokevirtual 119, 3) := by decide +kernel
theorem dL_law_273 : decode cL_law 273 = .ok (.lload 5, 2) := by decide +kernel
theorem dL_law_275 : decode cL_law 275 = .ok (.lcmp, 1) := by decide +kernel
theorem dL_law_276 : decode cL_law 276 = .ok (.ifCond .eq 5, 3) := by decide +kernel
theorem dL_law_279 : decode cL_law 279 = .ok (.iconst 0, 1) := by decide +kernel
theorem dL_law_280 : decode cL_law 280 = .ok (.ireturn, 1) := by decide +kernel
theorem dL_law_281 : decode cL_law 281 = .ok (.iload 9, 2) := by decide +kernel
theorem dL_law_283 : decode cL_law 283 = .ok (.bipush 6, 2) := by decide +kernel
theorem dL_law_285 : decode cL_law 285 = .ok (.if_icmp .ne 35, 3) := by decide +kernel
theorem dL_law_288 : decode cL_law 288 = .ok (.iload 10, 2) := by decide +kernel
theorem dL_law_290 : decode cL_law 290 = .ok (.ifCond .le 30, 3) := by decide +kernel
theorem dL_law_293 : decode cL_law 293 = .ok (.aload_n 1, 1) := by decide +kernel
theorem dL_law_294 : decode cL_law 294 = .ok (.bipush 6, 2) := by decide +kernel
theorem dL_law_296 : decode cL_law 296 = .ok (.invokevirtual 8, 3) := by decide +kernel
theorem dL_law_299 : decode cL_law 299 = .ok (.iload 7, 2) := by decide +kernel
theorem dL_law_301 : decode cL_law 301 = .ok (.iload 10, 2) := by decide +kernel
theorem dL_law_303 : decode cL_law 303 = .ok (.iadd, 1) := by decide +kernel
theorem dL_law_304 : decode cL_law 304 = .ok (.if_icmp .ne 59, 3) := by decide +kernel
theorem dL_law_307 : decode cL_law 307 = .ok (.aload_n 1, 1) := by decide +kernel
theorem dL_law_308 : decode cL_law 308 = .ok (.bipush 7, 2) := by decide +kernel
theorem dL_law_310 : decode cL_law 310 = .ok (.invokevirtual 8, 3) := by decide +kernel
theorem dL_law_313 : decode cL_law 313 = .ok (.iload 8, 2) := by decide +kernel
theorem dL_law_315 : decode cL_law 315 = .ok (.iconst 1, 1) := by decide +kernel
theorem dL_law_316 : decode cL_law 316 = .ok (.iadd, 1) := by decide +kernel
theorem dL_law_317 : decode cL_law 317 = .ok (.if_icmp .ne 46, 3) := by decide +kernel
theorem dL_law_320 : decode cL_law 320 = .ok (.iload 9, 2) := by decide +kernel
theorem dL_law_322 : decode cL_law 322 = .ok (.bipush 7, 2) := by decide +kernel
theorem dL_law_324 : decode cL_law 324 = .ok (.if_icmp .ne 41, 3) := by decide +kernel
theorem dL_law_327 : decode cL_law 327 = .ok (.aload_n 1, 1) := by decide +kernel
theorem dL_law_328 : decode cL_law 328 = .ok (.bipush 7, 2) := by decide +kernel
theorem dL_law_330 : decode cL_law 330 = .ok (.invokevirtual 8, 3) := by decide +kernel
theorem dL_law_333 : decode cL_law 333 = .ok (.iload 8, 2) := by decide +kernel
theorem dL_law_335 : decode cL_law 335 = .ok (.iload 10, 2) := by decide +kernel
theorem dL_law_337 : decode cL_law 337 = .ok (.iadd, 1) := by decide +kernel
theorem dL_law_338 : decode cL_law 338 = .ok (.if_icmp .ne 25, 3) := by decide +kernel
theorem dL_law_341 : decode cL_law 341 = .ok (.aload_n 1, 1) := by decide +kernel
theorem dL_law_342 : decode cL_law 342 = .ok (.bipush 6, 2) := by decide +kernel
theorem dL_law_344 : decode cL_law 344 = .ok (.invokevirtual 8, 3) := by decide +kernel
theorem dL_law_347 : decode cL_law 347 = .ok (.iload 7, 2) := by decide +kernel
theorem dL_law_349 : decode cL_law 349 = .ok (.isub, 1) := by decide +kernel
theorem dL_law_350 : decode cL_law 350 = .ok (.iload 4, 2) := by decide +kernel
theorem dL_law_352 : decode cL_law 352 = .ok (.iconst 4, 1) := by decide +kernel
theorem dL_law_353 : decode cL_law 353 = .ok (.ishr, 1) := by decide +kernel
theorem dL_law_354 : decode cL_law 354 = .ok (.sipush 700, 3) := by decide +kernel
theorem dL_law_357 : decode cL_law 357 = .ok (.invokestatic 75, 3) := by decide +kernel
theorem dL_law_360 : decode cL_law 360 = .ok (.if_icmp .le 5, 3) := by decide +kernel
theorem dL_law_363 : decode cL_law 363 = .ok (.iconst 0, 1) := by decide +kernel
theorem dL_law_364 : decode cL_law 364 = .ok (.ireturn, 1) := by decide +kernel
theorem dL_law_365 : decode cL_law 365 = .ok (.iload 10, 2) := by decide +kernel
theorem dL_law_367 : decode cL_law 367 = .ok (.ifCond .lt 32, 3) := by decide +kernel
theorem dL_law_370 : decode cL_law 370 = .ok (.iload 4, 2) := by decide +kernel
theorem dL_law_372 : decode cL_law 372 = .ok (.bipush 27, 2) := by decide +kernel
theorem dL_law_374 : decode cL_law 374 = .ok (.ishr, 1) := by decide +kernel
theorem dL_law_375 : decode cL_law 375 = .ok (.iconst 3, 1) := by decide +kernel
theorem dL_law_376 : decode cL_law 376 = .ok (.iand, 1) := by decide +kernel
theorem dL_law_377 : decode cL_law 377 = .ok (.ifCond .ne 22, 3) := by decide +kernel
theorem dL_law_380 : decode cL_law 380 = .ok (.aload_n 1, 1) := by decide +kernel
theorem dL_law_381 : decode cL_law 381 = .ok (.invokevirtual 113, 3) := by decide +kernel
theorem dL_law_384 : decode cL_law 384 = .ok (.ifCond .lt 13, 3) := by decide +kernel
theorem dL_law_387 : decode cL_law 387 = .ok (.aload_n 1, 1) := by decide +kernel
theorem dL_law_388 : decode cL_law 388 = .ok (.invokevirtual 119, 3) := by decide +kernel
theorem dL_law_391 : decode cL_law 391 = .ok (.lload 5, 2) := by decide +kernel
theorem dL_law_393 : decode cL_law 393 = .ok (.lcmp, 1) := by decide +kernel
theorem dL_law_394 : decode cL_law 394 = .ok (.ifCond .eq 5, 3) := by decide +kernel
theorem dL_law_397 : decode cL_law 397 = .ok (.iconst 0, 1) := by decide +kernel
theorem dL_law_398 : decode cL_law 398 = .ok (.ireturn, 1) := by decide +kernel
theorem dL_law_399 : decode cL_law 399 = .ok (.aload_n 1, 1) := by decide +kernel
theorem dL_law_400 : decode cL_law 400 = .ok (.invokestatic 127, 3) := by decide +kernel
theorem dL_law_403 : decode cL_law 403 = .ok (.ifCond .eq 24, 3) := by decide +kernel
theorem dL_law_406 : decode cL_law 406 = .ok (.iload_n 3, 1) := by decide +kernel
theorem dL_law_407 : decode cL_law 407 = .ok (.iconst 3, 1) := by decide +kernel
theorem dL_law_408 : decode cL_law 408 = .ok (.irem, 1) := by decide +kernel
theorem dL_law_409 : decode cL_law 409 = .ok (.iconst 2, 1) := by decide +kernel
theorem dL_law_410 : decode cL_law 410 = .ok (.if_icmp .ne 19, 3) := by decide +kernel
theorem dL_law_413 : decode cL_law 413 = .ok (.aload_n 1, 1) := by decide +kernel
theorem dL_law_414 : decode cL_law 414 = .ok (.invokestatic 131, 3) := by decide +kernel
theorem dL_law_417 : decode cL_law 417 = .ok (.ifCond .eq 10, 3) := by decide +kernel
theorem dL_law_420 : decode cL_law 420 = .ok (.aload_n 1, 1) := by decide +kernel
theorem dL_law_421 : decode cL_law 421 = .ok (.invokestatic 134, 3) := by decide +kernel
theorem dL_law_424 : decode cL_law 424 = .ok (.ifCond .ne 5, 3) := by decide +kernel
theorem dL_law_427 : decode cL_law 427 = .ok (.iconst 0, 1) := by decide +kernel
theorem dL_law_428 : decode cL_law 428 = .ok (.ireturn, 1) := by decide +kernel
theorem dL_law_429 : decode cL_law 429 = .ok (.iinc 3 1, 3) := by decide +kernel
theorem dL_law_432 : decode cL_law 432 = .ok (.goto (-223), 3) := by decide +kernel
theorem dL_law_435 : decode cL_law 435 = .ok (.iconst 1, 1) := by decide +kernel
theorem dL_law_436 : decode cL_law 436 = .ok (.iload_n 2, 1) := by decide +kernel
theorem dL_law_437 : decode cL_law 437 = .ok (.bipush 12, 2) := by decide +kernel
theorem dL_law_439 : decode cL_law 439 = .ok (.ishr, 1) := by decide +kernel
theorem dL_law_440 : decode cL_law 440 = .ok (.bipush 100, 2) := by decide +kernel
theorem dL_law_442 : decode cL_law 442 = .ok (.invokestatic 75, 3) := by decide +kernel
theorem dL_law_445 : decode cL_law 445 = .ok (.iadd, 1) := by decide +kernel
theorem dL_law_446 : decode cL_law 446 = .ok (.istore_n 3, 1) := by decide +kernel
theorem dL_law_447 : decode cL_law 447 = .ok (.aload_n 1, 1) := by decide +kernel
theorem dL_law_448 : decode cL_law 448 = .ok (.iconst 2, 1) := by decide +kernel
theorem dL_law_449 : decode cL_law 449 = .ok (.invokevirtual 8, 3) := by decide +kernel
theorem dL_law_452 : decode cL_law 452 = .ok (.istore 4, 2) := by decide +kernel
theorem dL_law_454 : decode cL_law 454 = .ok (.iconst 0, 1) := by decide +kernel
theorem dL_law_455 : decode cL_law 455 = .ok (.istore 5, 2) := by decide +kernel
theorem dL_law_457 : decode cL_law 457 = .ok (.iload 5, 2) := by decide +kernel
theorem dL_law_459 : decode cL_law 459 = .ok (.aload_n 1, 1) := by decide +kernel
theorem dL_law_460 : decode cL_law 460 = .ok (.iconst 1, 1) := by decide +kernel
theorem dL_law_461 : decode cL_law 461 = .ok (.invokevirtual 8, 3) := by decide +kernel
theorem dL_law_464 : decode cL_law 464 = .ok (.if_icmp .ge 74, 3) := by decide +kernel
theorem dL_law_467 : decode cL_law 467 = .ok (.aload_n 1, 1) := by decide +kernel
theorem dL_law_468 : decode cL_law 468 = .ok (.iload 5, 2) := by decide +kernel
theorem dL_law_470 : decode cL_law 470 = .ok (.invokevirtual 27, 3) := by decide +kernel
theorem dL_law_473 : decode cL_law 473 = .ok (.lstore 6, 2) := by decide +kernel
theorem dL_law_475 : decode cL_law 475 = .ok (.aload_n 1, 1) := by decide +kernel
theorem dL_law_476 : decode cL_law 476 = .ok (.iload_n 3, 1) := by decide +kernel
theorem dL_law_477 : decode cL_law 477 = .ok (.invokevirtual 101, 3) := by decide +kernel
theorem dL_law_480 : decode cL_law 480 = .ok (.iload_n 3, 1) := by decide +kernel
theorem dL_law_481 : decode cL_law 481 = .ok (.if_icmp .lt 49, 3) := by decide +kernel
theorem dL_law_484 : decode cL_law 484 = .ok (.aload_n 1, 1) := by decide +kernel
theorem dL_law_485 : decode cL_law 485 = .ok (.iload 5, 2) := by decide +kernel
theorem dL_law_487 : decode cL_law 487 = .ok (.invokevirtual 27, 3) := by decide +kernel
theorem dL_law_490 : decode cL_law 490 = .ok (.lload 6, 2) := by decide +kernel
theorem dL_law_492 : decode cL_law 492 = .ok (.aload_n 1, 1) := by decide +kernel
theorem dL_law_493 : decode cL_law 493 = .ok (.iload 5, 2) := by decide +kernel
theorem dL_law_495 : decode cL_law 495 = .ok (.invokevirtual 18, 3) := by decide +kernel
theorem dL_law_498 : decode cL_law 498 = .ok (.i2l, 1) := by decide +kernel
theorem dL_law_499 : decode cL_law 499 = .ok (.iload 4, 2) := by decide +kernel
theorem dL_law_501 : decode cL_law 501 = .ok (.i2l, 1) := by decide +kernel
theorem dL_law_502 : decode cL_law 502 = .ok (.lmul, 1) := by decide +kernel
theorem dL_law_503 : decode cL_law 503 = .ok (.iload_n 3, 1) := by decide +kernel
theorem dL_law_504 : decode cL_law 504 = .ok (.i2l, 1) := by decide +kernel
theorem dL_law_505 : decode cL_law 505 = .ok (.lmul, 1) := by decide +kernel
theorem dL_law_506 : decode cL_law 506 = .ok (.ladd, 1) := by decide +kernel
theorem dL_law_507 : decode cL_law 507 = .ok (.lcmp, 1) := by decide +kernel
theorem dL_law_508 : decode cL_law 508 = .ok (.ifCond .ne 22, 3) := by decide +kernel
theorem dL_law_511 : decode cL_law 511 = .ok (.aload_n 1, 1) := by decide +kernel
theorem dL_law_512 : decode cL_law 512 = .ok (.invokevirtual 113, 3) := by decide +kernel
theorem dL_law_515 : decode cL_law 515 = .ok (.ifCond .lt 15, 3) := by decide +kernel
theorem dL_law_518 : decode cL_law 518 = .ok (.aload_n 1, 1) := by decide +kernel
theorem dL_law_519 : decode cL_law 519 = .ok (.iload 5, 2) := by decide +kernel
theorem dL_law_521 : decode cL_law 521 = .ok (.invokevirtual 27, 3) := by decide +kernel
theorem dL_law_524 : decode cL_law 524 = .ok (.lload 6, 2) := by decide +kernel
theorem dL_law_526 : decode cL_law 526 = .ok (.lcmp, 1) := by decide +kernel
theorem dL_law_527 : decode cL_law 527 = .ok (.ifCond .eq 5, 3) := by decide +kernel
theorem dL_law_530 : decode cL_law 530 = .ok (.iconst 0, 1) := by decide +kernel
theorem dL_law_531 : decode cL_law 531 = .ok (.ireturn, 1) := by decide +kernel
theorem dL_law_532 : decode cL_law 532 = .ok (.iinc 5 1, 3) := by decide +kernel
theorem dL_law_535 : decode cL_law 535 = .ok (.goto (-78), 3) := by decide +kernel
theorem dL_law_538 : decode cL_law 538 = .ok (.iconst 0, 1) := by decide +kernel
theorem dL_law_539 : decode cL_law 539 = .ok (.istore 5, 2) := by decide +kernel
theorem dL_law_541 : decode cL_law 541 = .ok (.iload 5, 2) := by decide +kernel
theorem dL_law_543 : decode cL_law 543 = .ok (.aload_n 1, 1) := by decide +kernel
theorem dL_law_544 : decode cL_law 544 = .ok (.iconst 1, 1) := by decide +kernel
theorem dL_law_545 : decode cL_law 545 = .ok (.invokevirtual 8, 3) := by decide +kernel
theorem dL_law_548 : decode cL_law 548 = .ok (.if_icmp .ge 130, 3) := by decide +kernel
theorem dL_law_551 : decode cL_law 551 = .ok (.aload_n 0, 1) := by decide +kernel
theorem dL_law_552 : decode cL_law 552 = .ok (.bipush 27, 2) := by decide +kernel
theorem dL_law_554 : decode cL_law 554 = .ok (.iload 5, 2) := by decide +kernel
theorem dL_law_556 : decode cL_law 556 = .ok (.iconst 5, 1) := by decide +kernel
theorem dL_law_557 : decode cL_law 557 = .ok (.irem, 1) := by decide +kernel
theorem dL_law_558 : decode cL_law 558 = .ok (.iadd, 1) := by decide +kernel
theorem dL_law_559 : decode cL_law 559 = .ok (.invokestatic 109, 3) := by decide +kernel
theorem dL_law_562 : decode cL_law 562 = .ok (.istore 6, 2) := by decide +kernel
theorem dL_law_564 : decode cL_law 564 = .ok (.iload 6, 2) := by decide +kernel
theorem dL_law_566 : decode cL_law 566 = .ok (.sipush 301, 3) := by decide +kernel
theorem dL_law_569 : decode cL_law 569 = .ok (.invokestatic 75, 3) := by decide +kernel
theorem dL_law_572 : decode cL_law 572 = .ok (.istore 7, 2) := by decide +kernel
theorem dL_law_574 : decode cL_law 574 = .ok (.iload 6, 2) := by decide +kernel
theorem dL_law_576 : decode cL_law 576 = .ok (.bipush 6, 2) := by decide +kernel
theorem dL_law_578 : decode cL_law 578 = .ok (.ishr, 1) := by decide +kernel
theorem dL_law_579 : decode cL_law 579 = .ok (.sipush 301, 3) := by decide +kernel
theorem dL_law_582 : decode cL_law 582 = .ok (.invokestatic 75, 3) := by decide +kernel
theorem dL_law_585 : decode cL_law 585 = .ok (.istore 8, 2) := by decide +kernel
theorem dL_law_587 : decode cL_law 587 = .ok (.iload 6, 2) := by decide +kernel
theorem dL_law_589 : decode cL_law 589 = .ok (.bipush 12, 2) := by decide +kernel
theorem dL_law_591 : decode cL_law 591 = .ok (.ishr, 1) := by decide +kernel
theorem dL_law_592 : decode cL_law 592 = .ok (.bipush 61, 2) := by decide +kernel
theorem dL_law_594 : decode cL_law 594 = .ok (.invokestatic 75, 3) := by decide +kernel
theorem dL_law_597 : decode cL_law 597 = .ok (.istore 9, 2) := by decide +kernel
theorem dL_law_599 : decode cL_law 599 = .ok (.aload_n 1, 1) := by decide +kernel
theorem dL_law_600 : decode cL_law 600 = .ok (.iload 5, 2) := by decide +kernel
theorem dL_law_602 : decode cL_law 602 = .ok (.iload 7, 2) := by decide +kernel
theorem dL_law_604 : decode cL_law 604 = .ok (.iload 8, 2) := by decide +kernel
theorem dL_law_606 : decode cL_law 606 = .ok (.iload 9, 2) := by decide +kernel
theorem dL_law_608 : decode cL_law 608 = .ok (.invokevirtual 137, 3) := by decide +kernel
theorem dL_law_611 : decode cL_law 611 = .ok (.istore 10, 2) := by decide +kernel
theorem dL_law_613 : decode cL_law 613 = .ok (.iload 10, 2) := by decide +kernel
theorem dL_law_615 : decode cL_law 615 = .ok (.iconst 1, 1) := by decide +kernel
theorem dL_law_616 : decode cL_law 616 = .ok (.if_icmp .lt 54, 3) := by decide +kernel
theorem dL_law_619 : decode cL_law 619 = .ok (.iload 10, 2) := by decide +kernel
theorem dL_law_621 : decode cL_law 621 = .ok (.iconst 5, 1) := by decide +kernel
theorem dL_law_622 : decode cL_law 622 = .ok (.if_icmp .gt 48, 3) := by decide +kernel
theorem dL_law_625 : decode cL_law 625 = .ok (.aload_n 1, 1) := by decide +kernel
theorem dL_law_626 : decode cL_law 626 = .ok (.iload 5, 2) := by decide +kernel
theorem dL_law_628 : decode cL_law 628 = .ok (.iload 7, 2) := by decide +kernel
theorem dL_law_630 : decode cL_law 630 = .ok (.iload 8, 2) := by decide +kernel
theorem dL_law_632 : decode cL_law 632 = .ok (.iload 9, 2) := by decide +kernel
theorem dL_law_634 : decode cL_law 634 = .ok (.invokevirtual 104, 3) := by decide +kernel
theorem dL_law_637 : decode cL_law 637 = .ok (.iload 10, 2) := by decide +kernel
theorem dL_law_639 : decode cL_law 639 = .ok (.if_icmp .ne 31, 3) := by decide +kernel
theorem dL_law_642 : decode cL_law 642 = .ok (.aload_n 1, 1) := by decide +kernel
theorem dL_law_643 : decode cL_law 643 = .ok (.iload 5, 2) := by decide +kernel
theorem dL_law_645 : decode cL_law 645 = .ok (.iconst 5, 1) := by decide +kernel
theorem dL_law_646 : decode cL_law 646 = .ok (.invokevirtual 14, 3) := by decide +kernel
theorem dL_law_649 : decode cL_law 649 = .ok (.iload 10, 2) := by decide +kernel
theorem dL_law_651 : decode cL_law 651 = .ok (.if_icmp .ne 19, 3) := by decide +kernel
theorem dL_law_654 : decode cL_law 654 = .ok (.aload_n 1, 1) := by decide +kernel
theorem dL_law_655 : decode cL_law 655 = .ok (.iload 5, 2) := by decide +kernel
theorem dL_law_657 : decode cL_law 657 = .ok (.bipush 6, 2) := by decide +kernel
theorem dL_law_659 : decode cL_law 659 = .ok (.invokevirtual 14, 3) := by decide +kernel
theorem dL_law_662 : decode cL_law 662 = .ok (.aload_n 1, 1) := by decide +kernel
theorem dL_law_663 : decode cL_law 663 = .ok (.iconst 5, 1) := by decide +kernel
theorem dL_law_664 : decode cL_law 664 = .ok (.invokevirtual 8, 3) := by decide +kernel
theorem dL_law_667 : decode cL_law 667 = .ok (.if_icmp .eq 5, 3) := by decide +kernel
theorem dL_law_670 : decode cL_law 670 = .ok (.iconst 0, 1) := by decide +kernel
theorem dL_law_671 : decode cL_law 671 = .ok (.ireturn, 1) := by decide +kernel
theorem dL_law_672 : decode cL_law 672 = .ok (.iinc 5 1, 3) := by decide +kernel
theorem dL_law_675 : decode cL_law 675 = .ok (.goto (-134), 3) := by decide +kernel
theorem dL_law_678 : decode cL_law 678 = .ok (.aload_n 1, 1) := by decide +kernel
theorem dL_law_679 : decode cL_law 679 = .ok (.sipush 10000, 3) := by decide +kernel
theorem dL_law_682 : decode cL_law 682 = .ok (.invokevirtual 98, 3) := by decide +kernel
theorem dL_law_685 : decode cL_law 685 = .ok (.ifCond .lt 39, 3) := by decide +kernel
theorem dL_law_688 : decode cL_law 688 = .ok (.aload_n 1, 1) := by decide +kernel
theorem dL_law_689 : decode cL_law 689 = .ok (.iconst 0, 1) := by decide +kernel
theorem dL_law_690 : decode cL_law 690 = .ok (.invokevirtual 40, 3) := by decide +kernel
theorem dL_law_693 : decode cL_law 693 = .ok (.iconst (-1), 1) := by decide +kernel
theorem dL_law_694 : decode cL_law 694 = .ok (.if_icmp .ne 30, 3) := by decide +kernel
theorem dL_law_697 : decode cL_law 697 = .ok (.aload_n 1, 1) := by decide +kernel
theorem dL_law_698 : decode cL_law 698 = .ok (.iconst 0, 1) := by decide +kernel
theorem dL_law_699 : decode cL_law 699 = .ok (.invokevirtual 34, 3) := by decide +kernel
theorem dL_law_702 : decode cL_law 702 = .ok (.aload_n 1, 1) := by decide +kernel
theorem dL_law_703 : decode cL_law 703 = .ok (.iconst 1, 1) := by decide +kernel
theorem dL_law_704 : decode cL_law 704 = .ok (.invokevirtual 34, 3) := by decide +kernel
theorem dL_law_707 : decode cL_law 707 = .ok (.iadd, 1) := by decide +kernel
theorem dL_law_708 : decode cL_law 708 = .ok (.aload_n 1, 1) := by decide +kernel
theorem dL_law_709 : decode cL_law 709 = .ok (.iconst 2, 1) := by decide +kernel
theorem dL_law_710 : decode cL_law 710 = .ok (.invokevirtual 34, 3) := by decide +kernel
theorem dL_law_713 : decode cL_law 713 = .ok (.iadd, 1) := by decide +kernel
theorem dL_law_714 : decode cL_law 714 = .ok (.ifCond .ne 10, 3) := by decide +kernel
theorem dL_law_717 : decode cL_law 717 = .ok (.aload_n 1, 1) := by decide +kernel
theorem dL_law_718 : decode cL_law 718 = .ok (.invokestatic 134, 3) := by decide +kernel
theorem dL_law_721 : decode cL_law 721 = .ok (.ifCond .ne 5, 3) := by decide +kernel
theorem dL_law_724 : decode cL_law 724 = .ok (.iconst 0, 1) := by decide +kernel
theorem dL_law_725 : decode cL_law 725 = .ok (.ireturn, 1) := by decide +kernel
theorem dL_law_726 : decode cL_law 726 = .ok (.aload_n 1, 1) := by decide +kernel
theorem dL_law_727 : decode cL_law 727 = .ok (.invokevirtual 119, 3) := by decide +kernel
theorem dL_law_730 : decode cL_law 730 = .ok (.lstore 5, 2) := by decide +kernel
theorem dL_law_732 : decode cL_law 732 = .ok (.aload_n 1, 1) := by decide +kernel
theorem dL_law_733 : decode cL_law 733 = .ok (.iconst 3, 1) := by decide +kernel
theorem dL_law_734 : decode cL_law 734 = .ok (.iconst 1, 1) := by decide +kernel
theorem dL_law_735 : decode cL_law 735 = .ok (.invokevirtual 78, 3) := by decide +kernel
theorem dL_law_738 : decode cL_law 738 = .ok (.bipush (-2), 2) := by decide +kernel
theorem dL_law_740 : decode cL_law 740 = .ok (.if_icmp .ne 162, 3) := by decide +kernel
theorem dL_law_743 : decode cL_law 743 = .ok (.aload_n 1, 1) := by decide +kernel
theorem dL_law_744 : decode cL_law 744 = .ok (.iconst 0, 1) := by decide +kernel
theorem dL_law_745 : decode cL_law 745 = .ok (.bipush 21, 2) := by decide +kernel
theorem dL_law_747 : decode cL_law 747 = .ok (.invokevirtual 78, 3) := by decide +kernel
theorem dL_law_750 : decode cL_law 750 = .ok (.bipush (-3), 2) := by decide +kernel
theorem dL_law_752 : decode cL_law 752 = .ok (.if_icmp .ne 150, 3) := by decide +kernel
theorem dL_law_755 : decode cL_law 755 = .ok (.aload_n 1, 1) := by decide +kernel
theorem dL_law_756 : decode cL_law 756 = .ok (.iconst 3, 1) := by decide +kernel
theorem dL_law_757 : decode cL_law 757 = .ok (.invokevirtual 81, 3) := by decide +kernel
theorem dL_law_760 : decode cL_law 760 = .ok (.bipush (-2), 2) := by decide +kernel
theorem dL_law_762 : decode cL_law 762 = .ok (.if_icmp .ne 140, 3) := by decide +kernel
theorem dL_law_765 : decode cL_law 765 = .ok (.aload_n 1, 1) := by decide +kernel
theorem dL_law_766 : decode cL_law 766 = .ok (.iconst 0, 1) := by decide +kernel
theorem dL_law_767 : decode cL_law 767 = .ok (.iconst 3, 1) := by decide +kernel
theorem dL_law_768 : decode cL_law 768 = .ok (.iconst 1, 1) := by decide +kernel
theorem dL_law_769 : decode cL_law 769 = .ok (.iconst 0, 1) := by decide +kernel
theorem dL_law_770 : decode cL_law 770 = .ok (.iconst 0, 1) := by decide +kernel
theorem dL_law_771 : decode cL_law 771 = .ok (.invokevirtual 84, 3) := by decide +kernel
theorem dL_law_774 : decode cL_law 774 = .ok (.bipush (-3), 2) := by decide +kernel
theorem dL_law_776 : decode cL_law 776 = .ok (.if_icmp .ne 126, 3) := by decide +kernel
theorem dL_law_779 : decode cL_law 779 = .ok (.aload_n 1, 1) := by decide +kernel
theorem dL_law_780 : decode cL_law 780 = .ok (.bipush 25, 2) := by decide +kernel
theorem dL_law_782 : decode cL_law 782 = .ok (.iconst 1, 1) := by decide +kernel
theorem dL_law_783 : decode cL_law 783 = .ok (.iconst 1, 1) := by decide +kernel
theorem dL_law_784 : decode cL_law 784 = .ok (.invokevirtual 91, 3) := by decide +kernel
theorem dL_law_787 : decode cL_law 787 = .ok (.bipush (-3), 2) := by decide +kernel
theorem dL_law_789 : decode cL_law 789 = .ok (.if_icmp .ne 113, 3) := by decide +kernel
theorem dL_law_792 : decode cL_law 792 = .ok (.aload_n 1, 1) := by decide +kernel
theorem dL_law_793 : decode cL_law 793 = .ok (.iconst 0, 1) := by decide +kernel
theorem dL_law_794 : decode cL_law 794 = .ok (.sipush 301, 3) := by decide +kernel
theorem dL_law_797 : decode cL_law 797 = .ok (.iconst 0, 1) := by decide +kernel
theorem dL_law_798 : decode cL_law 798 = .ok (.iconst 0, 1) := by decide +kernel
theorem dL_law_799 : decode cL_law 799 = .ok (.invokevirtual 104, 3) := by decide +kernel
theorem dL_law_802 : decode cL_law 802 = .ok (.bipush (-3), 2) := by decide +kernel
theorem dL_law_804 : decode cL_law 804 = .ok (.if_icmp .ne 98, 3) := by decide +kernel
theorem dL_law_807 : decode cL_law 807 = .ok (.aload_n 1, 1) := by decide +kernel
theorem dL_law_808 : decode cL_law 808 = .ok (.bipush 101, 2) := by decide +kernel
theorem dL_law_810 : decode cL_law 810 = .ok (.invokevirtual 101, 3) := by decide +kernel
theorem dL_law_813 : decode cL_law 813 = .ok (.bipush (-3), 2) := by decide +kernel
theorem dL_law_815 : decode cL_law 815 = .ok (.if_icmp .ne 87, 3) := by decide +kernel
theorem dL_law_818 : decode cL_law 818 = .ok (.aload_n 1, 1) := by decide +kernel
theorem dL_law_819 : decode cL_law 819 = .ok (.sipush 10001, 3) := by decide +kernel
theorem dL_law_822 : decode cL_law 822 = .ok (.invokevirtual 98, 3) := by decide +kernel
theorem dL_law_825 : decode cL_law 825 = .ok (.bipush (-3), 2) := by decide +kernel
theorem dL_law_827 : decode cL_law 827 = .ok (.if_icmp .ne 75, 3) := by decide +kernel
theorem dL_law_830 : decode cL_law 830 = .ok (.aload_n 1, 1) := by decide +kernel
theorem dL_law_831 : decode cL_law 831 = .ok (.iconst (-1), 1) := by decide +kernel
theorem dL_law_832 : decode cL_law 832 = .ok (.invokevirtual 56, 3) := by decide +kernel
theorem dL_law_835 : decode cL_law 835 = .ok (.bipush (-3), 2) := by decide +kernel
theorem dL_law_837 : decode cL_law 837 = .ok (.if_icmp .ne 65, 3) := by decide +kernel
theorem dL_law_840 : decode cL_law 840 = .ok (.aload_n 1, 1) := by decide +kernel
theorem dL_law_841 : decode cL_law 841 = .ok (.iconst 0, 1) := by decide +kernel
theorem dL_law_842 : decode cL_law 842 = .ok (.bipush 8, 2) := by decide +kernel
theorem dL_law_844 : decode cL_law 844 = .ok (.invokevirtual 14, 3) := by decide +kernel
theorem dL_law_847 : decode cL_law 847 = .ok (.bipush (-3), 2) := by decide +kernel
theorem dL_law_849 : decode cL_law 849 = .ok (.if_icmp .ne 53, 3) := by decide +kernel
theorem dL_law_852 : decode cL_law 852 = .ok (.aload_n 1, 1) := by decide +kernel
theorem dL_law_853 : decode cL_law 853 = .ok (.bipush 16, 2) := by decide +kernel
theorem dL_law_855 : decode cL_law 855 = .ok (.invokevirtual 27, 3) := by decide +kernel
theorem dL_law_858 : decode cL_law 858 = .ok (.ldc2_w 140, 3) := by decide +kernel
theorem dL_law_861 : decode cL_law 861 = .ok (.lcmp, 1) := by decide +kernel
theorem dL_law_862 : decode cL_law 862 = .ok (.ifCond .ne 40, 3) := by decide +kernel
theorem dL_law_865 : decode cL_law 865 = .ok (.aload_n 1, 1) := by decide +kernel
theorem dL_law_866 : decode cL_law 866 = .ok (.iconst (-1), 1) := by decide +kernel
theorem dL_law_867 : decode cL_law 867 = .ok (.invokevirtual 43, 3) := by decide +kernel
theorem dL_law_870 : decode cL_law 870 = .ok (.ldc2_w 140, 3) := by decide +kernel
theorem dL_law_873 : decode cL_law 873 = .ok (.lcmp, 1) := by decide +kernel
theorem dL_law_874 : decode cL_law 874 = .ok (.ifCond .ne 28, 3) := by decide +kernel
theorem dL_law_877 : decode cL_law 877 = .ok (.aload_n 1, 1) := by decide +kernel
theorem dL_law_878 : decode cL_law 878 = .ok (.bipush 6, 2) := by decide +kernel
theorem dL_law_880 : decode cL_law 880 = .ok (.invokevirtual 37, 3) := by decide +kernel
theorem dL_law_883 : decode cL_law 883 = .ok (.bipush (-3), 2) := by decide +kernel
theorem dL_law_885 : decode cL_law 885 = .ok (.if_icmp .ne 17, 3) := by decide +kernel
theorem dL_law_888 : decode cL_law 888 = .ok (.aload_n 1, 1) := by decide +kernel
theorem dL_law_889 : decode cL_law 889 = .ok (.invokevirtual 119, 3) := by decide +kernel
theorem dL_law_892 : decode cL_law 892 = .ok (.lload 5, 2) := by decide +kernel
theorem dL_law_894 : decode cL_law 894 = .ok (.lcmp, 1) := by decide +kernel
theorem dL_law_895 : decode cL_law 895 = .ok (.ifCond .ne 7, 3) := by decide +kernel
theorem dL_law_898 : decode cL_law 898 = .ok (.iconst 1, 1) := by decide +kernel
theorem dL_law_899 : decode cL_law 899 = .ok (.goto 4, 3) := by decide +kernel
theorem dL_law_902 : decode cL_law 902 = .ok (.iconst 0, 1) := by decide +kernel
theorem dL_law_903 : decode cL_law 903 = .ok (.ireturn, 1) := by decide +kernel
