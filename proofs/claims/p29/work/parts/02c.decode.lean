-- decode rows, printed by the check's program
theorem dL_cell_0 : decode cL_cell 0 = .ok (.aload_n 0, 1) := by decide +kernel
theorem dL_cell_1 : decode cL_cell 1 = .ok (.arraylength, 1) := by decide +kernel
theorem dL_cell_2 : decode cL_cell 2 = .ok (.ifCond .ne 12, 3) := by decide +kernel
theorem dL_cell_5 : decode cL_cell 5 = .ok (.iload_n 1, 1) := by decide +kernel
theorem dL_cell_6 : decode cL_cell 6 = .ok (.bipush 37, 2) := by decide +kernel
theorem dL_cell_8 : decode cL_cell 8 = .ok (.imul, 1) := by decide +kernel
theorem dL_cell_9 : decode cL_cell 9 = .ok (.iconst 5, 1) := by decide +kernel
theorem dL_cell_10 : decode cL_cell 10 = .ok (.iadd, 1) := by decide +kernel
theorem dL_cell_11 : decode cL_cell 11 = .ok (.goto 17, 3) := by decide +kernel
theorem dL_cell_14 : decode cL_cell 14 = .ok (.aload_n 0, 1) := by decide +kernel
theorem dL_cell_15 : decode cL_cell 15 = .ok (.iload_n 1, 1) := by decide +kernel
theorem dL_cell_16 : decode cL_cell 16 = .ok (.aload_n 0, 1) := by decide +kernel
theorem dL_cell_17 : decode cL_cell 17 = .ok (.arraylength, 1) := by decide +kernel
theorem dL_cell_18 : decode cL_cell 18 = .ok (.irem, 1) := by decide +kernel
theorem dL_cell_19 : decode cL_cell 19 = .ok (.iaload, 1) := by decide +kernel
theorem dL_cell_20 : decode cL_cell 20 = .ok (.iload_n 1, 1) := by decide +kernel
theorem dL_cell_21 : decode cL_cell 21 = .ok (.bipush 7, 2) := by decide +kernel
theorem dL_cell_23 : decode cL_cell 23 = .ok (.irem, 1) := by decide +kernel
theorem dL_cell_24 : decode cL_cell 24 = .ok (.ishr, 1) := by decide +kernel
theorem dL_cell_25 : decode cL_cell 25 = .ok (.ldc 7, 2) := by decide +kernel
theorem dL_cell_27 : decode cL_cell 27 = .ok (.iand, 1) := by decide +kernel
theorem dL_cell_28 : decode cL_cell 28 = .ok (.iload_n 2, 1) := by decide +kernel
theorem dL_cell_29 : decode cL_cell 29 = .ok (.irem, 1) := by decide +kernel
theorem dL_cell_30 : decode cL_cell 30 = .ok (.ireturn, 1) := by decide +kernel
theorem dL_has_0 : decode cL_has 0 = .ok (.iload_n 0, 1) := by decide +kernel
theorem dL_has_1 : decode cL_has 1 = .ok (.iload_n 1, 1) := by decide +kernel
theorem dL_has_2 : decode cL_has 2 = .ok (.ishr, 1) := by decide +kernel
theorem dL_has_3 : decode cL_has 3 = .ok (.iconst 1, 1) := by decide +kernel
theorem dL_has_4 : decode cL_has 4 = .ok (.iand, 1) := by decide +kernel
theorem dL_has_5 : decode cL_has 5 = .ok (.iconst 1, 1) := by decide +kernel
theorem dL_has_6 : decode cL_has 6 = .ok (.if_icmp .ne 7, 3) := by decide +kernel
theorem dL_has_9 : decode cL_has 9 = .ok (.iconst 1, 1) := by decide +kernel
theorem dL_has_10 : decode cL_has 10 = .ok (.goto 4, 3) := by decide +kernel
theorem dL_has_13 : decode cL_has 13 = .ok (.iconst 0, 1) := by decide +kernel
theorem dL_has_14 : decode cL_has 14 = .ok (.ireturn, 1) := by decide +kernel
theorem dL_present_0 : decode cL_present 0 = .ok (.aload_n 0, 1) := by decide +kernel
theorem dL_present_1 : decode cL_present 1 = .ok (.iload_n 1, 1) := by decide +kernel
theorem dL_present_2 : decode cL_present 2 = .ok (.iconst 0, 1) := by decide +kernel
theorem dL_present_3 : decode cL_present 3 = .ok (.invokevirtual 8, 3) := by decide +kernel
theorem dL_present_6 : decode cL_present 6 = .ok (.istore 4, 2) := by decide +kernel
theorem dL_present_8 : decode cL_present 8 = .ok (.iload_n 2, 1) := by decide +kernel
theorem dL_present_9 : decode cL_present 9 = .ok (.ifCond .eq 23, 3) := by decide +kernel
theorem dL_present_12 : decode cL_present 12 = .ok (.aload_n 0, 1) := by decide +kernel
theorem dL_present_13 : decode cL_present 13 = .ok (.bipush 12, 2) := by decide +kernel
theorem dL_present_15 : decode cL_present 15 = .ok (.invokevirtual 14, 3) := by decide +kernel
theorem dL_present_18 : decode cL_present 18 = .ok (.ifCond .eq 14, 3) := by decide +kernel
theorem dL_present_21 : decode cL_present 21 = .ok (.iload 4, 2) := by decide +kernel
theorem dL_present_23 : decode cL_present 23 = .ok (.aload_n 0, 1) := by decide +kernel
theorem dL_present_24 : decode cL_present 24 = .ok (.bipush 13, 2) := by decide +kernel
theorem dL_present_26 : decode cL_present 26 = .ok (.invokevirtual 14, 3) := by decide +kernel
theorem dL_present_29 : decode cL_present 29 = .ok (.if_icmp .lt 6, 3) := by decide +kernel
theorem dL_present_32 : decode cL_present 32 = .ok (.iload 4, 2) := by decide +kernel
theorem dL_present_34 : decode cL_present 34 = .ok (.ireturn, 1) := by decide +kernel
theorem dL_present_35 : decode cL_present 35 = .ok (.iload 4, 2) := by decide +kernel
theorem dL_present_37 : decode cL_present 37 = .ok (.iload_n 3, 1) := by decide +kernel
theorem dL_present_38 : decode cL_present 38 = .ok (.aload_n 0, 1) := by decide +kernel
theorem dL_present_39 : decode cL_present 39 = .ok (.bipush 12, 2) := by decide +kernel
theorem dL_present_41 : decode cL_present 41 = .ok (.invokevirtual 14, 3) := by decide +kernel
theorem dL_present_44 : decode cL_present 44 = .ok (.idiv, 1) := by decide +kernel
theorem dL_present_45 : decode cL_present 45 = .ok (.iadd, 1) := by decide +kernel
theorem dL_present_46 : decode cL_present 46 = .ok (.istore 5, 2) := by decide +kernel
theorem dL_present_48 : decode cL_present 48 = .ok (.iload 5, 2) := by decide +kernel
theorem dL_present_50 : decode cL_present 50 = .ok (.aload_n 0, 1) := by decide +kernel
theorem dL_present_51 : decode cL_present 51 = .ok (.bipush 13, 2) := by decide +kernel
theorem dL_present_53 : decode cL_present 53 = .ok (.invokevirtual 14, 3) := by decide +kernel
theorem dL_present_56 : decode cL_present 56 = .ok (.if_icmp .ge 8, 3) := by decide +kernel
theorem dL_present_59 : decode cL_present 59 = .ok (.iload 5, 2) := by decide +kernel
theorem dL_present_61 : decode cL_present 61 = .ok (.goto 9, 3) := by decide +kernel
theorem dL_present_64 : decode cL_present 64 = .ok (.aload_n 0, 1) := by decide +kernel
theorem dL_present_65 : decode cL_present 65 = .ok (.bipush 13, 2) := by decide +kernel
theorem dL_present_67 : decode cL_present 67 = .ok (.invokevirtual 14, 3) := by decide +kernel
theorem dL_present_70 : decode cL_present 70 = .ok (.ireturn, 1) := by decide +kernel
theorem dL_agree_0 : decode cL_agree 0 = .ok (.iconst 0, 1) := by decide +kernel
theorem dL_agree_1 : decode cL_agree 1 = .ok (.istore_n 1, 1) := by decide +kernel
theorem dL_agree_2 : decode cL_agree 2 = .ok (.iconst 0, 1) := by decide +kernel
theorem dL_agree_3 : decode cL_agree 3 = .ok (.istore_n 2, 1) := by decide +kernel
theorem dL_agree_4 : decode cL_agree 4 = .ok (.bipush (-6), 2) := by decide +kernel
theorem dL_agree_6 : decode cL_agree 6 = .ok (.istore_n 3, 1) := by decide +kernel
theorem dL_agree_7 : decode cL_agree 7 = .ok (.iconst 0, 1) := by decide +kernel
theorem dL_agree_8 : decode cL_agree 8 = .ok (.istore 4, 2) := by decide +kernel
theorem dL_agree_10 : decode cL_agree 10 = .ok (.iload 4, 2) := by decide +kernel
theorem dL_agree_12 : decode cL_agree 12 = .ok (.aload_n 0, 1) := by decide +kernel
theorem dL_agree_13 : decode cL_agree 13 = .ok (.iconst 1, 1) := by decide +kernel
theorem dL_agree_14 : decode cL_agree 14 = .ok (.invokevirtual 14, 3) := by decide +kernel
theorem dL_agree_17 : decode cL_agree 17 = .ok (.if_icmp .ge 369, 3) := by decide +kernel
theorem dL_agree_20 : decode cL_agree 20 = .ok (.aload_n 0, 1) := by decide +kernel
theorem dL_agree_21 : decode cL_agree 21 = .ok (.iload 4, 2) := by decide +kernel
theorem dL_agree_23 : decode cL_agree 23 = .ok (.iconst 5, 1) := by decide +kernel
theorem dL_agree_24 : decode cL_agree 24 = .ok (.invokevirtual 8, 3) := by decide +kernel
theorem dL_agree_27 : decode cL_agree 27 = .ok (.istore 5, 2) := by decide +kernel
theorem dL_agree_29 : decode cL_agree 29 = .ok (.aload_n 0, 1) := by decide +kernel
theorem dL_agree_30 : decode cL_agree 30 = .ok (.iload 4, 2) := by decide +kernel
theorem dL_agree_32 : decode cL_agree 32 = .ok (.bipush 8, 2) := by decide +kernel
theorem dL_agree_34 : decode cL_agree 34 = .ok (.invokevirtual 8, 3) := by decide +kernel
theorem dL_agree_37 : decode cL_agree 37 = .ok (.istore 6, 2) := by decide +kernel
theorem dL_agree_39 : decode cL_agree 39 = .ok (.aload_n 0, 1) := by decide +kernel
theorem dL_agree_40 : decode cL_agree 40 = .ok (.iload 4, 2) := by decide +kernel
theorem dL_agree_42 : decode cL_agree 42 = .ok (.bipush 6, 2) := by decide +kernel
theorem dL_agree_44 : decode cL_agree 44 = .ok (.invokevirtual 8, 3) := by decide +kernel
theorem dL_agree_47 : decode cL_agree 47 = .ok (.istore 7, 2) := by decide +kernel
theorem dL_agree_49 : decode cL_agree 49 = .ok (.iload_n 1, 1) := by decide +kernel
theorem dL_agree_50 : decode cL_agree 50 = .ok (.iload 5, 2) := by decide +kernel
theorem dL_agree_52 : decode cL_agree 52 = .ok (.iload 4, 2) := by decide +kernel
theorem dL_agree_54 : decode cL_agree 54 = .ok (.ishl, 1) := by decide +kernel
theorem dL_agree_55 : decode cL_agree 55 = .ok (.ior, 1) := by decide +kernel
theorem dL_agree_56 : decode cL_agree 56 = .ok (.istore_n 1, 1) := by decide +kernel
theorem dL_agree_57 : decode cL_agree 57 = .ok (.iload_n 2, 1) := by decide +kernel
theorem dL_agree_58 : decode cL_agree 58 = .ok (.aload_n 0, 1) := by decide +kernel
theorem dL_agree_59 : decode cL_agree 59 = .ok (.iload 4, 2) := by decide +kernel
theorem dL_agree_61 : decode cL_agree 61 = .ok (.bipush 16, 2) := by decide +kernel
theorem dL_agree_63 : decode cL_agree 63 = .ok (.invokevirtual 8, 3) := by decide +kernel
theorem dL_agree_66 : decode cL_agree 66 = .ok (.iadd, 1) := by decide +kernel
theorem dL_agree_67 : decode cL_agree 67 = .ok (.istore_n 2, 1) := by decide +kernel
theorem dL_agree_68 : decode cL_agree 68 = .ok (.iload 5, 2) := by decide +kernel
theorem dL_agree_70 : decode cL_agree 70 = .ok (.iconst 1, 1) := by decide +kernel
theorem dL_agree_71 : decode cL_agree 71 = .ok (.if_icmp .ne 11, 3) := by decide +kernel
theorem dL_agree_74 : decode cL_agree 74 = .ok (.iload 7, 2) := by decide +kernel
theorem dL_agree_76 : decode cL_agree 76 = .ok (.ifCond .ge 15, 3) := by decide +kernel
theorem dL_agree_79 : decode cL_agree 79 = .ok (.goto 10, 3) := by decide +kernel
theorem dL_agree_82 : decode cL_agree 82 = .ok (.iload 7, 2) := by decide +kernel
theorem dL_agree_84 : decode cL_agree 84 = .ok (.bipush (-6), 2) := by decide +kernel
theorem dL_agree_86 : decode cL_agree 86 = .ok (.if_icmp .eq 5, 3) := by decide +kernel
theorem dL_agree_89 : decode cL_agree 89 = .ok (.iconst 0, 1) := by decide +kernel
theorem dL_agree_90 : decode cL_agree 90 = .ok (.ireturn, 1) := by decide +kernel
theorem dL_agree_91 : decode cL_agree 91 = .ok (.aload_n 0, 1) := by decide +kernel
theorem dL_agree_92 : decode cL_agree 92 = .ok (.iload 4, 2) := by decide +kernel
theorem dL_agree_94 : decode cL_agree 94 = .ok (.bipush 7, 2) := by decide +kernel
theorem dL_agree_96 : decode cL_agree 96 = .ok (.invokevirtual 8, 3) := by decide +kernel
theorem dL_agree_99 : decode cL_agree 99 = .ok (.aload_n 0, 1) := by decide +kernel
theorem dL_agree_100 : decode cL_agree 100 = .ok (.iload 4, 2) := by decide +kernel
theorem dL_agree_102 : decode cL_agree 102 = .ok (.iload 5, 2) := by decide +kernel
theorem dL_agree_104 : decode cL_agree 104 = .ok (.iload 7, 2) := by decide +kernel
theorem dL_agree_106 : decode cL_agree 106 = .ok (.invokestatic 18, 3) := by decide +kernel
theorem dL_agree_109 : decode cL_agree 109 = .ok (.if_icmp .ne 61, 3) := by decide +kernel
theorem dL_agree_112 : decode cL_agree 112 = .ok (.aload_n 0, 1) := by decide +kernel
theorem dL_agree_113 : decode cL_agree 113 = .ok (.iload 4, 2) := by decide +kernel
theorem dL_agree_115 : decode cL_agree 115 = .ok (.iconst 3, 1) := by decide +kernel
theorem dL_agree_116 : decode cL_agree 116 = .ok (.invokevirtual 8, 3) := by decide +kernel
theorem dL_agree_119 : decode cL_agree 119 = .ok (.iconst 1, 1) := by decide +kernel
theorem dL_agree_120 : decode cL_agree 120 = .ok (.if_icmp .ne 29, 3) := by decide +kernel
theorem dL_agree_123 : decode cL_agree 123 = .ok (.iload 5, 2) := by decide +kernel
theorem dL_agree_125 : decode cL_agree 125 = .ok (.aload_n 0, 1) := by decide +kernel
theorem dL_agree_126 : decode cL_agree 126 = .ok (.iload 4, 2) := by decide +kernel
theorem dL_agree_128 : decode cL_agree 128 = .ok (.bipush 9, 2) := by decide +kernel
theorem dL_agree_130 : decode cL_agree 130 = .ok (.invokevirtual 8, 3) := by decide +kernel
theorem dL_agree_133 : decode cL_agree 133 = .ok (.ifCond .eq 12, 3) := by decide +kernel
theorem dL_agree_136 : decode cL_agree 136 = .ok (.iload 6, 2) := by decide +kernel
theorem dL_agree_138 : decode cL_agree 138 = .ok (.ifCond .ge 7, 3) := by decide +kernel
theorem dL_agree_141 : decode cL_agree 141 = .ok (.iconst 1, 1) := by decide +kernel
theorem dL_agree_142 : decode cL_agree 142 = .ok (.goto 4, 3) := by decide +kernel
theorem dL_agree_145 : decode cL_agree 145 = .ok (.iconst 0, 1) := by decide +kernel
theorem dL_agree_146 : decode cL_agree 146 = .ok (.if_icmp .ne 24, 3) := by decide +kernel
theorem dL_agree_149 : decode cL_agree 149 = .ok (.aload_n 0, 1) := by decide +kernel
theorem dL_agree_150 : decode cL_agree 150 = .ok (.iload 4, 2) := by decide +kernel
theorem dL_agree_152 : decode cL_agree 152 = .ok (.iconst 3, 1) := by decide +kernel
theorem dL_agree_153 : decode cL_agree 153 = .ok (.invokevirtual 8, 3) := by decide +kernel
theorem dL_agree_156 : decode cL_agree 156 = .ok (.ifCond .ne 16, 3) := by decide +kernel
theorem dL_agree_159 : decode cL_agree 159 = .ok (.aload_n 0, 1) := by decide +kernel
theorem dL_agree_160 : decode cL_agree 160 = .ok (.iload 4, 2) := by decide +kernel
theorem dL_agree_162 : decode cL_agree 162 = .ok (.bipush 9, 2) := by decide +kernel
theorem dL_agree_164 : decode cL_agree 164 = .ok (.invokevirtual 8, 3) := by decide +kernel
theorem dL_agree_167 : decode cL_agree 167 = .ok (.ifCond .eq 5, 3) := by decide +kernel
theorem dL_agree_170 : decode cL_agree 170 = .ok (.iconst 0, 1) := by decide +kernel
theorem dL_agree_171 : decode cL_agree 171 = .ok (.ireturn, 1) := by decide +kernel
theorem dL_agree_172 : decode cL_agree 172 = .ok (.iload 6, 2) := by decide +kernel
theorem dL_agree_174 : decode cL_agree 174 = .ok (.ifCond .lt 15, 3) := by decide +kernel
theorem dL_agree_177 : decode cL_agree 177 = .ok (.aload_n 0, 1) := by decide +kernel
theorem dL_agree_178 : decode cL_agree 178 = .ok (.iload 6, 2) := by decide +kernel
theorem dL_agree_180 : decode cL_agree 180 = .ok (.iconst 0, 1) := by decide +kernel
theorem dL_agree_181 : decode cL_agree 181 = .ok (.invokevirtual 24, 3) := by decide +kernel
theorem dL_agree_184 : decode cL_agree 184 = .ok (.iload 4, 2) := by decide +kernel
theorem dL_agree_186 : decode cL_agree 186 = .ok (.if_icmp .ne 71, 3) := by decide +kernel
theorem dL_agree_189 : decode cL_agree 189 = .ok (.aload_n 0, 1) := by decide +kernel
theorem dL_agree_190 : decode cL_agree 190 = .ok (.iload 4, 2) := by decide +kernel
theorem dL_agree_192 : decode cL_agree 192 = .ok (.bipush 12, 2) := by decide +kernel
theorem dL_agree_194 : decode cL_agree 194 = .ok (.invokevirtual 8, 3) := by decide +kernel
theorem dL_agree_197 : decode cL_agree 197 = .ok (.aload_n 0, 1) := by decide +kernel
theorem dL_agree_198 : decode cL_agree 198 = .ok (.iload 4, 2) := by decide +kernel
theorem dL_agree_200 : decode cL_agree 200 = .ok (.bipush 13, 2) := by decide +kernel
theorem dL_agree_202 : decode cL_agree 202 = .ok (.invokevirtual 8, 3) := by decide +kernel
theorem dL_agree_205 : decode cL_agree 205 = .ok (.isub, 1) := by decide +kernel
theorem dL_agree_206 : decode cL_agree 206 = .ok (.iload 6, 2) := by decide +kernel
theorem dL_agree_208 : decode cL_agree 208 = .ok (.ifCond .ge 7, 3) := by decide +kernel
theorem dL_agree_211 : decode cL_agree 211 = .ok (.iconst 0, 1) := by decide +kernel
theorem dL_agree_212 : decode cL_agree 212 = .ok (.goto 4, 3) := by decide +kernel
theorem dL_agree_215 : decode cL_agree 215 = .ok (.iconst 1, 1) := by decide +kernel
theorem dL_agree_216 : decode cL_agree 216 = .ok (.if_icmp .ne 41, 3) := by decide +kernel
theorem dL_agree_219 : decode cL_agree 219 = .ok (.aload_n 0, 1) := by decide +kernel
theorem dL_agree_220 : decode cL_agree 220 = .ok (.iload 4, 2) := by decide +kernel
theorem dL_agree_222 : decode cL_agree 222 = .ok (.bipush 14, 2) := by decide +kernel
theorem dL_agree_224 : decode cL_agree 224 = .ok (.invokevirtual 8, 3) := by decide +kernel
theorem dL_agree_227 : decode cL_agree 227 = .ok (.aload_n 0, 1) := by decide +kernel
theorem dL_agree_228 : decode cL_agree 228 = .ok (.iload 4, 2) := by decide +kernel
theorem dL_agree_230 : decode cL_agree 230 = .ok (.bipush 15, 2) := by decide +kernel
theorem dL_agree_232 : decode cL_agree 232 = .ok (.invokevirtual 8, 3) := by decide +kernel
theorem dL_agree_235 : decode cL_agree 235 = .ok (.if_icmp .gt 22, 3) := by decide +kernel
theorem dL_agree_238 : decode cL_agree 238 = .ok (.aload_n 0, 1) := by decide +kernel
theorem dL_agree_239 : decode cL_agree 239 = .ok (.iload 4, 2) := by decide +kernel
theorem dL_agree_241 : decode cL_agree 241 = .ok (.bipush 11, 2) := by decide +kernel
theorem dL_agree_243 : decode cL_agree 243 = .ok (.invokevirtual 8, 3) := by decide +kernel
theorem dL_agree_246 : decode cL_agree 246 = .ok (.aload_n 0, 1) := by decide +kernel
theorem dL_agree_247 : decode cL_agree 247 = .ok (.iload 4, 2) := by decide +kernel
theorem dL_agree_249 : decode cL_agree 249 = .ok (.bipush 10, 2) := by decide +kernel
theorem dL_agree_251 : decode cL_agree 251 = .ok (.invokevirtual 8, 3) := by decide +kernel
theorem dL_agree_254 : decode cL_agree 254 = .ok (.if_icmp .le 5, 3) := by decide +kernel
theorem dL_agree_257 : decode cL_agree 257 = .ok (.iconst 0, 1) := by decide +kernel
theorem dL_agree_258 : decode cL_agree 258 = .ok (.ireturn, 1) := by decide +kernel
theorem dL_agree_259 : decode cL_agree 259 = .ok (.iload 5, 2) := by decide +kernel
theorem dL_agree_261 : decode cL_agree 261 = .ok (.iconst 1, 1) := by decide +kernel
theorem dL_agree_262 : decode cL_agree 262 = .ok (.if_icmp .ne 39, 3) := by decide +kernel
theorem dL_agree_265 : decode cL_agree 265 = .ok (.iload 6, 2) := by decide +kernel
theorem dL_agree_267 : decode cL_agree 267 = .ok (.ifCond .ge 34, 3) := by decide +kernel
theorem dL_agree_270 : decode cL_agree 270 = .ok (.aload_n 0, 1) := by decide +kernel
theorem dL_agree_271 : decode cL_agree 271 = .ok (.iload 4, 2) := by decide +kernel
theorem dL_agree_273 : decode cL_agree 273 = .ok (.iconst 4, 1) := by decide +kernel
theorem dL_agree_274 : decode cL_agree 274 = .ok (.invokevirtual 8, 3) := by decide +kernel
theorem dL_agree_277 : decode cL_agree 277 = .ok (.ifCond .ne 24, 3) := by decide +kernel
theorem dL_agree_280 : decode cL_agree 280 = .ok (.aload_n 0, 1) := by decide +kernel
theorem dL_agree_281 : decode cL_agree 281 = .ok (.iload 4, 2) := by decide +kernel
theorem dL_agree_283 : decode cL_agree 283 = .ok (.bipush 7, 2) := by decide +kernel
theorem dL_agree_285 : decode cL_agree 285 = .ok (.invokevirtual 8, 3) := by decide +kernel
theorem dL_agree_288 : decode cL_agree 288 = .ok (.aload_n 0, 1) := by decide +kernel
theorem dL_agree_289 : decode cL_agree 289 = .ok (.bipush 18, 2) := by decide +kernel
theorem dL_agree_291 : decode cL_agree 291 = .ok (.invokevirtual 14, 3) := by decide +kernel
theorem dL_agree_294 : decode cL_agree 294 = .ok (.if_icmp .lt 7, 3) := by decide +kernel
theorem dL_agree_297 : decode cL_agree 297 = .ok (.iconst 1, 1) := by decide +kernel
theorem dL_agree_298 : decode cL_agree 298 = .ok (.goto 4, 3) := by decide +kernel
theorem dL_agree_301 : decode cL_agree 301 = .ok (.iconst 0, 1) := by decide +kernel
theorem dL_agree_302 : decode cL_agree 302 = .ok (.istore 8, 2) := by decide +kernel
theorem dL_agree_304 : decode cL_agree 304 = .ok (.iload_n 3, 1) := by decide +kernel
theorem dL_agree_305 : decode cL_agree 305 = .ok (.ifCond .lt 51, 3) := by decide +kernel
theorem dL_agree_308 : decode cL_agree 308 = .ok (.aload_n 0, 1) := by decide +kernel
theorem dL_agree_309 : decode cL_agree 309 = .ok (.iload 4, 2) := by decide +kernel
theorem dL_agree_311 : decode cL_agree 311 = .ok (.bipush 7, 2) := by decide +kernel
theorem dL_agree_313 : decode cL_agree 313 = .ok (.invokevirtual 8, 3) := by decide +kernel
theorem dL_agree_316 : decode cL_agree 316 = .ok (.aload_n 0, 1) := by decide +kernel
theorem dL_agree_317 : decode cL_agree 317 = .ok (.iload_n 3, 1) := by decide +kernel
theorem dL_agree_318 : decode cL_agree 318 = .ok (.bipush 7, 2) := by decide +kernel
theorem dL_agree_320 : decode cL_agree 320 = .ok (.invokevirtual 8, 3) := by decide +kernel
theorem dL_agree_323 : decode cL_agree 323 = .ok (.if_icmp .gt 33, 3) := by decide +kernel
theorem dL_agree_326 : decode cL_agree 326 = .ok (.aload_n 0, 1) := by decide +kernel
theorem dL_agree_327 : decode cL_agree 327 = .ok (.iload 4, 2) := by decide +kernel
theorem dL_agree_329 : decode cL_agree 329 = .ok (.bipush 7, 2) := by decide +kernel
theorem dL_agree_331 : decode cL_agree 331 = .ok (.invokevirtual 8, 3) := by decide +kernel
theorem dL_agree_334 : decode cL_agree 334 = .ok (.aload_n 0, 1) := by decide +kernel
theorem dL_agree_335 : decode cL_agree 335 = .ok (.iload_n 3, 1) := by decide +kernel
theorem dL_agree_336 : decode cL_agree 336 = .ok (.bipush 7, 2) := by decide +kernel
theorem dL_agree_338 : decode cL_agree 338 = .ok (.invokevirtual 8, 3) := by decide +kernel
theorem dL_agree_341 : decode cL_agree 341 = .ok (.if_icmp .ne 19, 3) := by decide +kernel
theorem dL_agree_344 : decode cL_agree 344 = .ok (.iload 7, 2) := by decide +kernel
theorem dL_agree_346 : decode cL_agree 346 = .ok (.aload_n 0, 1) := by decide +kernel
theorem dL_agree_347 : decode cL_agree 347 = .ok (.iload_n 3, 1) := by decide +kernel
theorem dL_agree_348 : decode cL_agree 348 = .ok (.bipush 6, 2) := by decide +kernel
theorem dL_agree_350 : decode cL_agree 350 = .ok (.invokevirtual 8, 3) := by decide +kernel
theorem dL_agree_353 : decode cL_agree 353 = .ok (.if_icmp .le 7, 3) := by decide +kernel
theorem dL_agree_356 : decode cL_agree 356 = .ok (.iconst 1, 1) := by decide +kernel
theorem dL_agree_357 : decode cL_agree 357 = .ok (.goto 4, 3) := by decide +kernel
theorem dL_agree_360 : decode cL_agree 360 = .ok (.iconst 0, 1) := by decide +kernel
theorem dL_agree_361 : decode cL_agree 361 = .ok (.istore 9, 2) := by decide +kernel
theorem dL_agree_363 : decode cL_agree 363 = .ok (.iload 8, 2) := by decide +kernel
theorem dL_agree_365 : decode cL_agree 365 = .ok (.ifCond .eq 13, 3) := by decide +kernel
theorem dL_agree_368 : decode cL_agree 368 = .ok (.iload 9, 2) := by decide +kernel
theorem dL_agree_370 : decode cL_agree 370 = .ok (.ifCond .eq 8, 3) := by decide +kernel
theorem dL_agree_373 : decode cL_agree 373 = .ok (.iload 4, 2) := by decide +kernel
theorem dL_agree_375 : decode cL_agree 375 = .ok (.goto 4, 3) := by decide +kernel
theorem dL_agree_378 : decode cL_agree 378 = .ok (.iload_n 3, 1) := by decide +kernel
theorem dL_agree_379 : decode cL_agree 379 = .ok (.istore_n 3, 1) := by decide +kernel
theorem dL_agree_380 : decode cL_agree 380 = .ok (.iinc 4 1, 3) := by decide +kernel
theorem dL_agree_383 : decode cL_agree 383 = .ok (.goto (-373), 3) := by decide +kernel
theorem dL_agree_386 : decode cL_agree 386 = .ok (.iconst (-1), 1) := by decide +kernel
theorem dL_agree_387 : decode cL_agree 387 = .ok (.istore 4, 2) := by decide +kernel
theorem dL_agree_389 : decode cL_agree 389 = .ok (.iconst 0, 1) := by decide +kernel
theorem dL_agree_390 : decode cL_agree 390 = .ok (.istore 5, 2) := by decide +kernel
theorem dL_agree_392 : decode cL_agree 392 = .ok (.iload 5, 2) := by decide +kernel
theorem dL_agree_394 : decode cL_agree 394 = .ok (.aload_n 0, 1) := by decide +kernel
theorem dL_agree_395 : decode cL_agree 395 = .ok (.iconst 3, 1) := by decide +kernel
theorem dL_agree_396 : decode cL_agree 396 = .ok (.invokevirtual 14, 3) := by decide +kernel
theorem dL_agree_399 : decode cL_agree 399 = .ok (.if_icmp .ge 76, 3) := by decide +kernel
theorem dL_agree_402 : decode cL_agree 402 = .ok (.aload_n 0, 1) := by decide +kernel
theorem dL_agree_403 : decode cL_agree 403 = .ok (.aload_n 0, 1) := by decide +kernel
theorem dL_agree_404 : decode cL_agree 404 = .ok (.iload 5, 2) := by decide +kernel
theorem dL_agree_406 : decode cL_agree 406 = .ok (.iconst 0, 1) := by decide +kernel
theorem dL_agree_407 : decode cL_agree 407 = .ok (.invokevirtual 24, 3) := by decide +kernel
theorem dL_agree_410 : decode cL_agree 410 = .ok (.bipush 8, 2) := by decide +kernel
theorem dL_agree_412 : decode cL_agree 412 = .ok (.invokevirtual 8, 3) := by decide +kernel
theorem dL_agree_415 : decode cL_agree 415 = .ok (.iload 5, 2) := by decide +kernel
theorem dL_agree_417 : decode cL_agree 417 = .ok (.if_icmp .ne 41, 3) := by decide +kernel
theorem dL_agree_420 : decode cL_agree 420 = .ok (.aload_n 0, 1) := by decide +kernel
theorem dL_agree_421 : decode cL_agree 421 = .ok (.iload 5, 2) := by decide +kernel
theorem dL_agree_423 : decode cL_agree 423 = .ok (.iconst 1, 1) := by decide +kernel
theorem dL_agree_424 : decode cL_agree 424 = .ok (.invokevirtual 24, 3) := by decide +kernel
theorem dL_agree_427 : decode cL_agree 427 = .ok (.iload 4, 2) := by decide +kernel
theorem dL_agree_429 : decode cL_agree 429 = .ok (.if_icmp .le 29, 3) := by decide +kernel
theorem dL_agree_432 : decode cL_agree 432 = .ok (.aload_n 0, 1) := by decide +kernel
theorem dL_agree_433 : decode cL_agree 433 = .ok (.iload 5, 2) := by decide +kernel
theorem dL_agree_435 : decode cL_agree 435 = .ok (.iconst 2, 1) := by decide +kernel
theorem dL_agree_436 : decode cL_agree 436 = .ok (.invokevirtual 24, 3) := by decide +kernel
theorem dL_agree_439 : decode cL_agree 439 = .ok (.iconst 1, 1) := by decide +kernel
theorem dL_agree_440 : decode cL_agree 440 = .ok (.if_icmp .lt 18, 3) := by decide +kernel
theorem dL_agree_443 : decode cL_agree 443 = .ok (.aload_n 0, 1) := by decide +kernel
theorem dL_agree_444 : decode cL_agree 444 = .ok (.iload 5, 2) := by decide +kernel
theorem dL_agree_446 : decode cL_agree 446 = .ok (.iconst 3, 1) := by decide +kernel
theorem dL_agree_447 : decode cL_agree 447 = .ok (.invokevirtual 24, 3) := by decide +kernel
theorem dL_agree_450 : decode cL_agree 450 = .ok (.aload_n 0, 1) := by decide +kernel
theorem dL_agree_451 : decode cL_agree 451 = .ok (.iconst 0, 1) := by decide +kernel
theorem dL_agree_452 : decode cL_agree 452 = .ok (.invokevirtual 14, 3) := by decide +kernel
theorem dL_agree_455 : decode cL_agree 455 = .ok (.if_icmp .lt 5, 3) := by decide +kernel
theorem dL_agree_458 : decode cL_agree 458 = .ok (.iconst 0, 1) := by decide +kernel
theorem dL_agree_459 : decode cL_agree 459 = .ok (.ireturn, 1) := by decide +kernel
theorem dL_agree_460 : decode cL_agree 460 = .ok (.aload_n 0, 1) := by decide +kernel
theorem dL_agree_461 : decode cL_agree 461 = .ok (.iload 5, 2) := by decide +kernel
theorem dL_agree_463 : decode cL_agree 463 = .ok (.iconst 1, 1) := by decide +kernel
theorem dL_agree_464 : decode cL_agree 464 = .ok (.invokevirtual 24, 3) := by decide +kernel
theorem dL_agree_467 : decode cL_agree 467 = .ok (.istore 4, 2) := by decide +kernel
theorem dL_agree_469 : decode cL_agree 469 = .ok (.iinc 5 1, 3) := by decide +kernel
theorem dL_agree_472 : decode cL_agree 472 = .ok (.goto (-80), 3) := by decide +kernel
theorem dL_agree_475 : decode cL_agree 475 = .ok (.iload_n 1, 1) := by decide +kernel
theorem dL_agree_476 : decode cL_agree 476 = .ok (.aload_n 0, 1) := by decide +kernel
theorem dL_agree_477 : decode cL_agree 477 = .ok (.iconst 4, 1) := by decide +kernel
theorem dL_agree_478 : decode cL_agree 478 = .ok (.invokevirtual 14, 3) := by decide +kernel
theorem dL_agree_481 : decode cL_agree 481 = .ok (.if_icmp .ne 54, 3) := by decide +kernel
theorem dL_agree_484 : decode cL_agree 484 = .ok (.iload_n 2, 1) := by decide +kernel
theorem dL_agree_485 : decode cL_agree 485 = .ok (.aload_n 0, 1) := by decide +kernel
theorem dL_agree_486 : decode cL_agree 486 = .ok (.bipush 8, 2) := by decide +kernel
theorem dL_agree_488 : decode cL_agree 488 = .ok (.invokevirtual 14, 3) := by decide +kernel
theorem dL_agree_491 : decode cL_agree 491 = .ok (.if_icmp .ne 44, 3) := by decide +kernel
theorem dL_agree_494 : decode cL_agree 494 = .ok (.iload_n 3, 1) := by decide +kernel
theorem dL_agree_495 : decode cL_agree 495 = .ok (.aload_n 0, 1) := by decide +kernel
theorem dL_agree_496 : decode cL_agree 496 = .ok (.iconst 5, 1) := by decide +kernel
theorem dL_agree_497 : decode cL_agree 497 = .ok (.invokevirtual 14, 3) := by decide +kernel
theorem dL_agree_500 : decode cL_agree 500 = .ok (.if_icmp .ne 35, 3) := by decide +kernel
theorem dL_agree_503 : decode cL_agree 503 = .ok (.aload_n 0, 1) := by decide +kernel
theorem dL_agree_504 : decode cL_agree 504 = .ok (.iconst 3, 1) := by decide +kernel
theorem dL_agree_505 : decode cL_agree 505 = .ok (.invokevirtual 14, 3) := by decide +kernel
theorem dL_agree_508 : decode cL_agree 508 = .ok (.aload_n 0, 1) := by decide +kernel
theorem dL_agree_509 : decode cL_agree 509 = .ok (.bipush 7, 2) := by decide +kernel
theorem dL_agree_511 : decode cL_agree 511 = .ok (.invokevirtual 14, 3) := by decide +kernel
theorem dL_agree_514 : decode cL_agree 514 = .ok (.if_icmp .gt 21, 3) := by decide +kernel
theorem dL_agree_517 : decode cL_agree 517 = .ok (.aload_n 0, 1) := by decide +kernel
theorem dL_agree_518 : decode cL_agree 518 = .ok (.aload_n 0, 1) := by decide +kernel
theorem dL_agree_519 : decode cL_agree 519 = .ok (.iconst 3, 1) := by decide +kernel
theorem dL_agree_520 : decode cL_agree 520 = .ok (.invokevirtual 14, 3) := by decide +kernel
theorem dL_agree_523 : decode cL_agree 523 = .ok (.iconst 0, 1) := by decide +kernel
theorem dL_agree_524 : decode cL_agree 524 = .ok (.invokevirtual 24, 3) := by decide +kernel
theorem dL_agree_527 : decode cL_agree 527 = .ok (.iconst (-1), 1) := by decide +kernel
theorem dL_agree_528 : decode cL_agree 528 = .ok (.if_icmp .ne 7, 3) := by decide +kernel
theorem dL_agree_531 : decode cL_agree 531 = .ok (.iconst 1, 1) := by decide +kernel
theorem dL_agree_532 : decode cL_agree 532 = .ok (.goto 4, 3) := by decide +kernel
theorem dL_agree_535 : decode cL_agree 535 = .ok (.iconst 0, 1) := by decide +kernel
theorem dL_agree_536 : decode cL_agree 536 = .ok (.ireturn, 1) := by decide +kernel
theorem dL_isTick_0 : decode cL_isTick 0 = .ok (.aload_n 0, 1) := by decide +kernel
theorem dL_isTick_1 : decode cL_isTick 1 = .ok (.iconst 1, 1) := by decide +kernel
theorem dL_isTick_2 : decode cL_isTick 2 = .ok (.invokevirtual 14, 3) := by decide +kernel
theorem dL_isTick_5 : decode cL_isTick 5 = .ok (.istore_n 1, 1) := by decide +kernel
theorem dL_isTick_6 : decode cL_isTick 6 = .ok (.bipush 12, 2) := by decide +kernel
theorem dL_isTick_8 : decode cL_isTick 8 = .ok (.newarray .int, 2) := by decide +kernel
theorem dL_isTick_10 : decode cL_isTick 10 = .ok (.astore_n 2, 1) := by decide +kernel
theorem dL_isTick_11 : decode cL_isTick 11 = .ok (.bipush 12, 2) := by decide +kernel
theorem dL_isTick_13 : decode cL_isTick 13 = .ok (.newarray .int, 2) := by decide +kernel
theorem dL_isTick_15 : decode cL_isTick 15 = .ok (.astore_n 3, 1) := by decide +kernel
theorem dL_isTick_16 : decode cL_isTick 16 = .ok (.bipush 12, 2) := by decide +kernel
theorem dL_isTick_18 : decode cL_isTick 18 = .ok (.newarray .int, 2) := by decide +kernel
theorem dL_isTick_20 : decode cL_isTick 20 = .ok (.astore 4, 2) := by decide +kernel
theorem dL_isTick_22 : decode cL_isTick 22 = .ok (.bipush 12, 2) := by decide +kernel
theorem dL_isTick_24 : decode cL_isTick 24 = .ok (.newarray .int, 2) := by decide +kernel
theorem dL_isTick_26 : decode cL_isTick 26 = .ok (.astore 5, 2) := by decide +kernel
theorem dL_isTick_28 : decode cL_isTick 28 = .ok (.bipush 12, 2) := by decide +kernel
theorem dL_isTick_30 : decode cL_isTick 30 = .ok (.newarray .int, 2) := by decide +kernel
theorem dL_isTick_32 : decode cL_isTick 32 = .ok (.astore 6, 2) := by decide +kernel
theorem dL_isTick_34 : decode cL_isTick 34 = .ok (.bipush 12, 2) := by decide +kernel
theorem dL_isTick_36 : decode cL_isTick 36 = .ok (.newarray .int, 2) := by decide +kernel
theorem dL_isTick_38 : decode cL_isTick 38 = .ok (.astore 7, 2) := by decide +kernel
theorem dL_isTick_40 : decode cL_isTick 40 = .ok (.bipush 12, 2) := by decide +kernel
theorem dL_isTick_42 : decode cL_isTick 42 = .ok (.newarray .int, 2) := by decide +kernel
theorem dL_isTick_44 : decode cL_isTick 44 = .ok (.astore 8, 2) := by decide +kernel
theorem dL_isTick_46 : decode cL_isTick 46 = .ok (.bipush 12, 2) := by decide +kernel
theorem dL_isTick_48 : decode cL_isTick 48 = .ok (.newarray .int, 2) := by decide +kernel
theorem dL_isTick_50 : decode cL_isTick 50 = .ok (.astore 9, 2) := by decide +kernel
theorem dL_isTick_52 : decode cL_isTick 52 = .ok (.bipush 12, 2) := by decide +kernel
theorem dL_isTick_54 : decode cL_isTick 54 = .ok (.newarray .int, 2) := by decide +kernel
theorem dL_isTick_56 : decode cL_isTick 56 = .ok (.astore 10, 2) := by decide +kernel
theorem dL_isTick_58 : decode cL_isTick 58 = .ok (.bipush 12, 2) := by decide +kernel
theorem dL_isTick_60 : decode cL_isTick 60 = .ok (.newarray .int, 2) := by decide +kernel
theorem dL_isTick_62 : decode cL_isTick 62 = .ok (.astore 11, 2) := by decide +kernel
theorem dL_isTick_64 : decode cL_isTick 64 = .ok (.bipush 12, 2) := by decide +kernel
theorem dL_isTick_66 : decode cL_isTick 66 = .ok (.newarray .int, 2) := by decide +kernel
theorem dL_isTick_68 : decode cL_isTick 68 = .ok (.astore 12, 2) := by decide +kernel
theorem dL_isTick_70 : decode cL_isTick 70 = .ok (.bipush 9, 2) := by decide +kernel
theorem dL_isTick_72 : decode cL_isTick 72 = .ok (.newarray .int, 2) := by decide +kernel
theorem dL_isTick_74 : decode cL_isTick 74 = .ok (.astore 13, 2) := by decide +kernel
theorem dL_isTick_76 : decode cL_isTick 76 = .ok (.bipush 9, 2) := by decide +kernel
theorem dL_isTick_78 : decode cL_isTick 78 = .ok (.newarray .int, 2) := by decide +kernel
theorem dL_isTick_80 : decode cL_isTick 80 = .ok (.astore 14, 2) := by decide +kernel
theorem dL_isTick_82 : decode cL_isTick 82 = .ok (.bipush 9, 2) := by decide +kernel
theorem dL_isTick_84 : decode cL_isTick 84 = .ok (.newarray .int, 2) := by decide +kernel
theorem dL_isTick_86 : decode cL_isTick 86 = .ok (.astore 15, 2) := by decide +kernel
theorem dL_isTick_88 : decode cL_isTick 88 = .ok (.bipush 6, 2) := by decide +kernel
theorem dL_isTick_90 : decode cL_isTick 90 = .ok (.newarray .int, 2) := by decide +kernel
theorem dL_isTick_92 : decode cL_isTick 92 = .ok (.astore 16, 2) := by decide +kernel
theorem dL_isTick_94 : decode cL_isTick 94 = .ok (.iconst 0, 1) := by decide +kernel
theorem dL_isTick_95 : decode cL_isTick 95 = .ok (.istore 17, 2) := by decide +kernel
theorem dL_isTick_97 : decode cL_isTick 97 = .ok (.iload 17, 2) := by decide +kernel
theorem dL_isTick_99 : decode cL_isTick 99 = .ok (.iload_n 1, 1) := by decide +kernel
theorem dL_isTick_100 : decode cL_isTick 100 = .ok (.if_icmp .ge 161, 3) := by decide +kernel
theorem dL_isTick_103 : decode cL_isTick 103 = .ok (.aload_n 2, 1) := by decide +kernel
theorem dL_isTick_104 : decode cL_isTick 104 = .ok (.iload 17, 2) := by decide +kernel
theorem dL_isTick_106 : decode cL_isTick 106 = .ok (.aload_n 0, 1) := by decide +kernel
theorem dL_isTick_107 : decode cL_isTick 107 = .ok (.iload 17, 2) := by decide +kernel
theorem dL_isTick_109 : decode cL_isTick 109 = .ok (.iconst 5, 1) := by decide +kernel
theorem dL_isTick_110 : decode cL_isTick 110 = .ok (.invokevirtual 8, 3) := by decide +kernel
theorem dL_isTick_113 : decode cL_isTick 113 = .ok (.iastore, 1) := by decide +kernel
theorem dL_isTick_114 : decode cL_isTick 114 = .ok (.aload_n 3, 1) := by decide +kernel
theorem dL_isTick_115 : decode cL_isTick 115 = .ok (.iload 17, 2) := by decide +kernel
theorem dL_isTick_117 : decode cL_isTick 117 = .ok (.aload_n 2, 1) := by decide +kernel
theorem dL_isTick_118 : decode cL_isTick 118 = .ok (.iload 17, 2) := by decide +kernel
theorem dL_isTick_120 : decode cL_isTick 120 = .ok (.iaload, 1) := by decide +kernel
theorem dL_isTick_121 : decode cL_isTick 121 = .ok (.iconst 1, 1) := by decide +kernel
theorem dL_isTick_122 : decode cL_isTick 122 = .ok (.if_icmp .ne 14, 3) := by decide +kernel
theorem dL_isTick_125 : decode cL_isTick 125 = .ok (.aload_n 0, 1) := by decide +kernel
theorem dL_isTick_126 : decode cL_isTick 126 = .ok (.iload 17, 2) := by decide +kernel
theorem dL_isTick_128 : decode cL_isTick 128 = .ok (.bipush 6, 2) := by decide +kernel
theorem dL_isTick_130 : decode cL_isTick 130 = .ok (.invokevirtual 8, 3) := by decide +kernel
theorem dL_isTick_133 : decode cL_isTick 133 = .ok (.goto 4, 3) := by decide +kernel
theorem dL_isTick_136 : decode cL_isTick 136 = .ok (.iconst 0, 1) := by decide +kernel
theorem dL_isTick_137 : decode cL_isTick 137 = .ok (.iastore, 1) := by decide +kernel
theorem dL_isTick_138 : decode cL_isTick 138 = .ok (.aload 5, 2) := by decide +kernel
theorem dL_isTick_140 : decode cL_isTick 140 = .ok (.iload 17, 2) := by decide +kernel
theorem dL_isTick_142 : decode cL_isTick 142 = .ok (.aload_n 0, 1) := by decide +kernel
theorem dL_isTick_143 : decode cL_isTick 143 = .ok (.iload 17, 2) := by decide +kernel
theorem dL_isTick_145 : decode cL_isTick 145 = .ok (.bipush 8, 2) := by decide +kernel
theorem dL_isTick_147 : decode cL_isTick 147 = .ok (.invokevirtual 8, 3) := by decide +kernel
theorem dL_isTick_150 : decode cL_isTick 150 = .ok (.iastore, 1) := by decide +kernel
theorem dL_isTick_151 : decode cL_isTick 151 = .ok (.aload 4, 2) := by decide +kernel
theorem dL_isTick_153 : decode cL_isTick 153 = .ok (.iload 17, 2) := by decide +kernel
theorem dL_isTick_155 : decode cL_isTick 155 = .ok (.aload_n 0, 1) := by decide +kernel
theorem dL_isTick_156 : decode cL_isTick 156 = .ok (.iload 17, 2) := by decide +kernel
theorem dL_isTick_158 : decode cL_isTick 158 = .ok (.bipush 9, 2) := by decide +kernel
theorem dL_isTick_160 : decode cL_isTick 160 = .ok (.invokevirtual 8, 3) := by decide +kernel
theorem dL_isTick_163 : decode cL_isTick 163 = .ok (.iastore, 1) := by decide +kernel
theorem dL_isTick_164 : decode cL_isTick 164 = .ok (.aload 6, 2) := by decide +kernel
theorem dL_isTick_166 : decode cL_isTick 166 = .ok (.iload 17, 2) := by decide +kernel
theorem dL_isTick_168 : decode cL_isTick 168 = .ok (.aload_n 0, 1) := by decide +kernel
theorem dL_isTick_169 : decode cL_isTick 169 = .ok (.iload 17, 2) := by decide +kernel
theorem dL_isTick_171 : decode cL_isTick 171 = .ok (.bipush 10, 2) := by decide +kernel
theorem dL_isTick_173 : decode cL_isTick 173 = .ok (.invokevirtual 8, 3) := by decide +kernel
theorem dL_isTick_176 : decode cL_isTick 176 = .ok (.iastore, 1) := by decide +kernel
theorem dL_isTick_177 : decode cL_isTick 177 = .ok (.aload 7, 2) := by decide +kernel
theorem dL_isTick_179 : decode cL_isTick 179 = .ok (.iload 17, 2) := by decide +kernel
theorem dL_isTick_181 : decode cL_isTick 181 = .ok (.aload_n 0, 1) := by decide +kernel
theorem dL_isTick_182 : decode cL_isTick 182 = .ok (.iload 17, 2) := by decide +kernel
theorem dL_isTick_184 : decode cL_isTick 184 = .ok (.bipush 11, 2) := by decide +kernel
theorem dL_isTick_186 : decode cL_isTick 186 = .ok (.invokevirtual 8, 3) := by decide +kernel
theorem dL_isTick_189 : decode cL_isTick 189 = .ok (.iastore, 1) := by decide +kernel
theorem dL_isTick_190 : decode cL_isTick 190 = .ok (.aload 8, 2) := by decide +kernel
theorem dL_isTick_192 : decode cL_isTick 192 = .ok (.iload 17, 2) := by decide +kernel
theorem dL_isTick_194 : decode cL_isTick 194 = .ok (.aload_n 0, 1) := by decide +kernel
theorem dL_isTick_195 : decode cL_isTick 195 = .ok (.iload 17, 2) := by decide +kernel
theorem dL_isTick_197 : decode cL_isTick 197 = .ok (.bipush 12, 2) := by decide +kernel
theorem dL_isTick_199 : decode cL_isTick 199 = .ok (.invokevirtual 8, 3) := by decide +kernel
theorem dL_isTick_202 : decode cL_isTick 202 = .ok (.iastore, 1) := by decide +kernel
theorem dL_isTick_203 : decode cL_isTick 203 = .ok (.aload 9, 2) := by decide +kernel
theorem dL_isTick_205 : decode cL_isTick 205 = .ok (.iload 17, 2) := by decide +kernel
theorem dL_isTick_207 : decode cL_isTick 207 = .ok (.aload_n 0, 1) := by decide +kernel
theorem dL_isTick_208 : decode cL_isTick 208 = .ok (.iload 17, 2) := by decide +kernel
theorem dL_isTick_210 : decode cL_isTick 210 = .ok (.bipush 13, 2) := by decide +kernel
theorem dL_isTick_212 : decode cL_isTick 212 = .ok (.invokevirtual 8, 3) := by decide +kernel
theorem dL_isTick_215 : decode cL_isTick 215 = .ok (.iastore, 1) := by decide +kernel
theorem dL_isTick_216 : decode cL_isTick 216 = .ok (.aload 10, 2) := by decide +kernel
theorem dL_isTick_218 : decode cL_isTick 218 = .ok (.iload 17, 2) := by decide +kernel
theorem dL_isTick_220 : decode cL_isTick 220 = .ok (.aload_n 0, 1) := by decide +kernel
theorem dL_isTick_221 : decode cL_isTick 221 = .ok (.iload 17, 2) := by decide +kernel
theorem dL_isTick_223 : decode cL_isTick 223 = .ok (.bipush 14, 2) := by decide +kernel
theorem dL_isTick_225 : decode cL_isTick 225 = .ok (.invokevirtual 8, 3) := by decide +kernel
theorem dL_isTick_228 : decode cL_isTick 228 = .ok (.iastore, 1) := by decide +kernel
theorem dL_isTick_229 : decode cL_isTick 229 = .ok (.aload 11, 2) := by decide +kernel
theorem dL_isTick_231 : decode cL_isTick 231 = .ok (.iload 17, 2) := by decide +kernel
theorem dL_isTick_233 : decode cL_isTick 233 = .ok (.aload_n 0, 1) := by decide +kernel
theorem dL_isTick_234 : decode cL_isTick 234 = .ok (.iload 17, 2) := by decide +kernel
theorem dL_isTick_236 : decode cL_isTick 236 = .ok (.bipush 15, 2) := by decide +kernel
theorem dL_isTick_238 : decode cL_isTick 238 = .ok (.invokevirtual 8, 3) := by decide +kernel
theorem dL_isTick_241 : decode cL_isTick 241 = .ok (.iastore, 1) := by decide +kernel
theorem dL_isTick_242 : decode cL_isTick 242 = .ok (.aload 12, 2) := by decide +kernel
theorem dL_isTick_244 : decode cL_isTick 244 = .ok (.iload 17, 2) := by decide +kernel
theorem dL_isTick_246 : decode cL_isTick 246 = .ok (.aload_n 0, 1) := by decide +kernel
theorem dL_isTick_247 : decode cL_isTick 247 = .ok (.iload 17, 2) := by decide +kernel
theorem dL_isTick_249 : decode cL_isTick 249 = .ok (.bipush 16, 2) := by decide +kernel
theorem dL_isTick_251 : decode cL_isTick 251 = .ok (.invokevirtual 8, 3) := by decide +kernel
theorem dL_isTick_254 : decode cL_isTick 254 = .ok (.iastore, 1) := by decide +kernel
theorem dL_isTick_255 : decode cL_isTick 255 = .ok (.iinc 17 1, 3) := by decide +kernel
theorem dL_isTick_258 : decode cL_isTick 258 = .ok (.goto (-161), 3) := by decide +kernel
theorem dL_isTick_261 : decode cL_isTick 261 = .ok (.aload_n 0, 1) := by decide +kernel
theorem dL_isTick_262 : decode cL_isTick 262 = .ok (.iconst 3, 1) := by decide +kernel
theorem dL_isTick_263 : decode cL_isTick 263 = .ok (.invokevirtual 14, 3) := by decide +kernel
theorem dL_isTick_266 : decode cL_isTick 266 = .ok (.istore 17, 2) := by decide +kernel
theorem dL_isTick_268 : decode cL_isTick 268 = .ok (.iconst 0, 1) := by decide +kernel
theorem dL_isTick_269 : decode cL_isTick 269 = .ok (.istore 18, 2) := by decide +kernel
theorem dL_isTick_271 : decode cL_isTick 271 = .ok (.iload 18, 2) := by decide +kernel
theorem dL_isTick_273 : decode cL_isTick 273 = .ok (.iload 17, 2) := by decide +kernel
theorem dL_isTick_275 : decode cL_isTick 275 = .ok (.if_icmp .ge 45, 3) := by decide +kernel
theorem dL_isTick_278 : decode cL_isTick 278 = .ok (.aload 13, 2) := by decide +kernel
theorem dL_isTick_280 : decode cL_isTick 280 = .ok (.iload 18, 2) := by decide +kernel
theorem dL_isTick_282 : decode cL_isTick 282 = .ok (.aload_n 0, 1) := by decide +kernel
theorem dL_isTick_283 : decode cL_isTick 283 = .ok (.iload 18, 2) := by decide +kernel
theorem dL_isTick_285 : decode cL_isTick 285 = .ok (.iconst 0, 1) := by decide +kernel
theorem dL_isTick_286 : decode cL_isTick 286 = .ok (.invokevirtual 24, 3) := by decide +kernel
theorem dL_isTick_289 : decode cL_isTick 289 = .ok (.iastore, 1) := by decide +kernel
theorem dL_isTick_290 : decode cL_isTick 290 = .ok (.aload 14, 2) := by decide +kernel
theorem dL_isTick_292 : decode cL_isTick 292 = .ok (.iload 18, 2) := by decide +kernel
theorem dL_isTick_294 : decode cL_isTick 294 = .ok (.aload_n 0, 1) := by decide +kernel
theorem dL_isTick_295 : decode cL_isTick 295 = .ok (.iload 18, 2) := by decide +kernel
theorem dL_isTick_297 : decode cL_isTick 297 = .ok (.iconst 1, 1) := by decide +kernel
theorem dL_isTick_298 : decode cL_isTick 298 = .ok (.invokevirtual 24, 3) := by decide +kernel
theorem dL_isTick_301 : decode cL_isTick 301 = .ok (.iastore, 1) := by decide +kernel
theorem dL_isTick_302 : decode cL_isTick 302 = .ok (.aload 15, 2) := by decide +kernel
theorem dL_isTick_304 : decode cL_isTick 304 = .ok (.iload 18, 2) := by decide +kernel
theorem dL_isTick_306 : decode cL_isTick 306 = .ok (.aload_n 0, 1) := by decide +kernel
theorem dL_isTick_307 : decode cL_isTick 307 = .ok (.iload 18, 2) := by decide +kernel
theorem dL_isTick_309 : decode cL_isTick 309 = .ok (.iconst 2, 1) := by decide +kernel
theorem dL_isTick_310 : decode cL_isTick 310 = .ok (.invokevirtual 24, 3) := by decide +kernel
theorem dL_isTick_313 : decode cL_isTick 313 = .ok (.iastore, 1) := by decide +kernel
theorem dL_isTick_314 : decode cL_isTick 314 = .ok (.iinc 18 1, 3) := by decide +kernel
theorem dL_isTick_317 : decode cL_isTick 317 = .ok (.goto (-46), 3) := by decide +kernel
theorem dL_isTick_320 : decode cL_isTick 320 = .ok (.aload_n 0, 1) := by decide +kernel
theorem dL_isTick_321 : decode cL_isTick 321 = .ok (.iconst 0, 1) := by decide +kernel
theorem dL_isTick_322 : decode cL_isTick 322 = .ok (.invokevirtual 14, 3) := by decide +kernel
theorem dL_isTick_325 : decode cL_isTick 325 = .ok (.istore 18, 2) := by decide +kernel
theorem dL_isTick_327 : decode cL_isTick 327 = .ok (.aload_n 0, 1) := by decide +kernel
theorem dL_isTick_328 : decode cL_isTick 328 = .ok (.bipush 6, 2) := by decide +kernel
theorem dL_isTick_330 : decode cL_isTick 330 = .ok (.invokevirtual 14, 3) := by decide +kernel
theorem dL_isTick_333 : decode cL_isTick 333 = .ok (.istore 19, 2) := by decide +kernel
theorem dL_isTick_335 : decode cL_isTick 335 = .ok (.aload_n 0, 1) := by decide +kernel
theorem dL_isTick_336 : decode cL_isTick 336 = .ok (.bipush 7, 2) := by decide +kernel
theorem dL_isTick_338 : decode cL_isTick 338 = .ok (.invokevirtual 14, 3) := by decide +kernel
theorem dL_isTick_341 : decode cL_isTick 341 = .ok (.istore 20, 2) := by decide +kernel
theorem dL_isTick_343 : decode cL_isTick 343 = .ok (.aload_n 0, 1) := by decide +kernel
theorem dL_isTick_344 : decode cL_isTick 344 = .ok (.bipush 9, 2) := by decide +kernel
theorem dL_isTick_346 : decode cL_isTick 346 = .ok (.invokevirtual 14, 3) := by decide +kernel
theorem dL_isTick_349 : decode cL_isTick 349 = .ok (.istore 21, 2) := by decide +kernel
theorem dL_isTick_351 : decode cL_isTick 351 = .ok (.iconst 0, 1) := by decide +kernel
theorem dL_isTick_352 : decode cL_isTick 352 = .ok (.istore 22, 2) := by decide +kernel
theorem dL_isTick_354 : decode cL_isTick 354 = .ok (.iload 22, 2) := by decide +kernel
theorem dL_isTick_356 : decode cL_isTick 356 = .ok (.aload_n 0, 1) := by decide +kernel
theorem dL_isTick_357 : decode cL_isTick 357 = .ok (.iconst 2, 1) := by decide +kernel
theorem dL_isTick_358 : decode cL_isTick 358 = .ok (.invokevirtual 14, 3) := by decide +kernel
theorem dL_isTick_361 : decode cL_isTick 361 = .ok (.if_icmp .ge 114, 3) := by decide +kernel
theorem dL_isTick_364 : decode cL_isTick 364 = .ok (.aload 16, 2) := by decide +kernel
theorem dL_isTick_366 : decode cL_isTick 366 = .ok (.iload 22, 2) := by decide +kernel
theorem dL_isTick_368 : decode cL_isTick 368 = .ok (.aload_n 0, 1) := by decide +kernel
theorem dL_isTick_369 : decode cL_isTick 369 = .ok (.iload 22, 2) := by decide +kernel
theorem dL_isTick_371 : decode cL_isTick 371 = .ok (.iconst 2, 1) := by decide +kernel
theorem dL_isTick_372 : decode cL_isTick 372 = .ok (.invokevirtual 27, 3) := by decide +kernel
theorem dL_isTick_375 : decode cL_isTick 375 = .ok (.iastore, 1) := by decide +kernel
theorem dL_isTick_376 : decode cL_isTick 376 = .ok (.aload 16, 2) := by decide +kernel
theorem dL_isTick_378 : decode cL_isTick 378 = .ok (.iload 22, 2) := by decide +kernel
theorem dL_isTick_380 : decode cL_isTick 380 = .ok (.iaload, 1) := by decide +kernel
theorem dL_isTick_381 : decode cL_isTick 381 = .ok (.iload 18, 2) := by decide +kernel
theorem dL_isTick_383 : decode cL_isTick 383 = .ok (.if_icmp .ne 86, 3) := by decide +kernel
theorem dL_isTick_386 : decode cL_isTick 386 = .ok (.aload_n 0, 1) := by decide +kernel
theorem dL_isTick_387 : decode cL_isTick 387 = .ok (.iload 22, 2) := by decide +kernel
theorem dL_isTick_389 : decode cL_isTick 389 = .ok (.iconst 0, 1) := by decide +kernel
theorem dL_isTick_390 : decode cL_isTick 390 = .ok (.invokevirtual 27, 3) := by decide +kernel
theorem dL_isTick_393 : decode cL_isTick 393 = .ok (.istore 23, 2) := by decide +kernel
theorem dL_isTick_395 : decode cL_isTick 395 = .ok (.aload 6, 2) := by decide +kernel
theorem dL_isTick_397 : decode cL_isTick 397 = .ok (.iload 23, 2) := by decide +kernel
theorem dL_isTick_399 : decode cL_isTick 399 = .ok (.dup2, 1) := by decide +kernel
theorem dL_isTick_400 : decode cL_isTick 400 = .ok (.iaload, 1) := by decide +kernel
theorem dL_isTick_401 : decode cL_isTick 401 = .ok (.iconst 1, 1) := by decide +kernel
theorem dL_isTick_402 : decode cL_isTick 402 = .ok (.iadd, 1) := by decide +kernel
theorem dL_isTick_403 : decode cL_isTick 403 = .ok (.iastore, 1) := by decide +kernel
theorem dL_isTick_404 : decode cL_isTick 404 = .ok (.aload_n 2, 1) := by decide +kernel
theorem dL_isTick_405 : decode cL_isTick 405 = .ok (.iload 23, 2) := by decide +kernel
theorem dL_isTick_407 : decode cL_isTick 407 = .ok (.iaload, 1) := by decide +kernel
theorem dL_isTick_408 : decode cL_isTick 408 = .ok (.iconst 1, 1) := by decide +kernel
theorem dL_isTick_409 : decode cL_isTick 409 = .ok (.if_icmp .eq 23, 3) := by decide +kernel
theorem dL_isTick_412 : decode cL_isTick 412 = .ok (.aload_n 0, 1) := by decide +kernel
theorem dL_isTick_413 : decode cL_isTick 413 = .ok (.iload 23, 2) := by decide +kernel
theorem dL_isTick_415 : decode cL_isTick 415 = .ok (.iconst 4, 1) := by decide +kernel
theorem dL_isTick_416 : decode cL_isTick 416 = .ok (.invokevirtual 8, 3) := by decide +kernel
theorem dL_isTick_419 : decode cL_isTick 419 = .ok (.iconst 1, 1) := by decide +kernel
theorem dL_isTick_420 : decode cL_isTick 420 = .ok (.if_icmp .ne 24, 3) := by decide +kernel
theorem dL_isTick_423 : decode cL_isTick 423 = .ok (.aload_n 0, 1) := by decide +kernel
theorem dL_isTick_424 : decode cL_isTick 424 = .ok (.bipush 17, 2) := by decide +kernel
theorem dL_isTick_426 : decode cL_isTick 426 = .ok (.invokevirtual 14, 3) := by decide +kernel
theorem dL_isTick_429 : decode cL_isTick 429 = .ok (.ifCond .ne 15, 3) := by decide +kernel
theorem dL_isTick_432 : decode cL_isTick 432 = .ok (.aload 7, 2) := by decide +kernel
theorem dL_isTick_434 : decode cL_isTick 434 = .ok (.iload 23, 2) := by decide +kernel
theorem dL_isTick_436 : decode cL_isTick 436 = .ok (.dup2, 1) := by decide +kernel
theorem dL_isTick_437 : decode cL_isTick 437 = .ok (.iaload, 1) := by decide +kernel
theorem dL_isTick_438 : decode cL_isTick 438 = .ok (.iconst 1, 1) := by decide +kernel
theorem dL_isTick_439 : decode cL_isTick 439 = .ok (.iadd, 1) := by decide +kernel
theorem dL_isTick_440 : decode cL_isTick 440 = .ok (.iastore, 1) := by decide +kernel
theorem dL_isTick_441 : decode cL_isTick 441 = .ok (.goto 13, 3) := by decide +kernel
theorem dL_isTick_444 : decode cL_isTick 444 = .ok (.aload_n 2, 1) := by decide +kernel
theorem dL_isTick_445 : decode cL_isTick 445 = .ok (.iload 23, 2) := by decide +kernel
theorem dL_isTick_447 : decode cL_isTick 447 = .ok (.iconst 1, 1) := by decide +kernel
theorem dL_isTick_448 : decode cL_isTick 448 = .ok (.iastore, 1) := by decide +kernel
theorem dL_isTick_449 : decode cL_isTick 449 = .ok (.aload_n 3, 1) := by decide +kernel
theorem dL_isTick_450 : decode cL_isTick 450 = .ok (.iload 23, 2) := by decide +kernel
theorem dL_isTick_452 : decode cL_isTick 452 = .ok (.iconst 0, 1) := by decide +kernel
theorem dL_isTick_453 : decode cL_isTick 453 = .ok (.iastore, 1) := by decide +kernel
theorem dL_isTick_454 : decode cL_isTick 454 = .ok (.aload 16, 2) := by decide +kernel
theorem dL_isTick_456 : decode cL_isTick 456 = .ok (.iload 22, 2) := by decide +kernel
theorem dL_isTick_458 : decode cL_isTick 458 = .ok (.dup2, 1) := by decide +kernel
theorem dL_isTick_459 : decode cL_isTick 459 = .ok (.iaload, 1) := by decide +kernel
theorem dL_isTick_460 : decode cL_isTick 460 = .ok (.aload_n 0, 1) := by decide +kernel
theorem dL_isTick_461 : decode cL_isTick 461 = .ok (.iload 22, 2) := by decide +kernel
theorem dL_isTick_463 : decode cL_isTick 463 = .ok (.iconst 1, 1) := by decide +kernel
theorem dL_isTick_464 : decode cL_isTick 464 = .ok (.invokevirtual 27, 3) := by decide +kernel
theorem dL_isTick_467 : decode cL_isTick 467 = .ok (.iadd, 1) := by decide +kernel
theorem dL_isTick_468 : decode cL_isTick 468 = .ok (.iastore, 1) := by decide +kernel
theorem dL_isTick_469 : decode cL_isTick 469 = .ok (.iinc 22 1, 3) := by decide +kernel
theorem dL_isTick_472 : decode cL_isTick 472 = .ok (.goto (-118), 3) := by decide +kernel
theorem dL_isTick_475 : decode cL_isTick 475 = .ok (.iconst (-1), 1) := by decide +kernel
theorem dL_isTick_476 : decode cL_isTick 476 = .ok (.istore 22, 2) := by decide +kernel
theorem dL_isTick_478 : decode cL_isTick 478 = .ok (.iconst 0, 1) := by decide +kernel
theorem dL_isTick_479 : decode cL_isTick 479 = .ok (.istore 23, 2) := by decide +kernel
theorem dL_isTick_481 : decode cL_isTick 481 = .ok (.iload 23, 2) := by decide +kernel
theorem dL_isTick_483 : decode cL_isTick 483 = .ok (.iload_n 1, 1) := by decide +kernel
theorem dL_isTick_484 : decode cL_isTick 484 = .ok (.if_icmp .ge 118, 3) := by decide +kernel
theorem dL_isTick_487 : decode cL_isTick 487 = .ok (.aload_n 0, 1) := by decide +kernel
theorem dL_isTick_488 : decode cL_isTick 488 = .ok (.iload 23, 2) := by decide +kernel
theorem dL_isTick_490 : decode cL_isTick 490 = .ok (.aload_n 2, 1) := by decide +kernel
theorem dL_isTick_491 : decode cL_isTick 491 = .ok (.iload 23, 2) := by decide +kernel
theorem dL_isTick_493 : decode cL_isTick 493 = .ok (.iaload, 1) := by decide +kernel
theorem dL_isTick_494 : decode cL_isTick 494 = .ok (.aload_n 3, 1) := by decide +kernel
theorem dL_isTick_495 : decode cL_isTick 495 = .ok (.iload 23, 2) := by decide +kernel
theorem dL_isTick_497 : decode cL_isTick 497 = .ok (.iaload, 1) := by decide +kernel
theorem dL_isTick_498 : decode cL_isTick 498 = .ok (.invokestatic 18, 3) := by decide +kernel
theorem dL_isTick_501 : decode cL_isTick 501 = .ok (.istore 24, 2) := by decide +kernel
theorem dL_isTick_503 : decode cL_isTick 503 = .ok (.aload_n 2, 1) := by decide +kernel
theorem dL_isTick_504 : decode cL_isTick 504 = .ok (.iload 23, 2) := by decide +kernel
theorem dL_isTick_506 : decode cL_isTick 506 = .ok (.iaload, 1) := by decide +kernel
theorem dL_isTick_507 : decode cL_isTick 507 = .ok (.iconst 1, 1) := by decide +kernel
theorem dL_isTick_508 : decode cL_isTick 508 = .ok (.if_icmp .ne 88, 3) := by decide +kernel
theorem dL_isTick_511 : decode cL_isTick 511 = .ok (.aload 5, 2) := by decide +kernel
theorem dL_isTick_513 : decode cL_isTick 513 = .ok (.iload 23, 2) := by decide +kernel
theorem dL_isTick_515 : decode cL_isTick 515 = .ok (.iaload, 1) := by decide +kernel
theorem dL_isTick_516 : decode cL_isTick 516 = .ok (.ifCond .ge 80, 3) := by decide +kernel
theorem dL_isTick_519 : decode cL_isTick 519 = .ok (.aload_n 0, 1) := by decide +kernel
theorem dL_isTick_520 : decode cL_isTick 520 = .ok (.iload 23, 2) := by decide +kernel
theorem dL_isTick_522 : decode cL_isTick 522 = .ok (.iconst 4, 1) := by decide +kernel
theorem dL_isTick_523 : decode cL_isTick 523 = .ok (.invokevirtual 8, 3) := by decide +kernel
theorem dL_isTick_526 : decode cL_isTick 526 = .ok (.ifCond .ne 70, 3) := by decide +kernel
theorem dL_isTick_529 : decode cL_isTick 529 = .ok (.iload 24, 2) := by decide +kernel
theorem dL_isTick_531 : decode cL_isTick 531 = .ok (.aload_n 0, 1) := by decide +kernel
theorem dL_isTick_532 : decode cL_isTick 532 = .ok (.bipush 18, 2) := by decide +kernel
theorem dL_isTick_534 : decode cL_isTick 534 = .ok (.invokevirtual 14, 3) := by decide +kernel
theorem dL_isTick_537 : decode cL_isTick 537 = .ok (.if_icmp .lt 59, 3) := by decide +kernel
theorem dL_isTick_540 : decode cL_isTick 540 = .ok (.iload 22, 2) := by decide +kernel
theorem dL_isTick_542 : decode cL_isTick 542 = .ok (.ifCond .ge 7, 3) := by decide +kernel
theorem dL_isTick_545 : decode cL_isTick 545 = .ok (.iconst (-1), 1) := by decide +kernel
theorem dL_isTick_546 : decode cL_isTick 546 = .ok (.goto 14, 3) := by decide +kernel
theorem dL_isTick_549 : decode cL_isTick 549 = .ok (.aload_n 0, 1) := by decide +kernel
theorem dL_isTick_550 : decode cL_isTick 550 = .ok (.iload 22, 2) := by decide +kernel
theorem dL_isTick_552 : decode cL_isTick 552 = .ok (.iconst 1, 1) := by decide +kernel
theorem dL_isTick_553 : decode cL_isTick 553 = .ok (.aload_n 3, 1) := by decide +kernel
theorem dL_isTick_554 : decode cL_isTick 554 = .ok (.iload 22, 2) := by decide +kernel
theorem dL_isTick_556 : decode cL_isTick 556 = .ok (.iaload, 1) := by decide +kernel
theorem dL_isTick_557 : decode cL_isTick 557 = .ok (.invokestatic 18, 3) := by decide +kernel
theorem dL_isTick_560 : decode cL_isTick 560 = .ok (.istore 25, 2) := by decide +kernel
theorem dL_isTick_562 : decode cL_isTick 562 = .ok (.iload 24, 2) := by decide +kernel
theorem dL_isTick_564 : decode cL_isTick 564 = .ok (.iload 25, 2) := by decide +kernel
theorem dL_isTick_566 : decode cL_isTick 566 = .ok (.if_icmp .gt 21, 3) := by decide +kernel
theorem dL_isTick_569 : decode cL_isTick 569 = .ok (.iload 24, 2) := by decide +kernel
theorem dL_isTick_571 : decode cL_isTick 571 = .ok (.iload 25, 2) := by decide +kernel
theorem dL_isTick_573 : decode cL_isTick 573 = .ok (.if_icmp .ne 19, 3) := by decide +kernel
theorem dL_isTick_576 : decode cL_isTick 576 = .ok (.aload_n 3, 1) := by decide +kernel
theorem dL_isTick_577 : decode cL_isTick 577 = .ok (.iload 23, 2) := by decide +kernel
theorem dL_isTick_579 : decode cL_isTick 579 = .ok (.iaload, 1) := by decide +kernel
theorem dL_isTick_580 : decode cL_isTick 580 = .ok (.aload_n 3, 1) := by decide +kernel
theorem dL_isTick_581 : decode cL_isTick 581 = .ok (.iload 22, 2) := by decide +kernel
theorem dL_isTick_583 : decode cL_isTick 583 = .ok (.iaload, 1) := by decide +kernel
theorem dL_isTick_584 : decode cL_isTick 584 = .ok (.if_icmp .le 8, 3) := by decide +kernel
theorem dL_isTick_587 : decode cL_isTick 587 = .ok (.iload 23, 2) := by decide +kernel
theorem dL_isTick_589 : decode cL_isTick 589 = .ok (.goto 5, 3) := by decide +kernel
theorem dL_isTick_592 : decode cL_isTick 592 = .ok (.iload 22, 2) := by decide +kernel
theorem dL_isTick_594 : decode cL_isTick 594 = .ok (.istore 22, 2) := by decide +kernel
theorem dL_isTick_596 : decode cL_isTick 596 = .ok (.iinc 23 1, 3) := by decide +kernel
theorem dL_isTick_599 : decode cL_isTick 599 = .ok (.goto (-118), 3) := by decide +kernel
theorem dL_isTick_602 : decode cL_isTick 602 = .ok (.iload 22, 2) := by decide +kernel
theorem dL_isTick_604 : decode cL_isTick 604 = .ok (.ifCond .lt 222, 3) := by decide +kernel
theorem dL_isTick_607 : decode cL_isTick 607 = .ok (.iload 17, 2) := by decide +kernel
theorem dL_isTick_609 : decode cL_isTick 609 = .ok (.aload_n 0, 1) := by decide +kernel
theorem dL_isTick_610 : decode cL_isTick 610 = .ok (.bipush 15, 2) := by decide +kernel
theorem dL_isTick_612 : decode cL_isTick 612 = .ok (.invokevirtual 14, 3) := by decide +kernel
theorem dL_isTick_615 : decode cL_isTick 615 = .ok (.if_icmp .ge 211, 3) := by decide +kernel
theorem dL_isTick_618 : decode cL_isTick 618 = .ok (.iload 17, 2) := by decide +kernel
theorem dL_isTick_620 : decode cL_isTick 620 = .ok (.ifCond .eq 31, 3) := by decide +kernel
theorem dL_isTick_623 : decode cL_isTick 623 = .ok (.aload_n 0, 1) := by decide +kernel
theorem dL_isTick_624 : decode cL_isTick 624 = .ok (.iload 22, 2) := by decide +kernel
theorem dL_isTick_626 : decode cL_isTick 626 = .ok (.iconst 1, 1) := by decide +kernel
theorem dL_isTick_627 : decode cL_isTick 627 = .ok (.aload_n 3, 1) := by decide +kernel
theorem dL_isTick_628 : decode cL_isTick 628 = .ok (.iload 22, 2) := by decide +kernel
theorem dL_isTick_630 : decode cL_isTick 630 = .ok (.iaload, 1) := by decide +kernel
theorem dL_isTick_631 : decode cL_isTick 631 = .ok (.invokestatic 18, 3) := by decide +kernel
theorem dL_isTick_634 : decode cL_isTick 634 = .ok (.aload 14, 2) := by decide +kernel
theorem dL_isTick_636 : decode cL_isTick 636 = .ok (.iload 17, 2) := by decide +kernel
theorem dL_isTick_638 : decode cL_isTick 638 = .ok (.iconst 1, 1) := by decide +kernel
theorem dL_isTick_639 : decode cL_isTick 639 = .ok (.isub, 1) := by decide +kernel
theorem dL_isTick_640 : decode cL_isTick 640 = .ok (.iaload, 1) := by decide +kernel
theorem dL_isTick_641 : decode cL_isTick 641 = .ok (.aload_n 0, 1) := by decide +kernel
theorem dL_isTick_642 : decode cL_isTick 642 = .ok (.bipush 14, 2) := by decide +kernel
theorem dL_isTick_644 : decode cL_isTick 644 = .ok (.invokevirtual 14, 3) := by decide +kernel
theorem dL_isTick_647 : decode cL_isTick 647 = .ok (.iadd, 1) := by decide +kernel
theorem dL_isTick_648 : decode cL_isTick 648 = .ok (.if_icmp .lt 178, 3) := by decide +kernel
theorem dL_isTick_651 : decode cL_isTick 651 = .ok (.aload 13, 2) := by decide +kernel
theorem dL_isTick_653 : decode cL_isTick 653 = .ok (.iload 17, 2) := by decide +kernel
theorem dL_isTick_655 : decode cL_isTick 655 = .ok (.iload 22, 2) := by decide +kernel
theorem dL_isTick_657 : decode cL_isTick 657 = .ok (.iastore, 1) := by decide +kernel
theorem dL_isTick_658 : decode cL_isTick 658 = .ok (.aload 14, 2) := by decide +kernel
theorem dL_isTick_660 : decode cL_isTick 660 = .ok (.iload 17, 2) := by decide +kernel
theorem dL_isTick_662 : decode cL_isTick 662 = .ok (.aload_n 0, 1) := by decide +kernel
theorem dL_isTick_663 : decode cL_isTick 663 = .ok (.iload 22, 2) := by decide +kernel
theorem dL_isTick_665 : decode cL_isTick 665 = .ok (.iconst 1, 1) := by decide +kernel
theorem dL_isTick_666 : decode cL_isTick 666 = .ok (.aload_n 3, 1) := by decide +kernel
theorem dL_isTick_667 : decode cL_isTick 667 = .ok (.iload 22, 2) := by decide +kernel
theorem dL_isTick_669 : decode cL_isTick 669 = .ok (.iaload, 1) := by decide +kernel
theorem dL_isTick_670 : decode cL_isTick 670 = .ok (.invokestatic 18, 3) := by decide +kernel
theorem dL_isTick_673 : decode cL_isTick 673 = .ok (.iastore, 1) := by decide +kernel
theorem dL_isTick_674 : decode cL_isTick 674 = .ok (.aload 15, 2) := by decide +kernel
theorem dL_isTick_676 : decode cL_isTick 676 = .ok (.iload 17, 2) := by decide +kernel
theorem dL_isTick_678 : decode cL_isTick 678 = .ok (.aload_n 0, 1) := by decide +kernel
theorem dL_isTick_679 : decode cL_isTick 679 = .ok (.iload 22, 2) := by decide +kernel
theorem dL_isTick_681 : decode cL_isTick 681 = .ok (.iconst 1, 1) := by decide +kernel
theorem dL_isTick_682 : decode cL_isTick 682 = .ok (.invokevirtual 8, 3) := by decide +kernel
theorem dL_isTick_685 : decode cL_isTick 685 = .ok (.aload_n 0, 1) := by decide +kernel
theorem dL_isTick_686 : decode cL_isTick 686 = .ok (.bipush 16, 2) := by decide +kernel
theorem dL_isTick_688 : decode cL_isTick 688 = .ok (.invokevirtual 14, 3) := by decide +kernel
theorem dL_isTick_691 : decode cL_isTick 691 = .ok (.iadd, 1) := by decide +kernel
theorem dL_isTick_692 : decode cL_isTick 692 = .ok (.iastore, 1) := by decide +kernel
theorem dL_isTick_693 : decode cL_isTick 693 = .ok (.iload 21, 2) := by decide +kernel
theorem dL_isTick_695 : decode cL_isTick 695 = .ok (.iload 17, 2) := by decide +kernel
theorem dL_isTick_697 : decode cL_isTick 697 = .ok (.ifCond .le 7, 3) := by decide +kernel
theorem dL_isTick_700 : decode cL_isTick 700 = .ok (.iconst 1, 1) := by decide +kernel
theorem dL_isTick_701 : decode cL_isTick 701 = .ok (.goto 4, 3) := by decide +kernel
theorem dL_isTick_704 : decode cL_isTick 704 = .ok (.iconst 0, 1) := by decide +kernel
theorem dL_isTick_705 : decode cL_isTick 705 = .ok (.iadd, 1) := by decide +kernel
theorem dL_isTick_706 : decode cL_isTick 706 = .ok (.istore 21, 2) := by decide +kernel
theorem dL_isTick_708 : decode cL_isTick 708 = .ok (.aload 5, 2) := by decide +kernel
theorem dL_isTick_710 : decode cL_isTick 710 = .ok (.iload 22, 2) := by decide +kernel
theorem dL_isTick_712 : decode cL_isTick 712 = .ok (.iload 17, 2) := by decide +kernel
theorem dL_isTick_714 : decode cL_isTick 714 = .ok (.iastore, 1) := by decide +kernel
theorem dL_isTick_715 : decode cL_isTick 715 = .ok (.iinc 17 1, 3) := by decide +kernel
theorem dL_isTick_718 : decode cL_isTick 718 = .ok (.iload 17, 2) := by decide +kernel
theorem dL_isTick_720 : decode cL_isTick 720 = .ok (.iload 20, 2) := by decide +kernel
theorem dL_isTick_722 : decode cL_isTick 722 = .ok (.if_icmp .le 8, 3) := by decide +kernel
theorem dL_isTick_725 : decode cL_isTick 725 = .ok (.iload 17, 2) := by decide +kernel
theorem dL_isTick_727 : decode cL_isTick 727 = .ok (.goto 5, 3) := by decide +kernel
theorem dL_isTick_730 : decode cL_isTick 730 = .ok (.iload 20, 2) := by decide +kernel
theorem dL_isTick_732 : decode cL_isTick 732 = .ok (.istore 20, 2) := by decide +kernel
theorem dL_isTick_734 : decode cL_isTick 734 = .ok (.aload 8, 2) := by decide +kernel
theorem dL_isTick_736 : decode cL_isTick 736 = .ok (.iload 22, 2) := by decide +kernel
theorem dL_isTick_738 : decode cL_isTick 738 = .ok (.dup2, 1) := by decide +kernel
theorem dL_isTick_739 : decode cL_isTick 739 = .ok (.iaload, 1) := by decide +kernel
theorem dL_isTick_740 : decode cL_isTick 740 = .ok (.iconst 1, 1) := by decide +kernel
theorem dL_isTick_741 : decode cL_isTick 741 = .ok (.iadd, 1) := by decide +kernel
theorem dL_isTick_742 : decode cL_isTick 742 = .ok (.iastore, 1) := by decide +kernel
theorem dL_isTick_743 : decode cL_isTick 743 = .ok (.aload 11, 2) := by decide +kernel
theorem dL_isTick_745 : decode cL_isTick 745 = .ok (.iload 22, 2) := by decide +kernel
theorem dL_isTick_747 : decode cL_isTick 747 = .ok (.dup2, 1) := by decide +kernel
theorem dL_isTick_748 : decode cL_isTick 748 = .ok (.iaload, 1) := by decide +kernel
theorem dL_isTick_749 : decode cL_isTick 749 = .ok (.aload_n 3, 1) := by decide +kernel
theorem dL_isTick_750 : decode cL_isTick 750 = .ok (.iload 22, 2) := by decide +kernel
theorem dL_isTick_752 : decode cL_isTick 752 = .ok (.iaload, 1) := by decide +kernel
theorem dL_isTick_753 : decode cL_isTick 753 = .ok (.iadd, 1) := by decide +kernel
theorem dL_isTick_754 : decode cL_isTick 754 = .ok (.iastore, 1) := by decide +kernel
theorem dL_isTick_755 : decode cL_isTick 755 = .ok (.aload 10, 2) := by decide +kernel
theorem dL_isTick_757 : decode cL_isTick 757 = .ok (.iload 22, 2) := by decide +kernel
theorem dL_isTick_759 : decode cL_isTick 759 = .ok (.aload_n 3, 1) := by decide +kernel
theorem dL_isTick_760 : decode cL_isTick 760 = .ok (.iload 22, 2) := by decide +kernel
theorem dL_isTick_762 : decode cL_isTick 762 = .ok (.iaload, 1) := by decide +kernel
theorem dL_isTick_763 : decode cL_isTick 763 = .ok (.aload 10, 2) := by decide +kernel
theorem dL_isTick_765 : decode cL_isTick 765 = .ok (.iload 22, 2) := by decide +kernel
theorem dL_isTick_767 : decode cL_isTick 767 = .ok (.iaload, 1) := by decide +kernel
theorem dL_isTick_768 : decode cL_isTick 768 = .ok (.if_icmp .le 10, 3) := by decide +kernel
theorem dL_isTick_771 : decode cL_isTick 771 = .ok (.aload_n 3, 1) := by decide +kernel
theorem dL_isTick_772 : decode cL_isTick 772 = .ok (.iload 22, 2) := by decide +kernel
theorem dL_isTick_774 : decode cL_isTick 774 = .ok (.iaload, 1) := by decide +kernel
theorem dL_isTick_775 : decode cL_isTick 775 = .ok (.goto 8, 3) := by decide +kernel
theorem dL_isTick_778 : decode cL_isTick 778 = .ok (.aload 10, 2) := by decide +kernel
theorem dL_isTick_780 : decode cL_isTick 780 = .ok (.iload 22, 2) := by decide +kernel
theorem dL_isTick_782 : decode cL_isTick 782 = .ok (.iaload, 1) := by decide +kernel
theorem dL_isTick_783 : decode cL_isTick 783 = .ok (.iastore, 1) := by decide +kernel
theorem dL_isTick_784 : decode cL_isTick 784 = .ok (.aload 12, 2) := by decide +kernel
theorem dL_isTick_786 : decode cL_isTick 786 = .ok (.iload 22, 2) := by decide +kernel
theorem dL_isTick_788 : decode cL_isTick 788 = .ok (.dup2, 1) := by decide +kernel
theorem dL_isTick_789 : decode cL_isTick 789 = .ok (.iaload, 1) := by decide +kernel
theorem dL_isTick_790 : decode cL_isTick 790 = .ok (.aload_n 0, 1) := by decide +kernel
theorem dL_isTick_791 : decode cL_isTick 791 = .ok (.iload 22, 2) := by decide +kernel
theorem dL_isTick_793 : decode cL_isTick 793 = .ok (.iconst 2, 1) := by decide +kernel
theorem dL_isTick_794 : decode cL_isTick 794 = .ok (.invokevirtual 8, 3) := by decide +kernel
theorem dL_isTick_797 : decode cL_isTick 797 = .ok (.ifCond .le 21, 3) := by decide +kernel
theorem dL_isTick_800 : decode cL_isTick 800 = .ok (.aload_n 3, 1) := by decide +kernel
theorem dL_isTick_801 : decode cL_isTick 801 = .ok (.iload 22, 2) := by decide +kernel
theorem dL_isTick_803 : decode cL_isTick 803 = .ok (.iaload, 1) := by decide +kernel
theorem dL_isTick_804 : decode cL_isTick 804 = .ok (.aload_n 0, 1) := by decide +kernel
theorem dL_isTick_805 : decode cL_isTick 805 = .ok (.iload 22, 2) := by decide +kernel
theorem dL_isTick_807 : decode cL_isTick 807 = .ok (.iconst 2, 1) := by decide +kernel
theorem dL_isTick_808 : decode cL_isTick 808 = .ok (.invokevirtual 8, 3) := by decide +kernel
theorem dL_isTick_811 : decode cL_isTick 811 = .ok (.if_icmp .le 7, 3) := by decide +kernel
theorem dL_isTick_814 : decode cL_isTick 814 = .ok (.iconst 1, 1) := by decide +kernel
theorem dL_isTick_815 : decode cL_isTick 815 = .ok (.goto 4, 3) := by decide +kernel
theorem dL_isTick_818 : decode cL_isTick 818 = .ok (.iconst 0, 1) := by decide +kernel
theorem dL_isTick_819 : decode cL_isTick 819 = .ok (.iadd, 1) := by decide +kernel
theorem dL_isTick_820 : decode cL_isTick 820 = .ok (.iastore, 1) := by decide +kernel
theorem dL_isTick_821 : decode cL_isTick 821 = .ok (.aload_n 2, 1) := by decide +kernel
theorem dL_isTick_822 : decode cL_isTick 822 = .ok (.iload 22, 2) := by decide +kernel
theorem dL_isTick_824 : decode cL_isTick 824 = .ok (.iconst 0, 1) := by decide +kernel
theorem dL_isTick_825 : decode cL_isTick 825 = .ok (.iastore, 1) := by decide +kernel
theorem dL_isTick_826 : decode cL_isTick 826 = .ok (.iload 17, 2) := by decide +kernel
theorem dL_isTick_828 : decode cL_isTick 828 = .ok (.ifCond .le 129, 3) := by decide +kernel
theorem dL_isTick_831 : decode cL_isTick 831 = .ok (.iinc 19 1, 3) := by decide +kernel
theorem dL_isTick_834 : decode cL_isTick 834 = .ok (.aload 15, 2) := by decide +kernel
theorem dL_isTick_836 : decode cL_isTick 836 = .ok (.iload 17, 2) := by decide +kernel
theorem dL_isTick_838 : decode cL_isTick 838 = .ok (.iconst 1, 1) := by decide +kernel
theorem dL_isTick_839 : decode cL_isTick 839 = .ok (.isub, 1) := by decide +kernel
theorem dL_isTick_840 : decode cL_isTick 840 = .ok (.dup2, 1) := by decide +kernel
theorem dL_isTick_841 : decode cL_isTick 841 = .ok (.iaload, 1) := by decide +kernel
theorem dL_isTick_842 : decode cL_isTick 842 = .ok (.iconst 1, 1) := by decide +kernel
theorem dL_isTick_843 : decode cL_isTick 843 = .ok (.isub, 1) := by decide +kernel
theorem dL_isTick_844 : decode cL_isTick 844 = .ok (.iastore, 1) := by decide +kernel
theorem dL_isTick_845 : decode cL_isTick 845 = .ok (.aload 15, 2) := by decide +kernel
theorem dL_isTick_847 : decode cL_isTick 847 = .ok (.iload 17, 2) := by decide +kernel
theorem dL_isTick_849 : decode cL_isTick 849 = .ok (.iconst 1, 1) := by decide +kernel
theorem dL_isTick_850 : decode cL_isTick 850 = .ok (.isub, 1) := by decide +kernel
theorem dL_isTick_851 : decode cL_isTick 851 = .ok (.iaload, 1) := by decide +kernel
theorem dL_isTick_852 : decode cL_isTick 852 = .ok (.ifCond .ne 105, 3) := by decide +kernel
theorem dL_isTick_855 : decode cL_isTick 855 = .ok (.iinc 17 (-1), 3) := by decide +kernel
theorem dL_isTick_858 : decode cL_isTick 858 = .ok (.aload 13, 2) := by decide +kernel
theorem dL_isTick_860 : decode cL_isTick 860 = .ok (.iload 17, 2) := by decide +kernel
theorem dL_isTick_862 : decode cL_isTick 862 = .ok (.iaload, 1) := by decide +kernel
theorem dL_isTick_863 : decode cL_isTick 863 = .ok (.istore 23, 2) := by decide +kernel
theorem dL_isTick_865 : decode cL_isTick 865 = .ok (.aload 9, 2) := by decide +kernel
theorem dL_isTick_867 : decode cL_isTick 867 = .ok (.iload 23, 2) := by decide +kernel
theorem dL_isTick_869 : decode cL_isTick 869 = .ok (.dup2, 1) := by decide +kernel
theorem dL_isTick_870 : decode cL_isTick 870 = .ok (.iaload, 1) := by decide +kernel
theorem dL_isTick_871 : decode cL_isTick 871 = .ok (.iconst 1, 1) := by decide +kernel
theorem dL_isTick_872 : decode cL_isTick 872 = .ok (.iadd, 1) := by decide +kernel
theorem dL_isTick_873 : decode cL_isTick 873 = .ok (.iastore, 1) := by decide +kernel
theorem dL_isTick_874 : decode cL_isTick 874 = .ok (.aload 5, 2) := by decide +kernel
theorem dL_isTick_876 : decode cL_isTick 876 = .ok (.iload 23, 2) := by decide +kernel
theorem dL_isTick_878 : decode cL_isTick 878 = .ok (.bipush (-6), 2) := by decide +kernel
theorem dL_isTick_880 : decode cL_isTick 880 = .ok (.iastore, 1) := by decide +kernel
theorem dL_isTick_881 : decode cL_isTick 881 = .ok (.aload_n 0, 1) := by decide +kernel
theorem dL_isTick_882 : decode cL_isTick 882 = .ok (.iload 23, 2) := by decide +kernel
theorem dL_isTick_884 : decode cL_isTick 884 = .ok (.iconst 3, 1) := by decide +kernel
theorem dL_isTick_885 : decode cL_isTick 885 = .ok (.invokevirtual 8, 3) := by decide +kernel
theorem dL_isTick_888 : decode cL_isTick 888 = .ok (.iconst 1, 1) := by decide +kernel
theorem dL_isTick_889 : decode cL_isTick 889 = .ok (.if_icmp .ne 68, 3) := by decide +kernel
theorem dL_isTick_892 : decode cL_isTick 892 = .ok (.iconst 0, 1) := by decide +kernel
theorem dL_isTick_893 : decode cL_isTick 893 = .ok (.istore 24, 2) := by decide +kernel
theorem dL_isTick_895 : decode cL_isTick 895 = .ok (.iload 24, 2) := by decide +kernel
theorem dL_isTick_897 : decode cL_isTick 897 = .ok (.iconst 4, 1) := by decide +kernel
theorem dL_isTick_898 : decode cL_isTick 898 = .ok (.if_icmp .ge 37, 3) := by decide +kernel
theorem dL_isTick_901 : decode cL_isTick 901 = .ok (.aload 4, 2) := by decide +kernel
theorem dL_isTick_903 : decode cL_isTick 903 = .ok (.iload 23, 2) := by decide +kernel
theorem dL_isTick_905 : decode cL_isTick 905 = .ok (.iaload, 1) := by decide +kernel
theorem dL_isTick_906 : decode cL_isTick 906 = .ok (.iload 24, 2) := by decide +kernel
theorem dL_isTick_908 : decode cL_isTick 908 = .ok (.invokestatic 30, 3) := by decide +kernel
theorem dL_isTick_911 : decode cL_isTick 911 = .ok (.ifCond .eq 18, 3) := by decide +kernel
theorem dL_isTick_914 : decode cL_isTick 914 = .ok (.aload 4, 2) := by decide +kernel
theorem dL_isTick_916 : decode cL_isTick 916 = .ok (.iload 23, 2) := by decide +kernel
theorem dL_isTick_918 : decode cL_isTick 918 = .ok (.dup2, 1) := by decide +kernel
theorem dL_isTick_919 : decode cL_isTick 919 = .ok (.iaload, 1) := by decide +kernel
theorem dL_isTick_920 : decode cL_isTick 920 = .ok (.iconst 1, 1) := by decide +kernel
theorem dL_isTick_921 : decode cL_isTick 921 = .ok (.iload 24, 2) := by decide +kernel
theorem dL_isTick_923 : decode cL_isTick 923 = .ok (.ishl, 1) := by decide +kernel
theorem dL_isTick_924 : decode cL_isTick 924 = .ok (.ixor, 1) := by decide +kernel
theorem dL_isTick_925 : decode cL_isTick 925 = .ok (.iastore, 1) := by decide +kernel
theorem dL_isTick_926 : decode cL_isTick 926 = .ok (.iconst 4, 1) := by decide +kernel
theorem dL_isTick_927 : decode cL_isTick 927 = .ok (.istore 24, 2) := by decide +kernel
theorem dL_isTick_929 : decode cL_isTick 929 = .ok (.iinc 24 1, 3) := by decide +kernel
theorem dL_isTick_932 : decode cL_isTick 932 = .ok (.goto (-37), 3) := by decide +kernel
theorem dL_isTick_935 : decode cL_isTick 935 = .ok (.aload_n 2, 1) := by decide +kernel
theorem dL_isTick_936 : decode cL_isTick 936 = .ok (.iload 23, 2) := by decide +kernel
theorem dL_isTick_938 : decode cL_isTick 938 = .ok (.aload 4, 2) := by decide +kernel
theorem dL_isTick_940 : decode cL_isTick 940 = .ok (.iload 23, 2) := by decide +kernel
theorem dL_isTick_942 : decode cL_isTick 942 = .ok (.iaload, 1) := by decide +kernel
theorem dL_isTick_943 : decode cL_isTick 943 = .ok (.ifCond .eq 7, 3) := by decide +kernel
theorem dL_isTick_946 : decode cL_isTick 946 = .ok (.iconst 1, 1) := by decide +kernel
theorem dL_isTick_947 : decode cL_isTick 947 = .ok (.goto 4, 3) := by decide +kernel
theorem dL_isTick_950 : decode cL_isTick 950 = .ok (.iconst 0, 1) := by decide +kernel
theorem dL_isTick_951 : decode cL_isTick 951 = .ok (.iastore, 1) := by decide +kernel
theorem dL_isTick_952 : decode cL_isTick 952 = .ok (.aload_n 3, 1) := by decide +kernel
theorem dL_isTick_953 : decode cL_isTick 953 = .ok (.iload 23, 2) := by decide +kernel
theorem dL_isTick_955 : decode cL_isTick 955 = .ok (.iconst 0, 1) := by decide +kernel
theorem dL_isTick_956 : decode cL_isTick 956 = .ok (.iastore, 1) := by decide +kernel
theorem dL_isTick_957 : decode cL_isTick 957 = .ok (.bipush 12, 2) := by decide +kernel
theorem dL_isTick_959 : decode cL_isTick 959 = .ok (.newarray .int, 2) := by decide +kernel
theorem dL_isTick_961 : decode cL_isTick 961 = .ok (.astore 23, 2) := by decide +kernel
theorem dL_isTick_963 : decode cL_isTick 963 = .ok (.iconst 0, 1) := by decide +kernel
theorem dL_isTick_964 : decode cL_isTick 964 = .ok (.istore 24, 2) := by decide +kernel
theorem dL_isTick_966 : decode cL_isTick 966 = .ok (.iload 24, 2) := by decide +kernel
theorem dL_isTick_968 : decode cL_isTick 968 = .ok (.iload_n 1, 1) := by decide +kernel
theorem dL_isTick_969 : decode cL_isTick 969 = .ok (.if_icmp .ge 32, 3) := by decide +kernel
theorem dL_isTick_972 : decode cL_isTick 972 = .ok (.aload_n 3, 1) := by decide +kernel
theorem dL_isTick_973 : decode cL_isTick 973 = .ok (.iload 24, 2) := by decide +kernel
theorem dL_isTick_975 : decode cL_isTick 975 = .ok (.dup2, 1) := by decide +kernel
theorem dL_isTick_976 : decode cL_isTick 976 = .ok (.iaload, 1) := by decide +kernel
theorem dL_isTick_977 : decode cL_isTick 977 = .ok (.aload_n 2, 1) := by decide +kernel
theorem dL_isTick_978 : decode cL_isTick 978 = .ok (.iload 24, 2) := by decide +kernel
theorem dL_isTick_980 : decode cL_isTick 980 = .ok (.iaload, 1) := by decide +kernel
theorem dL_isTick_981 : decode cL_isTick 981 = .ok (.iadd, 1) := by decide +kernel
theorem dL_isTick_982 : decode cL_isTick 982 = .ok (.iastore, 1) := by decide +kernel
theorem dL_isTick_983 : decode cL_isTick 983 = .ok (.aload 23, 2) := by decide +kernel
theorem dL_isTick_985 : decode cL_isTick 985 = .ok (.iload 24, 2) := by decide +kernel
theorem dL_isTick_987 : decode cL_isTick 987 = .ok (.aload_n 0, 1) := by decide +kernel
theorem dL_isTick_988 : decode cL_isTick 988 = .ok (.iload 24, 2) := by decide +kernel
theorem dL_isTick_990 : decode cL_isTick 990 = .ok (.iconst 4, 1) := by decide +kernel
theorem dL_isTick_991 : decode cL_isTick 991 = .ok (.invokevirtual 8, 3) := by decide +kernel
theorem dL_isTick_994 : decode cL_isTick 994 = .ok (.iastore, 1) := by decide +kernel
theorem dL_isTick_995 : decode cL_isTick 995 = .ok (.iinc 24 1, 3) := by decide +kernel
theorem dL_isTick_998 : decode cL_isTick 998 = .ok (.goto (-32), 3) := by decide +kernel
theorem dL_isTick_1001 : decode cL_isTick 1001 = .ok (.aload_n 0, 1) := by decide +kernel
theorem dL_isTick_1002 : decode cL_isTick 1002 = .ok (.iconst 1, 1) := by decide +kernel
theorem dL_isTick_1003 : decode cL_isTick 1003 = .ok (.invokevirtual 34, 3) := by decide +kernel
theorem dL_isTick_1006 : decode cL_isTick 1006 = .ok (.iload 18, 2) := by decide +kernel
theorem dL_isTick_1008 : decode cL_isTick 1008 = .ok (.iconst 1, 1) := by decide +kernel
theorem dL_isTick_1009 : decode cL_isTick 1009 = .ok (.iadd, 1) := by decide +kernel
theorem dL_isTick_1010 : decode cL_isTick 1010 = .ok (.if_icmp .ne 58, 3) := by decide +kernel
theorem dL_isTick_1013 : decode cL_isTick 1013 = .ok (.aload_n 0, 1) := by decide +kernel
theorem dL_isTick_1014 : decode cL_isTick 1014 = .ok (.iconst 0, 1) := by decide +kernel
theorem dL_isTick_1015 : decode cL_isTick 1015 = .ok (.invokevirtual 14, 3) := by decide +kernel
theorem dL_isTick_1018 : decode cL_isTick 1018 = .ok (.iload 18, 2) := by decide +kernel
theorem dL_isTick_1020 : decode cL_isTick 1020 = .ok (.iconst 1, 1) := by decide +kernel
theorem dL_isTick_1021 : decode cL_isTick 1021 = .ok (.iadd, 1) := by decide +kernel
theorem dL_isTick_1022 : decode cL_isTick 1022 = .ok (.if_icmp .ne 46, 3) := by decide +kernel
theorem dL_isTick_1025 : decode cL_isTick 1025 = .ok (.aload_n 0, 1) := by decide +kernel
theorem dL_isTick_1026 : decode cL_isTick 1026 = .ok (.iconst 3, 1) := by decide +kernel
theorem dL_isTick_1027 : decode cL_isTick 1027 = .ok (.invokevirtual 14, 3) := by decide +kernel
theorem dL_isTick_1030 : decode cL_isTick 1030 = .ok (.iload 17, 2) := by decide +kernel
theorem dL_isTick_1032 : decode cL_isTick 1032 = .ok (.if_icmp .ne 36, 3) := by decide +kernel
theorem dL_isTick_1035 : decode cL_isTick 1035 = .ok (.aload_n 0, 1) := by decide +kernel
theorem dL_isTick_1036 : decode cL_isTick 1036 = .ok (.bipush 6, 2) := by decide +kernel
theorem dL_isTick_1038 : decode cL_isTick 1038 = .ok (.invokevirtual 14, 3) := by decide +kernel
theorem dL_isTick_1041 : decode cL_isTick 1041 = .ok (.iload 19, 2) := by decide +kernel
theorem dL_isTick_1043 : decode cL_isTick 1043 = .ok (.if_icmp .ne 25, 3) := by decide +kernel
theorem dL_isTick_1046 : decode cL_isTick 1046 = .ok (.aload_n 0, 1) := by decide +kernel
theorem dL_isTick_1047 : decode cL_isTick 1047 = .ok (.bipush 7, 2) := by decide +kernel
theorem dL_isTick_1049 : decode cL_isTick 1049 = .ok (.invokevirtual 14, 3) := by decide +kernel
theorem dL_isTick_1052 : decode cL_isTick 1052 = .ok (.iload 20, 2) := by decide +kernel
theorem dL_isTick_1054 : decode cL_isTick 1054 = .ok (.if_icmp .ne 14, 3) := by decide +kernel
theorem dL_isTick_1057 : decode cL_isTick 1057 = .ok (.aload_n 0, 1) := by decide +kernel
theorem dL_isTick_1058 : decode cL_isTick 1058 = .ok (.bipush 9, 2) := by decide +kernel
theorem dL_isTick_1060 : decode cL_isTick 1060 = .ok (.invokevirtual 14, 3) := by decide +kernel
theorem dL_isTick_1063 : decode cL_isTick 1063 = .ok (.iload 21, 2) := by decide +kernel
theorem dL_isTick_1065 : decode cL_isTick 1065 = .ok (.if_icmp .eq 5, 3) := by decide +kernel
theorem dL_isTick_1068 : decode cL_isTick 1068 = .ok (.iconst 0, 1) := by decide +kernel
theorem dL_isTick_1069 : decode cL_isTick 1069 = .ok (.ireturn, 1) := by decide +kernel
theorem dL_isTick_1070 : decode cL_isTick 1070 = .ok (.iconst 0, 1) := by decide +kernel
theorem dL_isTick_1071 : decode cL_isTick 1071 = .ok (.istore 24, 2) := by decide +kernel
theorem dL_isTick_1073 : decode cL_isTick 1073 = .ok (.iload 24, 2) := by decide +kernel
theorem dL_isTick_1075 : decode cL_isTick 1075 = .ok (.iload_n 1, 1) := by decide +kernel
theorem dL_isTick_1076 : decode cL_isTick 1076 = .ok (.if_icmp .ge 230, 3) := by decide +kernel
theorem dL_isTick_1079 : decode cL_isTick 1079 = .ok (.aload_n 0, 1) := by decide +kernel
theorem dL_isTick_1080 : decode cL_isTick 1080 = .ok (.iload 24, 2) := by decide +kernel
theorem dL_isTick_1082 : decode cL_isTick 1082 = .ok (.iconst 5, 1) := by decide +kernel
theorem dL_isTick_1083 : decode cL_isTick 1083 = .ok (.invokevirtual 8, 3) := by decide +kernel
theorem dL_isTick_1086 : decode cL_isTick 1086 = .ok (.aload_n 2, 1) := by decide +kernel
theorem dL_isTick_1087 : decode cL_isTick 1087 = .ok (.iload 24, 2) := by decide +kernel
theorem dL_isTick_1089 : decode cL_isTick 1089 = .ok (.iaload, 1) := by decide +kernel
theorem dL_isTick_1090 : decode cL_isTick 1090 = .ok (.if_icmp .ne 76, 3) := by decide +kernel
theorem dL_isTick_1093 : decode cL_isTick 1093 = .ok (.aload_n 2, 1) := by decide +kernel
theorem dL_isTick_1094 : decode cL_isTick 1094 = .ok (.iload 24, 2) := by decide +kernel
theorem dL_isTick_1096 : decode cL_isTick 1096 = .ok (.iaload, 1) := by decide +kernel
theorem dL_isTick_1097 : decode cL_isTick 1097 = .ok (.ifCond .eq 18, 3) := by decide +kernel
theorem dL_isTick_1100 : decode cL_isTick 1100 = .ok (.aload_n 0, 1) := by decide +kernel
theorem dL_isTick_1101 : decode cL_isTick 1101 = .ok (.iload 24, 2) := by decide +kernel
theorem dL_isTick_1103 : decode cL_isTick 1103 = .ok (.bipush 6, 2) := by decide +kernel
theorem dL_isTick_1105 : decode cL_isTick 1105 = .ok (.invokevirtual 8, 3) := by decide +kernel
theorem dL_isTick_1108 : decode cL_isTick 1108 = .ok (.aload_n 3, 1) := by decide +kernel
theorem dL_isTick_1109 : decode cL_isTick 1109 = .ok (.iload 24, 2) := by decide +kernel
theorem dL_isTick_1111 : decode cL_isTick 1111 = .ok (.iaload, 1) := by decide +kernel
theorem dL_isTick_1112 : decode cL_isTick 1112 = .ok (.if_icmp .ne 54, 3) := by decide +kernel
theorem dL_isTick_1115 : decode cL_isTick 1115 = .ok (.aload_n 0, 1) := by decide +kernel
theorem dL_isTick_1116 : decode cL_isTick 1116 = .ok (.iload 24, 2) := by decide +kernel
theorem dL_isTick_1118 : decode cL_isTick 1118 = .ok (.bipush 8, 2) := by decide +kernel
theorem dL_isTick_1120 : decode cL_isTick 1120 = .ok (.invokevirtual 8, 3) := by decide +kernel
theorem dL_isTick_1123 : decode cL_isTick 1123 = .ok (.aload 5, 2) := by decide +kernel
theorem dL_isTick_1125 : decode cL_isTick 1125 = .ok (.iload 24, 2) := by decide +kernel
theorem dL_isTick_1127 : decode cL_isTick 1127 = .ok (.iaload, 1) := by decide +kernel
theorem dL_isTick_1128 : decode cL_isTick 1128 = .ok (.if_icmp .ne 38, 3) := by decide +kernel
theorem dL_isTick_1131 : decode cL_isTick 1131 = .ok (.aload_n 0, 1) := by decide +kernel
theorem dL_isTick_1132 : decode cL_isTick 1132 = .ok (.iload 24, 2) := by decide +kernel
theorem dL_isTick_1134 : decode cL_isTick 1134 = .ok (.bipush 9, 2) := by decide +kernel
theorem dL_isTick_1136 : decode cL_isTick 1136 = .ok (.invokevirtual 8, 3) := by decide +kernel
theorem dL_isTick_1139 : decode cL_isTick 1139 = .ok (.aload 4, 2) := by decide +kernel
theorem dL_isTick_1141 : decode cL_isTick 1141 = .ok (.iload 24, 2) := by decide +kernel
theorem dL_isTick_1143 : decode cL_isTick 1143 = .ok (.iaload, 1) := by decide +kernel
theorem dL_isTick_1144 : decode cL_isTick 1144 = .ok (.if_icmp .ne 22, 3) := by decide +kernel
theorem dL_isTick_1147 : decode cL_isTick 1147 = .ok (.aload_n 0, 1) := by decide +kernel
theorem dL_isTick_1148 : decode cL_isTick 1148 = .ok (.iload 24, 2) := by decide +kernel
theorem dL_isTick_1150 : decode cL_isTick 1150 = .ok (.iconst 4, 1) := by decide +kernel
theorem dL_isTick_1151 : decode cL_isTick 1151 = .ok (.invokevirtual 8, 3) := by decide +kernel
theorem dL_isTick_1154 : decode cL_isTick 1154 = .ok (.aload 23, 2) := by decide +kernel
theorem dL_isTick_1156 : decode cL_isTick 1156 = .ok (.iload 24, 2) := by decide +kernel
theorem dL_isTick_1158 : decode cL_isTick 1158 = .ok (.iaload, 1) := by decide +kernel
theorem dL_isTick_1159 : decode cL_isTick 1159 = .ok (.if_icmp .ne 7, 3) := by decide +kernel
theorem dL_isTick_1162 : decode cL_isTick 1162 = .ok (.iconst 1, 1) := by decide +kernel
theorem dL_isTick_1163 : decode cL_isTick 1163 = .ok (.goto 4, 3) := by decide +kernel
theorem dL_isTick_1166 : decode cL_isTick 1166 = .ok (.iconst 0, 1) := by decide +kernel
theorem dL_isTick_1167 : decode cL_isTick 1167 = .ok (.istore 25, 2) := by decide +kernel
theorem dL_isTick_1169 : decode cL_isTick 1169 = .ok (.aload_n 0, 1) := by decide +kernel
theorem dL_isTick_1170 : decode cL_isTick 1170 = .ok (.iload 24, 2) := by decide +kernel
theorem dL_isTick_1172 : decode cL_isTick 1172 = .ok (.bipush 10, 2) := by decide +kernel
theorem dL_isTick_1174 : decode cL_isTick 1174 = .ok (.invokevirtual 8, 3) := by decide +kernel
theorem dL_isTick_1177 : decode cL_isTick 1177 = .ok (.aload 6, 2) := by decide +kernel
theorem dL_isTick_1179 : decode cL_isTick 1179 = .ok (.iload 24, 2) := by decide +kernel
theorem dL_isTick_1181 : decode cL_isTick 1181 = .ok (.iaload, 1) := by decide +kernel
theorem dL_isTick_1182 : decode cL_isTick 1182 = .ok (.if_icmp .ne 103, 3) := by decide +kernel
theorem dL_isTick_1185 : decode cL_isTick 1185 = .ok (.aload_n 0, 1) := by decide +kernel
theorem dL_isTick_1186 : decode cL_isTick 1186 = .ok (.iload 24, 2) := by decide +kernel
theorem dL_isTick_1188 : decode cL_isTick 1188 = .ok (.bipush 11, 2) := by decide +kernel
theorem dL_isTick_1190 : decode cL_isTick 1190 = .ok (.invokevirtual 8, 3) := by decide +kernel
theorem dL_isTick_1193 : decode cL_isTick 1193 = .ok (.aload 7, 2) := by decide +kernel
theorem dL_isTick_1195 : decode cL_isTick 1195 = .ok (.iload 24, 2) := by decide +kernel
theorem dL_isTick_1197 : decode cL_isTick 1197 = .ok (.iaload, 1) := by decide +kernel
theorem dL_isTick_1198 : decode cL_isTick 1198 = .ok (.if_icmp .ne 87, 3) := by decide +kernel
theorem dL_isTick_1201 : decode cL_isTick 1201 = .ok (.aload_n 0, 1) := by decide +kernel
theorem dL_isTick_1202 : decode cL_isTick 1202 = .ok (.iload 24, 2) := by decide +kernel
theorem dL_isTick_1204 : decode cL_isTick 1204 = .ok (.bipush 12, 2) := by decide +kernel
theorem dL_isTick_1206 : decode cL_isTick 1206 = .ok (.invokevirtual 8, 3) := by decide +kernel
theorem dL_isTick_1209 : decode cL_isTick 1209 = .ok (.aload 8, 2) := by decide +kernel
theorem dL_isTick_1211 : decode cL_isTick 1211 = .ok (.iload 24, 2) := by decide +kernel
theorem dL_isTick_1213 : decode cL_isTick 1213 = .ok (.iaload, 1) := by decide +kernel
theorem dL_isTick_1214 : decode cL_isTick 1214 = .ok (.if_icmp .ne 71, 3) := by decide +kernel
theorem dL_isTick_1217 : decode cL_isTick 1217 = .ok (.aload_n 0, 1) := by decide +kernel
theorem dL_isTick_1218 : decode cL_isTick 1218 = .ok (.iload 24, 2) := by decide +kernel
theorem dL_isTick_1220 : decode cL_isTick 1220 = .ok (.bipush 13, 2) := by decide +kernel
theorem dL_isTick_1222 : decode cL_isTick 1222 = .ok (.invokevirtual 8, 3) := by decide +kernel
theorem dL_isTick_1225 : decode cL_isTick 1225 = .ok (.aload 9, 2) := by decide +kernel
theorem dL_isTick_1227 : decode cL_isTick 1227 = .ok (.iload 24, 2) := by decide +kernel
theorem dL_isTick_1229 : decode cL_isTick 1229 = .ok (.iaload, 1) := by decide +kernel
theorem dL_isTick_1230 : decode cL_isTick 1230 = .ok (.if_icmp .ne 55, 3) := by decide +kernel
theorem dL_isTick_1233 : decode cL_isTick 1233 = .ok (.aload_n 0, 1) := by decide +kernel
theorem dL_isTick_1234 : decode cL_isTick 1234 = .ok (.iload 24, 2) := by decide +kernel
theorem dL_isTick_1236 : decode cL_isTick 1236 = .ok (.bipush 14, 2) := by decide +kernel
theorem dL_isTick_1238 : decode cL_isTick 1238 = .ok (.invokevirtual 8, 3) := by decide +kernel
theorem dL_isTick_1241 : decode cL_isTick 1241 = .ok (.aload 10, 2) := by decide +kernel
theorem dL_isTick_1243 : decode cL_isTick 1243 = .ok (.iload 24, 2) := by decide +kernel
theorem dL_isTick_1245 : decode cL_isTick 1245 = .ok (.iaload, 1) := by decide +kernel
theorem dL_isTick_1246 : decode cL_isTick 1246 = .ok (.if_icmp .ne 39, 3) := by decide +kernel
theorem dL_isTick_1249 : decode cL_isTick 1249 = .ok (.aload_n 0, 1) := by decide +kernel
theorem dL_isTick_1250 : decode cL_isTick 1250 = .ok (.iload 24, 2) := by decide +kernel
theorem dL_isTick_1252 : decode cL_isTick 1252 = .ok (.bipush 15, 2) := by decide +kernel
theorem dL_isTick_1254 : decode cL_isTick 1254 = .ok (.invokevirtual 8, 3) := by decide +kernel
theorem dL_isTick_1257 : decode cL_isTick 1257 = .ok (.aload 11, 2) := by decide +kernel
theorem dL_isTick_1259 : decode cL_isTick 1259 = .ok (.iload 24, 2) := by decide +kernel
theorem dL_isTick_1261 : decode cL_isTick 1261 = .ok (.iaload, 1) := by decide +kernel
theorem dL_isTick_1262 : decode cL_isTick 1262 = .ok (.if_icmp .ne 23, 3) := by decide +kernel
theorem dL_isTick_1265 : decode cL_isTick 1265 = .ok (.aload_n 0, 1) := by decide +kernel
theorem dL_isTick_1266 : decode cL_isTick 1266 = .ok (.iload 24, 2) := by decide +kernel
theorem dL_isTick_1268 : decode cL_isTick 1268 = .ok (.bipush 16, 2) := by decide +kernel
theorem dL_isTick_1270 : decode cL_isTick 1270 = .ok (.invokevirtual 8, 3) := by decide +kernel
theorem dL_isTick_1273 : decode cL_isTick 1273 = .ok (.aload 12, 2) := by decide +kernel
theorem dL_isTick_1275 : decode cL_isTick 1275 = .ok (.iload 24, 2) := by decide +kernel
theorem dL_isTick_1277 : decode cL_isTick 1277 = .ok (.iaload, 1) := by decide +kernel
theorem dL_isTick_1278 : decode cL_isTick 1278 = .ok (.if_icmp .ne 7, 3) := by decide +kernel
theorem dL_isTick_1281 : decode cL_isTick 1281 = .ok (.iconst 1, 1) := by decide +kernel
theorem dL_isTick_1282 : decode cL_isTick 1282 = .ok (.goto 4, 3) := by decide +kernel
theorem dL_isTick_1285 : decode cL_isTick 1285 = .ok (.iconst 0, 1) := by decide +kernel
theorem dL_isTick_1286 : decode cL_isTick 1286 = .ok (.istore 26, 2) := by decide +kernel
theorem dL_isTick_1288 : decode cL_isTick 1288 = .ok (.iload 25, 2) := by decide +kernel
theorem dL_isTick_1290 : decode cL_isTick 1290 = .ok (.ifCond .eq 8, 3) := by decide +kernel
theorem dL_isTick_1293 : decode cL_isTick 1293 = .ok (.iload 26, 2) := by decide +kernel
theorem dL_isTick_1295 : decode cL_isTick 1295 = .ok (.ifCond .ne 5, 3) := by decide +kernel
theorem dL_isTick_1298 : decode cL_isTick 1298 = .ok (.iconst 0, 1) := by decide +kernel
theorem dL_isTick_1299 : decode cL_isTick 1299 = .ok (.ireturn, 1) := by decide +kernel
theorem dL_isTick_1300 : decode cL_isTick 1300 = .ok (.iinc 24 1, 3) := by decide +kernel
theorem dL_isTick_1303 : decode cL_isTick 1303 = .ok (.goto (-230), 3) := by decide +kernel
theorem dL_isTick_1306 : decode cL_isTick 1306 = .ok (.iconst 0, 1) := by decide +kernel
theorem dL_isTick_1307 : decode cL_isTick 1307 = .ok (.istore 24, 2) := by decide +kernel
theorem dL_isTick_1309 : decode cL_isTick 1309 = .ok (.iload 24, 2) := by decide +kernel
theorem dL_isTick_1311 : decode cL_isTick 1311 = .ok (.iload 17, 2) := by decide +kernel
theorem dL_isTick_1313 : decode cL_isTick 1313 = .ok (.if_icmp .ge 56, 3) := by decide +kernel
theorem dL_isTick_1316 : decode cL_isTick 1316 = .ok (.aload_n 0, 1) := by decide +kernel
theorem dL_isTick_1317 : decode cL_isTick 1317 = .ok (.iload 24, 2) := by decide +kernel
theorem dL_isTick_1319 : decode cL_isTick 1319 = .ok (.iconst 0, 1) := by decide +kernel
theorem dL_isTick_1320 : decode cL_isTick 1320 = .ok (.invokevirtual 24, 3) := by decide +kernel
theorem dL_isTick_1323 : decode cL_isTick 1323 = .ok (.aload 13, 2) := by decide +kernel
theorem dL_isTick_1325 : decode cL_isTick 1325 = .ok (.iload 24, 2) := by decide +kernel
theorem dL_isTick_1327 : decode cL_isTick 1327 = .ok (.iaload, 1) := by decide +kernel
theorem dL_isTick_1328 : decode cL_isTick 1328 = .ok (.if_icmp .ne 33, 3) := by decide +kernel
theorem dL_isTick_1331 : decode cL_isTick 1331 = .ok (.aload_n 0, 1) := by decide +kernel
theorem dL_isTick_1332 : decode cL_isTick 1332 = .ok (.iload 24, 2) := by decide +kernel
theorem dL_isTick_1334 : decode cL_isTick 1334 = .ok (.iconst 1, 1) := by decide +kernel
theorem dL_isTick_1335 : decode cL_isTick 1335 = .ok (.invokevirtual 24, 3) := by decide +kernel
theorem dL_isTick_1338 : decode cL_isTick 1338 = .ok (.aload 14, 2) := by decide +kernel
theorem dL_isTick_1340 : decode cL_isTick 1340 = .ok (.iload 24, 2) := by decide +kernel
theorem dL_isTick_1342 : decode cL_isTick 1342 = .ok (.iaload, 1) := by decide +kernel
theorem dL_isTick_1343 : decode cL_isTick 1343 = .ok (.if_icmp .ne 18, 3) := by decide +kernel
theorem dL_isTick_1346 : decode cL_isTick 1346 = .ok (.aload_n 0, 1) := by decide +kernel
theorem dL_isTick_1347 : decode cL_isTick 1347 = .ok (.iload 24, 2) := by decide +kernel
theorem dL_isTick_1349 : decode cL_isTick 1349 = .ok (.iconst 2, 1) := by decide +kernel
theorem dL_isTick_1350 : decode cL_isTick 1350 = .ok (.invokevirtual 24, 3) := by decide +kernel
theorem dL_isTick_1353 : decode cL_isTick 1353 = .ok (.aload 15, 2) := by decide +kernel
theorem dL_isTick_1355 : decode cL_isTick 1355 = .ok (.iload 24, 2) := by decide +kernel
theorem dL_isTick_1357 : decode cL_isTick 1357 = .ok (.iaload, 1) := by decide +kernel
theorem dL_isTick_1358 : decode cL_isTick 1358 = .ok (.if_icmp .eq 5, 3) := by decide +kernel
theorem dL_isTick_1361 : decode cL_isTick 1361 = .ok (.iconst 0, 1) := by decide +kernel
theorem dL_isTick_1362 : decode cL_isTick 1362 = .ok (.ireturn, 1) := by decide +kernel
theorem dL_isTick_1363 : decode cL_isTick 1363 = .ok (.iinc 24 1, 3) := by decide +kernel
theorem dL_isTick_1366 : decode cL_isTick 1366 = .ok (.goto (-57), 3) := by decide +kernel
theorem dL_isTick_1369 : decode cL_isTick 1369 = .ok (.iconst 0, 1) := by decide +kernel
theorem dL_isTick_1370 : decode cL_isTick 1370 = .ok (.istore 24, 2) := by decide +kernel
theorem dL_isTick_1372 : decode cL_isTick 1372 = .ok (.iload 24, 2) := by decide +kernel
theorem dL_isTick_1374 : decode cL_isTick 1374 = .ok (.aload_n 0, 1) := by decide +kernel
theorem dL_isTick_1375 : decode cL_isTick 1375 = .ok (.iconst 2, 1) := by decide +kernel
theorem dL_isTick_1376 : decode cL_isTick 1376 = .ok (.invokevirtual 14, 3) := by decide +kernel
theorem dL_isTick_1379 : decode cL_isTick 1379 = .ok (.if_icmp .ge 26, 3) := by decide +kernel
theorem dL_isTick_1382 : decode cL_isTick 1382 = .ok (.aload_n 0, 1) := by decide +kernel
theorem dL_isTick_1383 : decode cL_isTick 1383 = .ok (.iload 24, 2) := by decide +kernel
theorem dL_isTick_1385 : decode cL_isTick 1385 = .ok (.iconst 2, 1) := by decide +kernel
theorem dL_isTick_1386 : decode cL_isTick 1386 = .ok (.invokevirtual 27, 3) := by decide +kernel
theorem dL_isTick_1389 : decode cL_isTick 1389 = .ok (.aload 16, 2) := by decide +kernel
theorem dL_isTick_1391 : decode cL_isTick 1391 = .ok (.iload 24, 2) := by decide +kernel
theorem dL_isTick_1393 : decode cL_isTick 1393 = .ok (.iaload, 1) := by decide +kernel
theorem dL_isTick_1394 : decode cL_isTick 1394 = .ok (.if_icmp .eq 5, 3) := by decide +kernel
theorem dL_isTick_1397 : decode cL_isTick 1397 = .ok (.iconst 0, 1) := by decide +kernel
theorem dL_isTick_1398 : decode cL_isTick 1398 = .ok (.ireturn, 1) := by decide +kernel
theorem dL_isTick_1399 : decode cL_isTick 1399 = .ok (.iinc 24 1, 3) := by decide +kernel
theorem dL_isTick_1402 : decode cL_isTick 1402 = .ok (.goto (-30), 3) := by decide +kernel
theorem dL_isTick_1405 : decode cL_isTick 1405 = .ok (.iconst 1, 1) := by decide +kernel
theorem dL_isTick_1406 : decode cL_isTick 1406 = .ok (.ireturn, 1) := by decide +kernel
theorem dL_isRaised_0 : decode cL_isRaised 0 = .ok (.aload_n 0, 1) := by decide +kernel
theorem dL_isRaised_1 : decode cL_isRaised 1 = .ok (.iload_n 1, 1) := by decide +kernel
theorem dL_isRaised_2 : decode cL_isRaised 2 = .ok (.iconst 5, 1) := by decide +kernel
theorem dL_isRaised_3 : decode cL_isRaised 3 = .ok (.invokevirtual 8, 3) := by decide +kernel
theorem dL_isRaised_6 : decode cL_isRaised 6 = .ok (.istore_n 2, 1) := by decide +kernel
theorem dL_isRaised_7 : decode cL_isRaised 7 = .ok (.aload_n 0, 1) := by decide +kernel
theorem dL_isRaised_8 : decode cL_isRaised 8 = .ok (.iload_n 1, 1) := by decide +kernel
theorem dL_isRaised_9 : decode cL_isRaised 9 = .ok (.bipush 10, 2) := by decide +kernel
theorem dL_isRaised_11 : decode cL_isRaised 11 = .ok (.invokevirtual 8, 3) := by decide +kernel
theorem dL_isRaised_14 : decode cL_isRaised 14 = .ok (.istore_n 3, 1) := by decide +kernel
theorem dL_isRaised_15 : decode cL_isRaised 15 = .ok (.aload_n 0, 1) := by decide +kernel
theorem dL_isRaised_16 : decode cL_isRaised 16 = .ok (.iload_n 1, 1) := by decide +kernel
theorem dL_isRaised_17 : decode cL_isRaised 17 = .ok (.bipush 11, 2) := by decide +kernel
theorem dL_isRaised_19 : decode cL_isRaised 19 = .ok (.invokevirtual 8, 3) := by decide +kernel
theorem dL_isRaised_22 : decode cL_isRaised 22 = .ok (.istore 4, 2) := by decide +kernel
theorem dL_isRaised_24 : decode cL_isRaised 24 = .ok (.aload_n 0, 1) := by decide +kernel
theorem dL_isRaised_25 : decode cL_isRaised 25 = .ok (.iload_n 1, 1) := by decide +kernel
theorem dL_isRaised_26 : decode cL_isRaised 26 = .ok (.bipush 6, 2) := by decide +kernel
theorem dL_isRaised_28 : decode cL_isRaised 28 = .ok (.invokevirtual 8, 3) := by decide +kernel
theorem dL_isRaised_31 : decode cL_isRaised 31 = .ok (.istore 5, 2) := by decide +kernel
theorem dL_isRaised_33 : decode cL_isRaised 33 = .ok (.iload_n 2, 1) := by decide +kernel
theorem dL_isRaised_34 : decode cL_isRaised 34 = .ok (.ifCond .ne 26, 3) := by decide +kernel
theorem dL_isRaised_37 : decode cL_isRaised 37 = .ok (.aload_n 0, 1) := by decide +kernel
theorem dL_isRaised_38 : decode cL_isRaised 38 = .ok (.iload_n 1, 1) := by decide +kernel
theorem dL_isRaised_39 : decode cL_isRaised 39 = .ok (.iconst 4, 1) := by decide +kernel
theorem dL_isRaised_40 : decode cL_isRaised 40 = .ok (.invokevirtual 8, 3) := by decide +kernel
theorem dL_isRaised_43 : decode cL_isRaised 43 = .ok (.ifCond .eq 13, 3) := by decide +kernel
theorem dL_isRaised_46 : decode cL_isRaised 46 = .ok (.aload_n 0, 1) := by decide +kernel
theorem dL_isRaised_47 : decode cL_isRaised 47 = .ok (.bipush 17, 2) := by decide +kernel
theorem dL_isRaised_49 : decode cL_isRaised 49 = .ok (.invokevirtual 14, 3) := by decide +kernel
theorem dL_isRaised_52 : decode cL_isRaised 52 = .ok (.iconst 1, 1) := by decide +kernel
theorem dL_isRaised_53 : decode cL_isRaised 53 = .ok (.if_icmp .ne 7, 3) := by decide +kernel
theorem dL_isRaised_56 : decode cL_isRaised 56 = .ok (.iconst 1, 1) := by decide +kernel
theorem dL_isRaised_57 : decode cL_isRaised 57 = .ok (.goto 4, 3) := by decide +kernel
theorem dL_isRaised_60 : decode cL_isRaised 60 = .ok (.iconst 0, 1) := by decide +kernel
theorem dL_isRaised_61 : decode cL_isRaised 61 = .ok (.istore 6, 2) := by decide +kernel
theorem dL_isRaised_63 : decode cL_isRaised 63 = .ok (.aload_n 0, 1) := by decide +kernel
theorem dL_isRaised_64 : decode cL_isRaised 64 = .ok (.iload_n 1, 1) := by decide +kernel
theorem dL_isRaised_65 : decode cL_isRaised 65 = .ok (.invokevirtual 37, 3) := by decide +kernel
theorem dL_isRaised_68 : decode cL_isRaised 68 = .ok (.istore 7, 2) := by decide +kernel
theorem dL_isRaised_70 : decode cL_isRaised 70 = .ok (.aload_n 0, 1) := by decide +kernel
theorem dL_isRaised_71 : decode cL_isRaised 71 = .ok (.iload_n 1, 1) := by decide +kernel
theorem dL_isRaised_72 : decode cL_isRaised 72 = .ok (.iconst 3, 1) := by decide +kernel
theorem dL_isRaised_73 : decode cL_isRaised 73 = .ok (.invokevirtual 8, 3) := by decide +kernel
theorem dL_isRaised_76 : decode cL_isRaised 76 = .ok (.iconst 1, 1) := by decide +kernel
theorem dL_isRaised_77 : decode cL_isRaised 77 = .ok (.if_icmp .ne 26, 3) := by decide +kernel
theorem dL_isRaised_80 : decode cL_isRaised 80 = .ok (.iload 7, 2) := by decide +kernel
theorem dL_isRaised_82 : decode cL_isRaised 82 = .ok (.bipush (-5), 2) := by decide +kernel
theorem dL_isRaised_84 : decode cL_isRaised 84 = .ok (.if_icmp .ne 17, 3) := by decide +kernel
theorem dL_isRaised_87 : decode cL_isRaised 87 = .ok (.aload_n 0, 1) := by decide +kernel
theorem dL_isRaised_88 : decode cL_isRaised 88 = .ok (.iload_n 1, 1) := by decide +kernel
theorem dL_isRaised_89 : decode cL_isRaised 89 = .ok (.iconst 5, 1) := by decide +kernel
theorem dL_isRaised_90 : decode cL_isRaised 90 = .ok (.invokevirtual 8, 3) := by decide +kernel
theorem dL_isRaised_93 : decode cL_isRaised 93 = .ok (.iload_n 2, 1) := by decide +kernel
theorem dL_isRaised_94 : decode cL_isRaised 94 = .ok (.if_icmp .ne 7, 3) := by decide +kernel
theorem dL_isRaised_97 : decode cL_isRaised 97 = .ok (.iconst 1, 1) := by decide +kernel
theorem dL_isRaised_98 : decode cL_isRaised 98 = .ok (.goto 4, 3) := by decide +kernel
theorem dL_isRaised_101 : decode cL_isRaised 101 = .ok (.iconst 0, 1) := by decide +kernel
theorem dL_isRaised_102 : decode cL_isRaised 102 = .ok (.ireturn, 1) := by decide +kernel
theorem dL_isRaised_103 : decode cL_isRaised 103 = .ok (.iload 7, 2) := by decide +kernel
theorem dL_isRaised_105 : decode cL_isRaised 105 = .ok (.iload 6, 2) := by decide +kernel
theorem dL_isRaised_107 : decode cL_isRaised 107 = .ok (.ifCond .eq 7, 3) := by decide +kernel
theorem dL_isRaised_110 : decode cL_isRaised 110 = .ok (.iconst 1, 1) := by decide +kernel
theorem dL_isRaised_111 : decode cL_isRaised 111 = .ok (.goto 4, 3) := by decide +kernel
theorem dL_isRaised_114 : decode cL_isRaised 114 = .ok (.iconst 0, 1) := by decide +kernel
theorem dL_isRaised_115 : decode cL_isRaised 115 = .ok (.if_icmp .ne 64, 3) := by decide +kernel
theorem dL_isRaised_118 : decode cL_isRaised 118 = .ok (.aload_n 0, 1) := by decide +kernel
theorem dL_isRaised_119 : decode cL_isRaised 119 = .ok (.iload_n 1, 1) := by decide +kernel
theorem dL_isRaised_120 : decode cL_isRaised 120 = .ok (.bipush 10, 2) := by decide +kernel
theorem dL_isRaised_122 : decode cL_isRaised 122 = .ok (.invokevirtual 8, 3) := by decide +kernel
theorem dL_isRaised_125 : decode cL_isRaised 125 = .ok (.iload_n 3, 1) := by decide +kernel
theorem dL_isRaised_126 : decode cL_isRaised 126 = .ok (.iconst 1, 1) := by decide +kernel
theorem dL_isRaised_127 : decode cL_isRaised 127 = .ok (.iadd, 1) := by decide +kernel
theorem dL_isRaised_128 : decode cL_isRaised 128 = .ok (.if_icmp .ne 51, 3) := by decide +kernel
theorem dL_isRaised_131 : decode cL_isRaised 131 = .ok (.aload_n 0, 1) := by decide +kernel
theorem dL_isRaised_132 : decode cL_isRaised 132 = .ok (.iload_n 1, 1) := by decide +kernel
theorem dL_isRaised_133 : decode cL_isRaised 133 = .ok (.bipush 11, 2) := by decide +kernel
theorem dL_isRaised_135 : decode cL_isRaised 135 = .ok (.invokevirtual 8, 3) := by decide +kernel
theorem dL_isRaised_138 : decode cL_isRaised 138 = .ok (.iload 4, 2) := by decide +kernel
theorem dL_isRaised_140 : decode cL_isRaised 140 = .ok (.iload 6, 2) := by decide +kernel
theorem dL_isRaised_142 : decode cL_isRaised 142 = .ok (.ifCond .eq 7, 3) := by decide +kernel
theorem dL_isRaised_145 : decode cL_isRaised 145 = .ok (.iconst 0, 1) := by decide +kernel
theorem dL_isRaised_146 : decode cL_isRaised 146 = .ok (.goto 4, 3) := by decide +kernel
theorem dL_isRaised_149 : decode cL_isRaised 149 = .ok (.iconst 1, 1) := by decide +kernel
theorem dL_isRaised_150 : decode cL_isRaised 150 = .ok (.iadd, 1) := by decide +kernel
theorem dL_isRaised_151 : decode cL_isRaised 151 = .ok (.if_icmp .ne 28, 3) := by decide +kernel
theorem dL_isRaised_154 : decode cL_isRaised 154 = .ok (.aload_n 0, 1) := by decide +kernel
theorem dL_isRaised_155 : decode cL_isRaised 155 = .ok (.iload_n 1, 1) := by decide +kernel
theorem dL_isRaised_156 : decode cL_isRaised 156 = .ok (.bipush 6, 2) := by decide +kernel
theorem dL_isRaised_158 : decode cL_isRaised 158 = .ok (.invokevirtual 8, 3) := by decide +kernel
theorem dL_isRaised_161 : decode cL_isRaised 161 = .ok (.iload 6, 2) := by decide +kernel
theorem dL_isRaised_163 : decode cL_isRaised 163 = .ok (.ifCond .eq 7, 3) := by decide +kernel
theorem dL_isRaised_166 : decode cL_isRaised 166 = .ok (.iconst 0, 1) := by decide +kernel
theorem dL_isRaised_167 : decode cL_isRaised 167 = .ok (.goto 5, 3) := by decide +kernel
theorem dL_isRaised_170 : decode cL_isRaised 170 = .ok (.iload 5, 2) := by decide +kernel
theorem dL_isRaised_172 : decode cL_isRaised 172 = .ok (.if_icmp .ne 7, 3) := by decide +kernel
theorem dL_isRaised_175 : decode cL_isRaised 175 = .ok (.iconst 1, 1) := by decide +kernel
theorem dL_isRaised_176 : decode cL_isRaised 176 = .ok (.goto 4, 3) := by decide +kernel
theorem dL_isRaised_179 : decode cL_isRaised 179 = .ok (.iconst 0, 1) := by decide +kernel
theorem dL_isRaised_180 : decode cL_isRaised 180 = .ok (.ireturn, 1) := by decide +kernel
theorem dL_isHeld_0 : decode cL_isHeld 0 = .ok (.aload_n 0, 1) := by decide +kernel
theorem dL_isHeld_1 : decode cL_isHeld 1 = .ok (.iload_n 1, 1) := by decide +kernel
theorem dL_isHeld_2 : decode cL_isHeld 2 = .ok (.bipush 9, 2) := by decide +kernel
theorem dL_isHeld_4 : decode cL_isHeld 4 = .ok (.invokevirtual 8, 3) := by decide +kernel
theorem dL_isHeld_7 : decode cL_isHeld 7 = .ok (.istore 4, 2) := by decide +kernel
theorem dL_isHeld_9 : decode cL_isHeld 9 = .ok (.iload_n 3, 1) := by decide +kernel
theorem dL_isHeld_10 : decode cL_isHeld 10 = .ok (.iconst 1, 1) := by decide +kernel
theorem dL_isHeld_11 : decode cL_isHeld 11 = .ok (.if_icmp .ne 12, 3) := by decide +kernel
theorem dL_isHeld_14 : decode cL_isHeld 14 = .ok (.iload 4, 2) := by decide +kernel
theorem dL_isHeld_16 : decode cL_isHeld 16 = .ok (.iconst 1, 1) := by decide +kernel
theorem dL_isHeld_17 : decode cL_isHeld 17 = .ok (.iload_n 2, 1) := by decide +kernel
theorem dL_isHeld_18 : decode cL_isHeld 18 = .ok (.ishl, 1) := by decide +kernel
theorem dL_isHeld_19 : decode cL_isHeld 19 = .ok (.ior, 1) := by decide +kernel
theorem dL_isHeld_20 : decode cL_isHeld 20 = .ok (.goto 11, 3) := by decide +kernel
theorem dL_isHeld_23 : decode cL_isHeld 23 = .ok (.iload 4, 2) := by decide +kernel
theorem dL_isHeld_25 : decode cL_isHeld 25 = .ok (.iconst 1, 1) := by decide +kernel
theorem dL_isHeld_26 : decode cL_isHeld 26 = .ok (.iload_n 2, 1) := by decide +kernel
theorem dL_isHeld_27 : decode cL_isHeld 27 = .ok (.ishl, 1) := by decide +kernel
theorem dL_isHeld_28 : decode cL_isHeld 28 = .ok (.iconst (-1), 1) := by decide +kernel
theorem dL_isHeld_29 : decode cL_isHeld 29 = .ok (.ixor, 1) := by decide +kernel
theorem dL_isHeld_30 : decode cL_isHeld 30 = .ok (.iand, 1) := by decide +kernel
theorem dL_isHeld_31 : decode cL_isHeld 31 = .ok (.istore 5, 2) := by decide +kernel
theorem dL_isHeld_33 : decode cL_isHeld 33 = .ok (.aload_n 0, 1) := by decide +kernel
theorem dL_isHeld_34 : decode cL_isHeld 34 = .ok (.iload_n 1, 1) := by decide +kernel
theorem dL_isHeld_35 : decode cL_isHeld 35 = .ok (.bipush 6, 2) := by decide +kernel
theorem dL_isHeld_37 : decode cL_isHeld 37 = .ok (.invokevirtual 8, 3) := by decide +kernel
theorem dL_isHeld_40 : decode cL_isHeld 40 = .ok (.istore 6, 2) := by decide +kernel
theorem dL_isHeld_42 : decode cL_isHeld 42 = .ok (.aload_n 0, 1) := by decide +kernel
theorem dL_isHeld_43 : decode cL_isHeld 43 = .ok (.iload_n 1, 1) := by decide +kernel
theorem dL_isHeld_44 : decode cL_isHeld 44 = .ok (.iload_n 2, 1) := by decide +kernel
theorem dL_isHeld_45 : decode cL_isHeld 45 = .ok (.iload_n 3, 1) := by decide +kernel
theorem dL_isHeld_46 : decode cL_isHeld 46 = .ok (.invokevirtual 40, 3) := by decide +kernel
theorem dL_isHeld_49 : decode cL_isHeld 49 = .ok (.istore 7, 2) := by decide +kernel
theorem dL_isHeld_51 : decode cL_isHeld 51 = .ok (.aload_n 0, 1) := by decide +kernel
theorem dL_isHeld_52 : decode cL_isHeld 52 = .ok (.iload_n 1, 1) := by decide +kernel
theorem dL_isHeld_53 : decode cL_isHeld 53 = .ok (.iconst 3, 1) := by decide +kernel
theorem dL_isHeld_54 : decode cL_isHeld 54 = .ok (.invokevirtual 8, 3) := by decide +kernel
theorem dL_isHeld_57 : decode cL_isHeld 57 = .ok (.ifCond .ne 16, 3) := by decide +kernel
theorem dL_isHeld_60 : decode cL_isHeld 60 = .ok (.iload 7, 2) := by decide +kernel
theorem dL_isHeld_62 : decode cL_isHeld 62 = .ok (.bipush (-5), 2) := by decide +kernel
theorem dL_isHeld_64 : decode cL_isHeld 64 = .ok (.if_icmp .ne 7, 3) := by decide +kernel
theorem dL_isHeld_67 : decode cL_isHeld 67 = .ok (.iconst 1, 1) := by decide +kernel
theorem dL_isHeld_68 : decode cL_isHeld 68 = .ok (.goto 4, 3) := by decide +kernel
theorem dL_isHeld_71 : decode cL_isHeld 71 = .ok (.iconst 0, 1) := by decide +kernel
theorem dL_isHeld_72 : decode cL_isHeld 72 = .ok (.ireturn, 1) := by decide +kernel
theorem dL_isHeld_73 : decode cL_isHeld 73 = .ok (.iload 5, 2) := by decide +kernel
theorem dL_isHeld_75 : decode cL_isHeld 75 = .ok (.ifCond .eq 17, 3) := by decide +kernel
theorem dL_isHeld_78 : decode cL_isHeld 78 = .ok (.aload_n 0, 1) := by decide +kernel
theorem dL_isHeld_79 : decode cL_isHeld 79 = .ok (.iload_n 1, 1) := by decide +kernel
theorem dL_isHeld_80 : decode cL_isHeld 80 = .ok (.bipush 8, 2) := by decide +kernel
theorem dL_isHeld_82 : decode cL_isHeld 82 = .ok (.invokevirtual 8, 3) := by decide +kernel
theorem dL_isHeld_85 : decode cL_isHeld 85 = .ok (.ifCond .ge 7, 3) := by decide +kernel
theorem dL_isHeld_88 : decode cL_isHeld 88 = .ok (.iconst 1, 1) := by decide +kernel
theorem dL_isHeld_89 : decode cL_isHeld 89 = .ok (.goto 4, 3) := by decide +kernel
theorem dL_isHeld_92 : decode cL_isHeld 92 = .ok (.iconst 0, 1) := by decide +kernel
theorem dL_isHeld_93 : decode cL_isHeld 93 = .ok (.istore 8, 2) := by decide +kernel
theorem dL_isHeld_95 : decode cL_isHeld 95 = .ok (.iload 7, 2) := by decide +kernel
theorem dL_isHeld_97 : decode cL_isHeld 97 = .ok (.iload 5, 2) := by decide +kernel
theorem dL_isHeld_99 : decode cL_isHeld 99 = .ok (.if_icmp .ne 50, 3) := by decide +kernel
theorem dL_isHeld_102 : decode cL_isHeld 102 = .ok (.aload_n 0, 1) := by decide +kernel
theorem dL_isHeld_103 : decode cL_isHeld 103 = .ok (.iload_n 1, 1) := by decide +kernel
theorem dL_isHeld_104 : decode cL_isHeld 104 = .ok (.bipush 9, 2) := by decide +kernel
theorem dL_isHeld_106 : decode cL_isHeld 106 = .ok (.invokevirtual 8, 3) := by decide +kernel
theorem dL_isHeld_109 : decode cL_isHeld 109 = .ok (.iload 5, 2) := by decide +kernel
theorem dL_isHeld_111 : decode cL_isHeld 111 = .ok (.if_icmp .ne 38, 3) := by decide +kernel
theorem dL_isHeld_114 : decode cL_isHeld 114 = .ok (.aload_n 0, 1) := by decide +kernel
theorem dL_isHeld_115 : decode cL_isHeld 115 = .ok (.iload_n 1, 1) := by decide +kernel
theorem dL_isHeld_116 : decode cL_isHeld 116 = .ok (.bipush 6, 2) := by decide +kernel
theorem dL_isHeld_118 : decode cL_isHeld 118 = .ok (.invokevirtual 8, 3) := by decide +kernel
theorem dL_isHeld_121 : decode cL_isHeld 121 = .ok (.iload 8, 2) := by decide +kernel
theorem dL_isHeld_123 : decode cL_isHeld 123 = .ok (.ifCond .ne 8, 3) := by decide +kernel
theorem dL_isHeld_126 : decode cL_isHeld 126 = .ok (.bipush (-6), 2) := by decide +kernel
theorem dL_isHeld_128 : decode cL_isHeld 128 = .ok (.goto 14, 3) := by decide +kernel
theorem dL_isHeld_131 : decode cL_isHeld 131 = .ok (.iload 6, 2) := by decide +kernel
theorem dL_isHeld_133 : decode cL_isHeld 133 = .ok (.ifCond .ge 7, 3) := by decide +kernel
theorem dL_isHeld_136 : decode cL_isHeld 136 = .ok (.iconst 0, 1) := by decide +kernel
theorem dL_isHeld_137 : decode cL_isHeld 137 = .ok (.goto 5, 3) := by decide +kernel
theorem dL_isHeld_140 : decode cL_isHeld 140 = .ok (.iload 6, 2) := by decide +kernel
theorem dL_isHeld_142 : decode cL_isHeld 142 = .ok (.if_icmp .ne 7, 3) := by decide +kernel
theorem dL_isHeld_145 : decode cL_isHeld 145 = .ok (.iconst 1, 1) := by decide +kernel
theorem dL_isHeld_146 : decode cL_isHeld 146 = .ok (.goto 4, 3) := by decide +kernel
theorem dL_isHeld_149 : decode cL_isHeld 149 = .ok (.iconst 0, 1) := by decide +kernel
theorem dL_isHeld_150 : decode cL_isHeld 150 = .ok (.ireturn, 1) := by decide +kernel
theorem dL_isTimer_0 : decode cL_isTimer 0 = .ok (.aload_n 0, 1) := by decide +kernel
theorem dL_isTimer_1 : decode cL_isTimer 1 = .ok (.iconst 2, 1) := by decide +kernel
theorem dL_isTimer_2 : decode cL_isTimer 2 = .ok (.invokevirtual 14, 3) := by decide +kernel
theorem dL_isTimer_5 : decode cL_isTimer 5 = .ok (.istore 4, 2) := by decide +kernel
theorem dL_isTimer_7 : decode cL_isTimer 7 = .ok (.aload_n 0, 1) := by decide +kernel
theorem dL_isTimer_8 : decode cL_isTimer 8 = .ok (.iload_n 1, 1) := by decide +kernel
theorem dL_isTimer_9 : decode cL_isTimer 9 = .ok (.iload_n 2, 1) := by decide +kernel
theorem dL_isTimer_10 : decode cL_isTimer 10 = .ok (.aload_n 0, 1) := by decide +kernel
theorem dL_isTimer_11 : decode cL_isTimer 11 = .ok (.iconst 0, 1) := by decide +kernel
theorem dL_isTimer_12 : decode cL_isTimer 12 = .ok (.invokevirtual 14, 3) := by decide +kernel
theorem dL_isTimer_15 : decode cL_isTimer 15 = .ok (.iload_n 3, 1) := by decide +kernel
theorem dL_isTimer_16 : decode cL_isTimer 16 = .ok (.iadd, 1) := by decide +kernel
theorem dL_isTimer_17 : decode cL_isTimer 17 = .ok (.invokevirtual 44, 3) := by decide +kernel
theorem dL_isTimer_20 : decode cL_isTimer 20 = .ok (.istore 5, 2) := by decide +kernel
theorem dL_isTimer_22 : decode cL_isTimer 22 = .ok (.iload 4, 2) := by decide +kernel
theorem dL_isTimer_24 : decode cL_isTimer 24 = .ok (.bipush 6, 2) := by decide +kernel
theorem dL_isTimer_26 : decode cL_isTimer 26 = .ok (.if_icmp .eq 13, 3) := by decide +kernel
theorem dL_isTimer_29 : decode cL_isTimer 29 = .ok (.aload_n 0, 1) := by decide +kernel
theorem dL_isTimer_30 : decode cL_isTimer 30 = .ok (.iload_n 1, 1) := by decide +kernel
theorem dL_isTimer_31 : decode cL_isTimer 31 = .ok (.iconst 3, 1) := by decide +kernel
theorem dL_isTimer_32 : decode cL_isTimer 32 = .ok (.invokevirtual 8, 3) := by decide +kernel
theorem dL_isTimer_35 : decode cL_isTimer 35 = .ok (.iconst 1, 1) := by decide +kernel
theorem dL_isTimer_36 : decode cL_isTimer 36 = .ok (.if_icmp .ne 38, 3) := by decide +kernel
theorem dL_isTimer_39 : decode cL_isTimer 39 = .ok (.iload 5, 2) := by decide +kernel
theorem dL_isTimer_41 : decode cL_isTimer 41 = .ok (.iload 4, 2) := by decide +kernel
theorem dL_isTimer_43 : decode cL_isTimer 43 = .ok (.bipush 6, 2) := by decide +kernel
theorem dL_isTimer_45 : decode cL_isTimer 45 = .ok (.if_icmp .ne 8, 3) := by decide +kernel
theorem dL_isTimer_48 : decode cL_isTimer 48 = .ok (.bipush (-4), 2) := by decide +kernel
theorem dL_isTimer_50 : decode cL_isTimer 50 = .ok (.goto 5, 3) := by decide +kernel
theorem dL_isTimer_53 : decode cL_isTimer 53 = .ok (.bipush (-5), 2) := by decide +kernel
theorem dL_isTimer_55 : decode cL_isTimer 55 = .ok (.if_icmp .ne 17, 3) := by decide +kernel
theorem dL_isTimer_58 : decode cL_isTimer 58 = .ok (.aload_n 0, 1) := by decide +kernel
theorem dL_isTimer_59 : decode cL_isTimer 59 = .ok (.iconst 2, 1) := by decide +kernel
theorem dL_isTimer_60 : decode cL_isTimer 60 = .ok (.invokevirtual 14, 3) := by decide +kernel
theorem dL_isTimer_63 : decode cL_isTimer 63 = .ok (.iload 4, 2) := by decide +kernel
theorem dL_isTimer_65 : decode cL_isTimer 65 = .ok (.if_icmp .ne 7, 3) := by decide +kernel
theorem dL_isTimer_68 : decode cL_isTimer 68 = .ok (.iconst 1, 1) := by decide +kernel
theorem dL_isTimer_69 : decode cL_isTimer 69 = .ok (.goto 4, 3) := by decide +kernel
theorem dL_isTimer_72 : decode cL_isTimer 72 = .ok (.iconst 0, 1) := by decide +kernel
theorem dL_isTimer_73 : decode cL_isTimer 73 = .ok (.ireturn, 1) := by decide +kernel
theorem dL_isTimer_74 : decode cL_isTimer 74 = .ok (.iload 5, 2) := by decide +kernel
theorem dL_isTimer_76 : decode cL_isTimer 76 = .ok (.iload 4, 2) := by decide +kernel
theorem dL_isTimer_78 : decode cL_isTimer 78 = .ok (.if_icmp .ne 46, 3) := by decide +kernel
theorem dL_isTimer_81 : decode cL_isTimer 81 = .ok (.aload_n 0, 1) := by decide +kernel
theorem dL_isTimer_82 : decode cL_isTimer 82 = .ok (.iload 4, 2) := by decide +kernel
theorem dL_isTimer_84 : decode cL_isTimer 84 = .ok (.iconst 0, 1) := by decide +kernel
theorem dL_isTimer_85 : decode cL_isTimer 85 = .ok (.invokevirtual 27, 3) := by decide +kernel
theorem dL_isTimer_88 : decode cL_isTimer 88 = .ok (.iload_n 1, 1) := by decide +kernel
theorem dL_isTimer_89 : decode cL_isTimer 89 = .ok (.if_icmp .ne 35, 3) := by decide +kernel
theorem dL_isTimer_92 : decode cL_isTimer 92 = .ok (.aload_n 0, 1) := by decide +kernel
theorem dL_isTimer_93 : decode cL_isTimer 93 = .ok (.iload 4, 2) := by decide +kernel
theorem dL_isTimer_95 : decode cL_isTimer 95 = .ok (.iconst 1, 1) := by decide +kernel
theorem dL_isTimer_96 : decode cL_isTimer 96 = .ok (.invokevirtual 27, 3) := by decide +kernel
theorem dL_isTimer_99 : decode cL_isTimer 99 = .ok (.iload_n 2, 1) := by decide +kernel
theorem dL_isTimer_100 : decode cL_isTimer 100 = .ok (.if_icmp .ne 24, 3) := by decide +kernel
theorem dL_isTimer_103 : decode cL_isTimer 103 = .ok (.aload_n 0, 1) := by decide +kernel
theorem dL_isTimer_104 : decode cL_isTimer 104 = .ok (.iload 4, 2) := by decide +kernel
theorem dL_isTimer_106 : decode cL_isTimer 106 = .ok (.iconst 2, 1) := by decide +kernel
theorem dL_isTimer_107 : decode cL_isTimer 107 = .ok (.invokevirtual 27, 3) := by decide +kernel
theorem dL_isTimer_110 : decode cL_isTimer 110 = .ok (.aload_n 0, 1) := by decide +kernel
theorem dL_isTimer_111 : decode cL_isTimer 111 = .ok (.iconst 0, 1) := by decide +kernel
theorem dL_isTimer_112 : decode cL_isTimer 112 = .ok (.invokevirtual 14, 3) := by decide +kernel
theorem dL_isTimer_115 : decode cL_isTimer 115 = .ok (.iload_n 3, 1) := by decide +kernel
theorem dL_isTimer_116 : decode cL_isTimer 116 = .ok (.iadd, 1) := by decide +kernel
theorem dL_isTimer_117 : decode cL_isTimer 117 = .ok (.if_icmp .ne 7, 3) := by decide +kernel
theorem dL_isTimer_120 : decode cL_isTimer 120 = .ok (.iconst 1, 1) := by decide +kernel
theorem dL_isTimer_121 : decode cL_isTimer 121 = .ok (.goto 4, 3) := by decide +kernel
theorem dL_isTimer_124 : decode cL_isTimer 124 = .ok (.iconst 0, 1) := by decide +kernel
theorem dL_isTimer_125 : decode cL_isTimer 125 = .ok (.ireturn, 1) := by decide +kernel
theorem dL_isAct_0 : decode cL_isAct 0 = .ok (.aload_n 1, 1) := by decide +kernel
theorem dL_isAct_1 : decode cL_isAct 1 = .ok (.iload_n 2, 1) := by decide +kernel
theorem dL_isAct_2 : decode cL_isAct 2 = .ok (.iconst 1, 1) := by decide +kernel
theorem dL_isAct_3 : decode cL_isAct 3 = .ok (.iadd, 1) := by decide +kernel
theorem dL_isAct_4 : decode cL_isAct 4 = .ok (.aload_n 0, 1) := by decide +kernel
theorem dL_isAct_5 : decode cL_isAct 5 = .ok (.iconst 1, 1) := by decide +kernel
theorem dL_isAct_6 : decode cL_isAct 6 = .ok (.invokevirtual 14, 3) := by decide +kernel
theorem dL_isAct_9 : decode cL_isAct 9 = .ok (.invokestatic 47, 3) := by decide +kernel
theorem dL_isAct_12 : decode cL_isAct 12 = .ok (.istore_n 3, 1) := by decide +kernel
theorem dL_isAct_13 : decode cL_isAct 13 = .ok (.aload_n 1, 1) := by decide +kernel
theorem dL_isAct_14 : decode cL_isAct 14 = .ok (.iload_n 2, 1) := by decide +kernel
theorem dL_isAct_15 : decode cL_isAct 15 = .ok (.bipush 20, 2) := by decide +kernel
theorem dL_isAct_17 : decode cL_isAct 17 = .ok (.invokestatic 47, 3) := by decide +kernel
theorem dL_isAct_20 : decode cL_isAct 20 = .ok (.tableswitch 408 0 10 #[60, 60, 60, 66, 66, 66, 96, 143, 169, 260, 374], 60) := by decide +kernel
theorem dL_isAct_80 : decode cL_isAct 80 = .ok (.aload_n 0, 1) := by decide +kernel
theorem dL_isAct_81 : decode cL_isAct 81 = .ok (.iload_n 3, 1) := by decide +kernel
theorem dL_isAct_82 : decode cL_isAct 82 = .ok (.invokestatic 51, 3) := by decide +kernel
theorem dL_isAct_85 : decode cL_isAct 85 = .ok (.ireturn, 1) := by decide +kernel
theorem dL_isAct_86 : decode cL_isAct 86 = .ok (.aload_n 0, 1) := by decide +kernel
theorem dL_isAct_87 : decode cL_isAct 87 = .ok (.iload_n 3, 1) := by decide +kernel
theorem dL_isAct_88 : decode cL_isAct 88 = .ok (.aload_n 1, 1) := by decide +kernel
theorem dL_isAct_89 : decode cL_isAct 89 = .ok (.iload_n 2, 1) := by decide +kernel
theorem dL_isAct_90 : decode cL_isAct 90 = .ok (.iconst 2, 1) := by decide +kernel
theorem dL_isAct_91 : decode cL_isAct 91 = .ok (.iadd, 1) := by decide +kernel
theorem dL_isAct_92 : decode cL_isAct 92 = .ok (.iconst 4, 1) := by decide +kernel
theorem dL_isAct_93 : decode cL_isAct 93 = .ok (.invokestatic 47, 3) := by decide +kernel
theorem dL_isAct_96 : decode cL_isAct 96 = .ok (.aload_n 1, 1) := by decide +kernel
theorem dL_isAct_97 : decode cL_isAct 97 = .ok (.iload_n 2, 1) := by decide +kernel
theorem dL_isAct_98 : decode cL_isAct 98 = .ok (.iconst 3, 1) := by decide +kernel
theorem dL_isAct_99 : decode cL_isAct 99 = .ok (.iadd, 1) := by decide +kernel
theorem dL_isAct_100 : decode cL_isAct 100 = .ok (.iconst 4, 1) := by decide +kernel
theorem dL_isAct_101 : decode cL_isAct 101 = .ok (.invokestatic 47, 3) := by decide +kernel
theorem dL_isAct_104 : decode cL_isAct 104 = .ok (.ifCond .ne 7, 3) := by decide +kernel
theorem dL_isAct_107 : decode cL_isAct 107 = .ok (.iconst 0, 1) := by decide +kernel
theorem dL_isAct_108 : decode cL_isAct 108 = .ok (.goto 4, 3) := by decide +kernel
theorem dL_isAct_111 : decode cL_isAct 111 = .ok (.iconst 1, 1) := by decide +kernel
theorem dL_isAct_112 : decode cL_isAct 112 = .ok (.invokestatic 55, 3) := by decide +kernel
theorem dL_isAct_115 : decode cL_isAct 115 = .ok (.ireturn, 1) := by decide +kernel
theorem dL_isAct_116 : decode cL_isAct 116 = .ok (.aload_n 1, 1) := by decide +kernel
theorem dL_isAct_117 : decode cL_isAct 117 = .ok (.iload_n 2, 1) := by decide +kernel
theorem dL_isAct_118 : decode cL_isAct 118 = .ok (.iconst 2, 1) := by decide +kernel
theorem dL_isAct_119 : decode cL_isAct 119 = .ok (.iadd, 1) := by decide +kernel
theorem dL_isAct_120 : decode cL_isAct 120 = .ok (.iconst 2, 1) := by decide +kernel
theorem dL_isAct_121 : decode cL_isAct 121 = .ok (.invokestatic 47, 3) := by decide +kernel
theorem dL_isAct_124 : decode cL_isAct 124 = .ok (.istore 4, 2) := by decide +kernel
theorem dL_isAct_126 : decode cL_isAct 126 = .ok (.aload_n 0, 1) := by decide +kernel
theorem dL_isAct_127 : decode cL_isAct 127 = .ok (.iload_n 3, 1) := by decide +kernel
theorem dL_isAct_128 : decode cL_isAct 128 = .ok (.iconst 4, 1) := by decide +kernel
theorem dL_isAct_129 : decode cL_isAct 129 = .ok (.invokevirtual 8, 3) := by decide +kernel
theorem dL_isAct_132 : decode cL_isAct 132 = .ok (.istore 5, 2) := by decide +kernel
theorem dL_isAct_134 : decode cL_isAct 134 = .ok (.aload_n 0, 1) := by decide +kernel
theorem dL_isAct_135 : decode cL_isAct 135 = .ok (.iload_n 3, 1) := by decide +kernel
theorem dL_isAct_136 : decode cL_isAct 136 = .ok (.iload 4, 2) := by decide +kernel
theorem dL_isAct_138 : decode cL_isAct 138 = .ok (.invokevirtual 59, 3) := by decide +kernel
theorem dL_isAct_141 : decode cL_isAct 141 = .ok (.iload 5, 2) := by decide +kernel
theorem dL_isAct_143 : decode cL_isAct 143 = .ok (.if_icmp .ne 18, 3) := by decide +kernel
theorem dL_isAct_146 : decode cL_isAct 146 = .ok (.aload_n 0, 1) := by decide +kernel
theorem dL_isAct_147 : decode cL_isAct 147 = .ok (.iload_n 3, 1) := by decide +kernel
theorem dL_isAct_148 : decode cL_isAct 148 = .ok (.iconst 4, 1) := by decide +kernel
theorem dL_isAct_149 : decode cL_isAct 149 = .ok (.invokevirtual 8, 3) := by decide +kernel
theorem dL_isAct_152 : decode cL_isAct 152 = .ok (.iload 4, 2) := by decide +kernel
theorem dL_isAct_154 : decode cL_isAct 154 = .ok (.if_icmp .ne 7, 3) := by decide +kernel
theorem dL_isAct_157 : decode cL_isAct 157 = .ok (.iconst 1, 1) := by decide +kernel
theorem dL_isAct_158 : decode cL_isAct 158 = .ok (.goto 4, 3) := by decide +kernel
theorem dL_isAct_161 : decode cL_isAct 161 = .ok (.iconst 0, 1) := by decide +kernel
theorem dL_isAct_162 : decode cL_isAct 162 = .ok (.ireturn, 1) := by decide +kernel
theorem dL_isAct_163 : decode cL_isAct 163 = .ok (.aload_n 0, 1) := by decide +kernel
theorem dL_isAct_164 : decode cL_isAct 164 = .ok (.iload_n 3, 1) := by decide +kernel
theorem dL_isAct_165 : decode cL_isAct 165 = .ok (.iconst 1, 1) := by decide +kernel
theorem dL_isAct_166 : decode cL_isAct 166 = .ok (.aload_n 1, 1) := by decide +kernel
theorem dL_isAct_167 : decode cL_isAct 167 = .ok (.iload_n 2, 1) := by decide +kernel
theorem dL_isAct_168 : decode cL_isAct 168 = .ok (.iconst 2, 1) := by decide +kernel
theorem dL_isAct_169 : decode cL_isAct 169 = .ok (.iadd, 1) := by decide +kernel
theorem dL_isAct_170 : decode cL_isAct 170 = .ok (.bipush 30, 2) := by decide +kernel
theorem dL_isAct_172 : decode cL_isAct 172 = .ok (.invokestatic 47, 3) := by decide +kernel
theorem dL_isAct_175 : decode cL_isAct 175 = .ok (.iadd, 1) := by decide +kernel
theorem dL_isAct_176 : decode cL_isAct 176 = .ok (.aload_n 1, 1) := by decide +kernel
theorem dL_isAct_177 : decode cL_isAct 177 = .ok (.iload_n 2, 1) := by decide +kernel
theorem dL_isAct_178 : decode cL_isAct 178 = .ok (.iconst 3, 1) := by decide +kernel
theorem dL_isAct_179 : decode cL_isAct 179 = .ok (.iadd, 1) := by decide +kernel
theorem dL_isAct_180 : decode cL_isAct 180 = .ok (.bipush 20, 2) := by decide +kernel
theorem dL_isAct_182 : decode cL_isAct 182 = .ok (.invokestatic 47, 3) := by decide +kernel
theorem dL_isAct_185 : decode cL_isAct 185 = .ok (.invokestatic 62, 3) := by decide +kernel
theorem dL_isAct_188 : decode cL_isAct 188 = .ok (.ireturn, 1) := by decide +kernel
theorem dL_isAct_189 : decode cL_isAct 189 = .ok (.aload_n 0, 1) := by decide +kernel
theorem dL_isAct_190 : decode cL_isAct 190 = .ok (.iload_n 3, 1) := by decide +kernel
theorem dL_isAct_191 : decode cL_isAct 191 = .ok (.iconst 0, 1) := by decide +kernel
theorem dL_isAct_192 : decode cL_isAct 192 = .ok (.invokevirtual 8, 3) := by decide +kernel
theorem dL_isAct_195 : decode cL_isAct 195 = .ok (.istore 6, 2) := by decide +kernel
theorem dL_isAct_197 : decode cL_isAct 197 = .ok (.aload_n 0, 1) := by decide +kernel
theorem dL_isAct_198 : decode cL_isAct 198 = .ok (.iload_n 3, 1) := by decide +kernel
theorem dL_isAct_199 : decode cL_isAct 199 = .ok (.aload_n 1, 1) := by decide +kernel
theorem dL_isAct_200 : decode cL_isAct 200 = .ok (.iload_n 2, 1) := by decide +kernel
theorem dL_isAct_201 : decode cL_isAct 201 = .ok (.iconst 2, 1) := by decide +kernel
theorem dL_isAct_202 : decode cL_isAct 202 = .ok (.iadd, 1) := by decide +kernel
theorem dL_isAct_203 : decode cL_isAct 203 = .ok (.bipush 16, 2) := by decide +kernel
theorem dL_isAct_205 : decode cL_isAct 205 = .ok (.invokestatic 47, 3) := by decide +kernel
theorem dL_isAct_208 : decode cL_isAct 208 = .ok (.iconst 1, 1) := by decide +kernel
theorem dL_isAct_209 : decode cL_isAct 209 = .ok (.aload_n 1, 1) := by decide +kernel
theorem dL_isAct_210 : decode cL_isAct 210 = .ok (.iload_n 2, 1) := by decide +kernel
theorem dL_isAct_211 : decode cL_isAct 211 = .ok (.iconst 3, 1) := by decide +kernel
theorem dL_isAct_212 : decode cL_isAct 212 = .ok (.iadd, 1) := by decide +kernel
theorem dL_isAct_213 : decode cL_isAct 213 = .ok (.bipush 6, 2) := by decide +kernel
theorem dL_isAct_215 : decode cL_isAct 215 = .ok (.invokestatic 47, 3) := by decide +kernel
theorem dL_isAct_218 : decode cL_isAct 218 = .ok (.iadd, 1) := by decide +kernel
theorem dL_isAct_219 : decode cL_isAct 219 = .ok (.aload_n 1, 1) := by decide +kernel
theorem dL_isAct_220 : decode cL_isAct 220 = .ok (.iload_n 2, 1) := by decide +kernel
theorem dL_isAct_221 : decode cL_isAct 221 = .ok (.iconst 4, 1) := by decide +kernel
theorem dL_isAct_222 : decode cL_isAct 222 = .ok (.iadd, 1) := by decide +kernel
theorem dL_isAct_223 : decode cL_isAct 223 = .ok (.bipush 30, 2) := by decide +kernel
theorem dL_isAct_225 : decode cL_isAct 225 = .ok (.invokestatic 47, 3) := by decide +kernel
theorem dL_isAct_228 : decode cL_isAct 228 = .ok (.invokevirtual 65, 3) := by decide +kernel
theorem dL_isAct_231 : decode cL_isAct 231 = .ok (.iload 6, 2) := by decide +kernel
theorem dL_isAct_233 : decode cL_isAct 233 = .ok (.if_icmp .ne 45, 3) := by decide +kernel
theorem dL_isAct_236 : decode cL_isAct 236 = .ok (.aload_n 0, 1) := by decide +kernel
theorem dL_isAct_237 : decode cL_isAct 237 = .ok (.iload_n 3, 1) := by decide +kernel
theorem dL_isAct_238 : decode cL_isAct 238 = .ok (.iconst 0, 1) := by decide +kernel
theorem dL_isAct_239 : decode cL_isAct 239 = .ok (.invokevirtual 8, 3) := by decide +kernel
theorem dL_isAct_242 : decode cL_isAct 242 = .ok (.aload_n 1, 1) := by decide +kernel
theorem dL_isAct_243 : decode cL_isAct 243 = .ok (.iload_n 2, 1) := by decide +kernel
theorem dL_isAct_244 : decode cL_isAct 244 = .ok (.iconst 2, 1) := by decide +kernel
theorem dL_isAct_245 : decode cL_isAct 245 = .ok (.iadd, 1) := by decide +kernel
theorem dL_isAct_246 : decode cL_isAct 246 = .ok (.bipush 16, 2) := by decide +kernel
theorem dL_isAct_248 : decode cL_isAct 248 = .ok (.invokestatic 47, 3) := by decide +kernel
theorem dL_isAct_251 : decode cL_isAct 251 = .ok (.if_icmp .ne 27, 3) := by decide +kernel
theorem dL_isAct_254 : decode cL_isAct 254 = .ok (.aload_n 0, 1) := by decide +kernel
theorem dL_isAct_255 : decode cL_isAct 255 = .ok (.iload_n 3, 1) := by decide +kernel
theorem dL_isAct_256 : decode cL_isAct 256 = .ok (.iconst 1, 1) := by decide +kernel
theorem dL_isAct_257 : decode cL_isAct 257 = .ok (.invokevirtual 8, 3) := by decide +kernel
theorem dL_isAct_260 : decode cL_isAct 260 = .ok (.iconst 1, 1) := by decide +kernel
theorem dL_isAct_261 : decode cL_isAct 261 = .ok (.aload_n 1, 1) := by decide +kernel
theorem dL_isAct_262 : decode cL_isAct 262 = .ok (.iload_n 2, 1) := by decide +kernel
theorem dL_isAct_263 : decode cL_isAct 263 = .ok (.iconst 3, 1) := by decide +kernel
theorem dL_isAct_264 : decode cL_isAct 264 = .ok (.iadd, 1) := by decide +kernel
theorem dL_isAct_265 : decode cL_isAct 265 = .ok (.bipush 6, 2) := by decide +kernel
theorem dL_isAct_267 : decode cL_isAct 267 = .ok (.invokestatic 47, 3) := by decide +kernel
theorem dL_isAct_270 : decode cL_isAct 270 = .ok (.iadd, 1) := by decide +kernel
theorem dL_isAct_271 : decode cL_isAct 271 = .ok (.if_icmp .ne 7, 3) := by decide +kernel
theorem dL_isAct_274 : decode cL_isAct 274 = .ok (.iconst 1, 1) := by decide +kernel
theorem dL_isAct_275 : decode cL_isAct 275 = .ok (.goto 4, 3) := by decide +kernel
theorem dL_isAct_278 : decode cL_isAct 278 = .ok (.iconst 0, 1) := by decide +kernel
theorem dL_isAct_279 : decode cL_isAct 279 = .ok (.ireturn, 1) := by decide +kernel
theorem dL_isAct_280 : decode cL_isAct 280 = .ok (.aload_n 1, 1) := by decide +kernel
theorem dL_isAct_281 : decode cL_isAct 281 = .ok (.iload_n 2, 1) := by decide +kernel
theorem dL_isAct_282 : decode cL_isAct 282 = .ok (.iconst 2, 1) := by decide +kernel
theorem dL_isAct_283 : decode cL_isAct 283 = .ok (.iadd, 1) := by decide +kernel
theorem dL_isAct_284 : decode cL_isAct 284 = .ok (.iconst 4, 1) := by decide +kernel
theorem dL_isAct_285 : decode cL_isAct 285 = .ok (.invokestatic 47, 3) := by decide +kernel
theorem dL_isAct_288 : decode cL_isAct 288 = .ok (.istore 7, 2) := by decide +kernel
theorem dL_isAct_290 : decode cL_isAct 290 = .ok (.iload 7, 2) := by decide +kernel
theorem dL_isAct_292 : decode cL_isAct 292 = .ok (.ifCond .ne 7, 3) := by decide +kernel
theorem dL_isAct_295 : decode cL_isAct 295 = .ok (.iconst 0, 1) := by decide +kernel
theorem dL_isAct_296 : decode cL_isAct 296 = .ok (.goto 25, 3) := by decide +kernel
theorem dL_isAct_299 : decode cL_isAct 299 = .ok (.iload 7, 2) := by decide +kernel
theorem dL_isAct_301 : decode cL_isAct 301 = .ok (.iconst 1, 1) := by decide +kernel
theorem dL_isAct_302 : decode cL_isAct 302 = .ok (.if_icmp .ne 7, 3) := by decide +kernel
theorem dL_isAct_305 : decode cL_isAct 305 = .ok (.iconst 2, 1) := by decide +kernel
theorem dL_isAct_306 : decode cL_isAct 306 = .ok (.goto 15, 3) := by decide +kernel
theorem dL_isAct_309 : decode cL_isAct 309 = .ok (.iload 7, 2) := by decide +kernel
theorem dL_isAct_311 : decode cL_isAct 311 = .ok (.iconst 2, 1) := by decide +kernel
theorem dL_isAct_312 : decode cL_isAct 312 = .ok (.if_icmp .ne 7, 3) := by decide +kernel
theorem dL_isAct_315 : decode cL_isAct 315 = .ok (.iconst 3, 1) := by decide +kernel
theorem dL_isAct_316 : decode cL_isAct 316 = .ok (.goto 5, 3) := by decide +kernel
theorem dL_isAct_319 : decode cL_isAct 319 = .ok (.bipush 6, 2) := by decide +kernel
theorem dL_isAct_321 : decode cL_isAct 321 = .ok (.istore 8, 2) := by decide +kernel
theorem dL_isAct_323 : decode cL_isAct 323 = .ok (.iload 7, 2) := by decide +kernel
theorem dL_isAct_325 : decode cL_isAct 325 = .ok (.iconst 3, 1) := by decide +kernel
theorem dL_isAct_326 : decode cL_isAct 326 = .ok (.if_icmp .ne 15, 3) := by decide +kernel
theorem dL_isAct_329 : decode cL_isAct 329 = .ok (.aload_n 1, 1) := by decide +kernel
theorem dL_isAct_330 : decode cL_isAct 330 = .ok (.iload_n 2, 1) := by decide +kernel
theorem dL_isAct_331 : decode cL_isAct 331 = .ok (.iconst 3, 1) := by decide +kernel
theorem dL_isAct_332 : decode cL_isAct 332 = .ok (.iadd, 1) := by decide +kernel
theorem dL_isAct_333 : decode cL_isAct 333 = .ok (.bipush 12, 2) := by decide +kernel
theorem dL_isAct_335 : decode cL_isAct 335 = .ok (.invokestatic 47, 3) := by decide +kernel
theorem dL_isAct_338 : decode cL_isAct 338 = .ok (.goto 23, 3) := by decide +kernel
theorem dL_isAct_341 : decode cL_isAct 341 = .ok (.iconst 1, 1) := by decide +kernel
theorem dL_isAct_342 : decode cL_isAct 342 = .ok (.aload_n 1, 1) := by decide +kernel
theorem dL_isAct_343 : decode cL_isAct 343 = .ok (.iload_n 2, 1) := by decide +kernel
theorem dL_isAct_344 : decode cL_isAct 344 = .ok (.iconst 3, 1) := by decide +kernel
theorem dL_isAct_345 : decode cL_isAct 345 = .ok (.iadd, 1) := by decide +kernel
theorem dL_isAct_346 : decode cL_isAct 346 = .ok (.iload 7, 2) := by decide +kernel
theorem dL_isAct_348 : decode cL_isAct 348 = .ok (.ifCond .ne 8, 3) := by decide +kernel
theorem dL_isAct_351 : decode cL_isAct 351 = .ok (.bipush 9, 2) := by decide +kernel
theorem dL_isAct_353 : decode cL_isAct 353 = .ok (.goto 4, 3) := by decide +kernel
theorem dL_isAct_356 : decode cL_isAct 356 = .ok (.iconst 3, 1) := by decide +kernel
theorem dL_isAct_357 : decode cL_isAct 357 = .ok (.invokestatic 47, 3) := by decide +kernel
theorem dL_isAct_360 : decode cL_isAct 360 = .ok (.iadd, 1) := by decide +kernel
theorem dL_isAct_361 : decode cL_isAct 361 = .ok (.istore 9, 2) := by decide +kernel
theorem dL_isAct_363 : decode cL_isAct 363 = .ok (.aload_n 0, 1) := by decide +kernel
theorem dL_isAct_364 : decode cL_isAct 364 = .ok (.iload 8, 2) := by decide +kernel
theorem dL_isAct_366 : decode cL_isAct 366 = .ok (.iload 9, 2) := by decide +kernel
theorem dL_isAct_368 : decode cL_isAct 368 = .ok (.invokevirtual 69, 3) := by decide +kernel
theorem dL_isAct_371 : decode cL_isAct 371 = .ok (.ifCond .lt 21, 3) := by decide +kernel
theorem dL_isAct_374 : decode cL_isAct 374 = .ok (.aload_n 0, 1) := by decide +kernel
theorem dL_isAct_375 : decode cL_isAct 375 = .ok (.bipush 12, 2) := by decide +kernel
theorem dL_isAct_377 : decode cL_isAct 377 = .ok (.iload 8, 2) := by decide +kernel
theorem dL_isAct_379 : decode cL_isAct 379 = .ok (.iadd, 1) := by decide +kernel
theorem dL_isAct_380 : decode cL_isAct 380 = .ok (.invokevirtual 14, 3) := by decide +kernel
theorem dL_isAct_383 : decode cL_isAct 383 = .ok (.iload 9, 2) := by decide +kernel
theorem dL_isAct_385 : decode cL_isAct 385 = .ok (.if_icmp .ne 7, 3) := by decide +kernel
theorem dL_isAct_388 : decode cL_isAct 388 = .ok (.iconst 1, 1) := by decide +kernel
theorem dL_isAct_389 : decode cL_isAct 389 = .ok (.goto 4, 3) := by decide +kernel
theorem dL_isAct_392 : decode cL_isAct 392 = .ok (.iconst 0, 1) := by decide +kernel
theorem dL_isAct_393 : decode cL_isAct 393 = .ok (.ireturn, 1) := by decide +kernel
theorem dL_isAct_394 : decode cL_isAct 394 = .ok (.aload_n 0, 1) := by decide +kernel
theorem dL_isAct_395 : decode cL_isAct 395 = .ok (.iconst 2, 1) := by decide +kernel
theorem dL_isAct_396 : decode cL_isAct 396 = .ok (.invokevirtual 14, 3) := by decide +kernel
theorem dL_isAct_399 : decode cL_isAct 399 = .ok (.istore 10, 2) := by decide +kernel
theorem dL_isAct_401 : decode cL_isAct 401 = .ok (.aload_n 0, 1) := by decide +kernel
theorem dL_isAct_402 : decode cL_isAct 402 = .ok (.iconst 0, 1) := by decide +kernel
theorem dL_isAct_403 : decode cL_isAct 403 = .ok (.invokevirtual 72, 3) := by decide +kernel
theorem dL_isAct_406 : decode cL_isAct 406 = .ok (.iload 10, 2) := by decide +kernel
theorem dL_isAct_408 : decode cL_isAct 408 = .ok (.ifCond .ne 7, 3) := by decide +kernel
theorem dL_isAct_411 : decode cL_isAct 411 = .ok (.iconst (-1), 1) := by decide +kernel
theorem dL_isAct_412 : decode cL_isAct 412 = .ok (.goto 7, 3) := by decide +kernel
theorem dL_isAct_415 : decode cL_isAct 415 = .ok (.iload 10, 2) := by decide +kernel
theorem dL_isAct_417 : decode cL_isAct 417 = .ok (.iconst 1, 1) := by decide +kernel
theorem dL_isAct_418 : decode cL_isAct 418 = .ok (.isub, 1) := by decide +kernel
theorem dL_isAct_419 : decode cL_isAct 419 = .ok (.if_icmp .ne 7, 3) := by decide +kernel
theorem dL_isAct_422 : decode cL_isAct 422 = .ok (.iconst 1, 1) := by decide +kernel
theorem dL_isAct_423 : decode cL_isAct 423 = .ok (.goto 4, 3) := by decide +kernel
theorem dL_isAct_426 : decode cL_isAct 426 = .ok (.iconst 0, 1) := by decide +kernel
theorem dL_isAct_427 : decode cL_isAct 427 = .ok (.ireturn, 1) := by decide +kernel
theorem dL_isAct_428 : decode cL_isAct 428 = .ok (.aload_n 0, 1) := by decide +kernel
theorem dL_isAct_429 : decode cL_isAct 429 = .ok (.invokestatic 75, 3) := by decide +kernel
theorem dL_isAct_432 : decode cL_isAct 432 = .ok (.ireturn, 1) := by decide +kernel
theorem dL_law_0 : decode cL_law 0 = .ok (.new 9, 3) := by decide +kernel
theorem dL_law_3 : decode cL_law 3 = .ok (.dup, 1) := by decide +kernel
theorem dL_law_4 : decode cL_law 4 = .ok (.invokespecial 79, 3) := by decide +kernel
theorem dL_law_7 : decode cL_law 7 = .ok (.astore_n 1, 1) := by decide +kernel
theorem dL_law_8 : decode cL_law 8 = .ok (.aload_n 1, 1) := by decide +kernel
theorem dL_law_9 : decode cL_law 9 = .ok (.iconst 0, 1) := by decide +kernel
theorem dL_law_10 : decode cL_law 10 = .ok (.aload_n 0, 1) := by decide +kernel
theorem dL_law_11 : decode cL_law 11 = .ok (.iconst 0, 1) := by decide +kernel
theorem dL_law_12 : decode cL_law 12 = .ok (.bipush 8, 2) := by decide +kernel
theorem dL_law_14 : decode cL_law 14 = .ok (.invokestatic 47, 3) := by decide +kernel
theorem dL_law_17 : decode cL_law 17 = .ok (.invokevirtual 69, 3) := by decide +kernel
theorem dL_law_20 : decode cL_law 20 = .ok (.pop, 1) := by decide +kernel
theorem dL_law_21 : decode cL_law 21 = .ok (.aload_n 1, 1) := by decide +kernel
theorem dL_law_22 : decode cL_law 22 = .ok (.iconst 1, 1) := by decide +kernel
theorem dL_law_23 : decode cL_law 23 = .ok (.bipush 8, 2) := by decide +kernel
theorem dL_law_25 : decode cL_law 25 = .ok (.aload_n 0, 1) := by decide +kernel
theorem dL_law_26 : decode cL_law 26 = .ok (.iconst 1, 1) := by decide +kernel
theorem dL_law_27 : decode cL_law 27 = .ok (.bipush 20, 2) := by decide +kernel
theorem dL_law_29 : decode cL_law 29 = .ok (.invokestatic 47, 3) := by decide +kernel
theorem dL_law_32 : decode cL_law 32 = .ok (.iadd, 1) := by decide +kernel
theorem dL_law_33 : decode cL_law 33 = .ok (.invokevirtual 69, 3) := by decide +kernel
theorem dL_law_36 : decode cL_law 36 = .ok (.pop, 1) := by decide +kernel
theorem dL_law_37 : decode cL_law 37 = .ok (.aload_n 1, 1) := by decide +kernel
theorem dL_law_38 : decode cL_law 38 = .ok (.iconst 4, 1) := by decide +kernel
theorem dL_law_39 : decode cL_law 39 = .ok (.aload_n 0, 1) := by decide +kernel
theorem dL_law_40 : decode cL_law 40 = .ok (.iconst 2, 1) := by decide +kernel
theorem dL_law_41 : decode cL_law 41 = .ok (.iconst 3, 1) := by decide +kernel
theorem dL_law_42 : decode cL_law 42 = .ok (.invokestatic 47, 3) := by decide +kernel
theorem dL_law_45 : decode cL_law 45 = .ok (.invokevirtual 69, 3) := by decide +kernel
theorem dL_law_48 : decode cL_law 48 = .ok (.pop, 1) := by decide +kernel
theorem dL_law_49 : decode cL_law 49 = .ok (.aload_n 1, 1) := by decide +kernel
theorem dL_law_50 : decode cL_law 50 = .ok (.iconst 5, 1) := by decide +kernel
theorem dL_law_51 : decode cL_law 51 = .ok (.aload_n 0, 1) := by decide +kernel
theorem dL_law_52 : decode cL_law 52 = .ok (.iconst 3, 1) := by decide +kernel
theorem dL_law_53 : decode cL_law 53 = .ok (.iconst 2, 1) := by decide +kernel
theorem dL_law_54 : decode cL_law 54 = .ok (.invokestatic 47, 3) := by decide +kernel
theorem dL_law_57 : decode cL_law 57 = .ok (.invokevirtual 69, 3) := by decide +kernel
theorem dL_law_60 : decode cL_law 60 = .ok (.pop, 1) := by decide +kernel
theorem dL_law_61 : decode cL_law 61 = .ok (.iconst 2, 1) := by decide +kernel
theorem dL_law_62 : decode cL_law 62 = .ok (.aload_n 0, 1) := by decide +kernel
theorem dL_law_63 : decode cL_law 63 = .ok (.iconst 4, 1) := by decide +kernel
theorem dL_law_64 : decode cL_law 64 = .ok (.iconst 5, 1) := by decide +kernel
theorem dL_law_65 : decode cL_law 65 = .ok (.invokestatic 47, 3) := by decide +kernel
theorem dL_law_68 : decode cL_law 68 = .ok (.iadd, 1) := by decide +kernel
theorem dL_law_69 : decode cL_law 69 = .ok (.istore_n 2, 1) := by decide +kernel
theorem dL_law_70 : decode cL_law 70 = .ok (.iconst 0, 1) := by decide +kernel
theorem dL_law_71 : decode cL_law 71 = .ok (.istore_n 3, 1) := by decide +kernel
theorem dL_law_72 : decode cL_law 72 = .ok (.iload_n 3, 1) := by decide +kernel
theorem dL_law_73 : decode cL_law 73 = .ok (.iload_n 2, 1) := by decide +kernel
theorem dL_law_74 : decode cL_law 74 = .ok (.if_icmp .ge 75, 3) := by decide +kernel
theorem dL_law_77 : decode cL_law 77 = .ok (.aload_n 1, 1) := by decide +kernel
theorem dL_law_78 : decode cL_law 78 = .ok (.aload_n 0, 1) := by decide +kernel
theorem dL_law_79 : decode cL_law 79 = .ok (.iconst 5, 1) := by decide +kernel
theorem dL_law_80 : decode cL_law 80 = .ok (.iload_n 3, 1) := by decide +kernel
theorem dL_law_81 : decode cL_law 81 = .ok (.iadd, 1) := by decide +kernel
theorem dL_law_82 : decode cL_law 82 = .ok (.bipush 12, 2) := by decide +kernel
theorem dL_law_84 : decode cL_law 84 = .ok (.invokestatic 47, 3) := by decide +kernel
theorem dL_law_87 : decode cL_law 87 = .ok (.iconst 1, 1) := by decide +kernel
theorem dL_law_88 : decode cL_law 88 = .ok (.aload_n 0, 1) := by decide +kernel
theorem dL_law_89 : decode cL_law 89 = .ok (.bipush 12, 2) := by decide +kernel
theorem dL_law_91 : decode cL_law 91 = .ok (.iload_n 3, 1) := by decide +kernel
theorem dL_law_92 : decode cL_law 92 = .ok (.iadd, 1) := by decide +kernel
theorem dL_law_93 : decode cL_law 93 = .ok (.bipush 6, 2) := by decide +kernel
theorem dL_law_95 : decode cL_law 95 = .ok (.invokestatic 47, 3) := by decide +kernel
theorem dL_law_98 : decode cL_law 98 = .ok (.iadd, 1) := by decide +kernel
theorem dL_law_99 : decode cL_law 99 = .ok (.aload_n 0, 1) := by decide +kernel
theorem dL_law_100 : decode cL_law 100 = .ok (.bipush 19, 2) := by decide +kernel
theorem dL_law_102 : decode cL_law 102 = .ok (.iload_n 3, 1) := by decide +kernel
theorem dL_law_103 : decode cL_law 103 = .ok (.iadd, 1) := by decide +kernel
theorem dL_law_104 : decode cL_law 104 = .ok (.iconst 3, 1) := by decide +kernel
theorem dL_law_105 : decode cL_law 105 = .ok (.invokestatic 47, 3) := by decide +kernel
theorem dL_law_108 : decode cL_law 108 = .ok (.ifCond .ne 7, 3) := by decide +kernel
theorem dL_law_111 : decode cL_law 111 = .ok (.iconst 0, 1) := by decide +kernel
theorem dL_law_112 : decode cL_law 112 = .ok (.goto 13, 3) := by decide +kernel
theorem dL_law_115 : decode cL_law 115 = .ok (.aload_n 0, 1) := by decide +kernel
theorem dL_law_116 : decode cL_law 116 = .ok (.bipush 19, 2) := by decide +kernel
theorem dL_law_118 : decode cL_law 118 = .ok (.iload_n 3, 1) := by decide +kernel
theorem dL_law_119 : decode cL_law 119 = .ok (.iadd, 1) := by decide +kernel
theorem dL_law_120 : decode cL_law 120 = .ok (.bipush 20, 2) := by decide +kernel
theorem dL_law_122 : decode cL_law 122 = .ok (.invokestatic 47, 3) := by decide +kernel
theorem dL_law_125 : decode cL_law 125 = .ok (.aload_n 0, 1) := by decide +kernel
theorem dL_law_126 : decode cL_law 126 = .ok (.bipush 26, 2) := by decide +kernel
theorem dL_law_128 : decode cL_law 128 = .ok (.iload_n 3, 1) := by decide +kernel
theorem dL_law_129 : decode cL_law 129 = .ok (.iadd, 1) := by decide +kernel
theorem dL_law_130 : decode cL_law 130 = .ok (.iconst 2, 1) := by decide +kernel
theorem dL_law_131 : decode cL_law 131 = .ok (.invokestatic 47, 3) := by decide +kernel
theorem dL_law_134 : decode cL_law 134 = .ok (.invokevirtual 80, 3) := by decide +kernel
theorem dL_law_137 : decode cL_law 137 = .ok (.iload_n 3, 1) := by decide +kernel
theorem dL_law_138 : decode cL_law 138 = .ok (.if_icmp .eq 5, 3) := by decide +kernel
theorem dL_law_141 : decode cL_law 141 = .ok (.iconst 0, 1) := by decide +kernel
theorem dL_law_142 : decode cL_law 142 = .ok (.ireturn, 1) := by decide +kernel
theorem dL_law_143 : decode cL_law 143 = .ok (.iinc 3 1, 3) := by decide +kernel
theorem dL_law_146 : decode cL_law 146 = .ok (.goto (-74), 3) := by decide +kernel
theorem dL_law_149 : decode cL_law 149 = .ok (.iconst 0, 1) := by decide +kernel
theorem dL_law_150 : decode cL_law 150 = .ok (.istore_n 3, 1) := by decide +kernel
theorem dL_law_151 : decode cL_law 151 = .ok (.iload_n 3, 1) := by decide +kernel
theorem dL_law_152 : decode cL_law 152 = .ok (.iconst 3, 1) := by decide +kernel
theorem dL_law_153 : decode cL_law 153 = .ok (.if_icmp .ge 49, 3) := by decide +kernel
theorem dL_law_156 : decode cL_law 156 = .ok (.aload_n 1, 1) := by decide +kernel
theorem dL_law_157 : decode cL_law 157 = .ok (.aload_n 0, 1) := by decide +kernel
theorem dL_law_158 : decode cL_law 158 = .ok (.bipush 33, 2) := by decide +kernel
theorem dL_law_160 : decode cL_law 160 = .ok (.iload_n 3, 1) := by decide +kernel
theorem dL_law_161 : decode cL_law 161 = .ok (.iadd, 1) := by decide +kernel
theorem dL_law_162 : decode cL_law 162 = .ok (.iload_n 2, 1) := by decide +kernel
theorem dL_law_163 : decode cL_law 163 = .ok (.invokestatic 47, 3) := by decide +kernel
theorem dL_law_166 : decode cL_law 166 = .ok (.iconst 2, 1) := by decide +kernel
theorem dL_law_167 : decode cL_law 167 = .ok (.aload_n 0, 1) := by decide +kernel
theorem dL_law_168 : decode cL_law 168 = .ok (.bipush 36, 2) := by decide +kernel
theorem dL_law_170 : decode cL_law 170 = .ok (.iload_n 3, 1) := by decide +kernel
theorem dL_law_171 : decode cL_law 171 = .ok (.iadd, 1) := by decide +kernel
theorem dL_law_172 : decode cL_law 172 = .ok (.bipush 12, 2) := by decide +kernel
theorem dL_law_174 : decode cL_law 174 = .ok (.invokestatic 47, 3) := by decide +kernel
theorem dL_law_177 : decode cL_law 177 = .ok (.iadd, 1) := by decide +kernel
theorem dL_law_178 : decode cL_law 178 = .ok (.aload_n 0, 1) := by decide +kernel
theorem dL_law_179 : decode cL_law 179 = .ok (.bipush 39, 2) := by decide +kernel
theorem dL_law_181 : decode cL_law 181 = .ok (.iload_n 3, 1) := by decide +kernel
theorem dL_law_182 : decode cL_law 182 = .ok (.iadd, 1) := by decide +kernel
theorem dL_law_183 : decode cL_law 183 = .ok (.bipush 8, 2) := by decide +kernel
theorem dL_law_185 : decode cL_law 185 = .ok (.invokestatic 47, 3) := by decide +kernel
theorem dL_law_188 : decode cL_law 188 = .ok (.invokestatic 62, 3) := by decide +kernel
theorem dL_law_191 : decode cL_law 191 = .ok (.ifCond .ne 5, 3) := by decide +kernel
theorem dL_law_194 : decode cL_law 194 = .ok (.iconst 0, 1) := by decide +kernel
theorem dL_law_195 : decode cL_law 195 = .ok (.ireturn, 1) := by decide +kernel
theorem dL_law_196 : decode cL_law 196 = .ok (.iinc 3 1, 3) := by decide +kernel
theorem dL_law_199 : decode cL_law 199 = .ok (.goto (-48), 3) := by decide +kernel
theorem dL_law_202 : decode cL_law 202 = .ok (.iconst 0, 1) := by decide +kernel
theorem dL_law_203 : decode cL_law 203 = .ok (.istore_n 3, 1) := by decide +kernel
theorem dL_law_204 : decode cL_law 204 = .ok (.iload_n 3, 1) := by decide +kernel
theorem dL_law_205 : decode cL_law 205 = .ok (.bipush 80, 2) := by decide +kernel
theorem dL_law_207 : decode cL_law 207 = .ok (.if_icmp .ge 32, 3) := by decide +kernel
theorem dL_law_210 : decode cL_law 210 = .ok (.aload_n 1, 1) := by decide +kernel
theorem dL_law_211 : decode cL_law 211 = .ok (.aload_n 0, 1) := by decide +kernel
theorem dL_law_212 : decode cL_law 212 = .ok (.bipush 42, 2) := by decide +kernel
theorem dL_law_214 : decode cL_law 214 = .ok (.iconst 5, 1) := by decide +kernel
theorem dL_law_215 : decode cL_law 215 = .ok (.iload_n 3, 1) := by decide +kernel
theorem dL_law_216 : decode cL_law 216 = .ok (.imul, 1) := by decide +kernel
theorem dL_law_217 : decode cL_law 217 = .ok (.iadd, 1) := by decide +kernel
theorem dL_law_218 : decode cL_law 218 = .ok (.invokestatic 83, 3) := by decide +kernel
theorem dL_law_221 : decode cL_law 221 = .ok (.ifCond .eq 10, 3) := by decide +kernel
theorem dL_law_224 : decode cL_law 224 = .ok (.aload_n 1, 1) := by decide +kernel
theorem dL_law_225 : decode cL_law 225 = .ok (.invokestatic 87, 3) := by decide +kernel
theorem dL_law_228 : decode cL_law 228 = .ok (.ifCond .ne 5, 3) := by decide +kernel
theorem dL_law_231 : decode cL_law 231 = .ok (.iconst 0, 1) := by decide +kernel
theorem dL_law_232 : decode cL_law 232 = .ok (.ireturn, 1) := by decide +kernel
theorem dL_law_233 : decode cL_law 233 = .ok (.iinc 3 1, 3) := by decide +kernel
theorem dL_law_236 : decode cL_law 236 = .ok (.goto (-32), 3) := by decide +kernel
theorem dL_law_239 : decode cL_law 239 = .ok (.iconst 1, 1) := by decide +kernel
theorem dL_law_240 : decode cL_law 240 = .ok (.ireturn, 1) := by decide +kernel
