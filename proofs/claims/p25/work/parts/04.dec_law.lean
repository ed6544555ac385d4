theorem dL_cell_0 : decode cL_cell 0 = .ok (.iload_n 1, 1) := by decide +kernel
theorem dL_cell_1 : decode cL_cell 1 = .ok (.aload_n 0, 1) := by decide +kernel
theorem dL_cell_2 : decode cL_cell 2 = .ok (.arraylength, 1) := by decide +kernel
theorem dL_cell_3 : decode cL_cell 3 = .ok (.if_icmp .ge 9, 3) := by decide +kernel
theorem dL_cell_6 : decode cL_cell 6 = .ok (.aload_n 0, 1) := by decide +kernel
theorem dL_cell_7 : decode cL_cell 7 = .ok (.iload_n 1, 1) := by decide +kernel
theorem dL_cell_8 : decode cL_cell 8 = .ok (.iaload, 1) := by decide +kernel
theorem dL_cell_9 : decode cL_cell 9 = .ok (.goto 11, 3) := by decide +kernel
theorem dL_cell_12 : decode cL_cell 12 = .ok (.ldc 7, 2) := by decide +kernel
theorem dL_cell_14 : decode cL_cell 14 = .ok (.iload_n 1, 1) := by decide +kernel
theorem dL_cell_15 : decode cL_cell 15 = .ok (.imul, 1) := by decide +kernel
theorem dL_cell_16 : decode cL_cell 16 = .ok (.sipush 8373, 3) := by decide +kernel
theorem dL_cell_19 : decode cL_cell 19 = .ok (.iadd, 1) := by decide +kernel
theorem dL_cell_20 : decode cL_cell 20 = .ok (.ldc 8, 2) := by decide +kernel
theorem dL_cell_22 : decode cL_cell 22 = .ok (.iand, 1) := by decide +kernel
theorem dL_cell_23 : decode cL_cell 23 = .ok (.ireturn, 1) := by decide +kernel
theorem dL_areSums_0 : decode cL_areSums 0 = .ok (.iconst 0, 1) := by decide +kernel
theorem dL_areSums_1 : decode cL_areSums 1 = .ok (.istore_n 1, 1) := by decide +kernel
theorem dL_areSums_2 : decode cL_areSums 2 = .ok (.iconst 0, 1) := by decide +kernel
theorem dL_areSums_3 : decode cL_areSums 3 = .ok (.istore_n 2, 1) := by decide +kernel
theorem dL_areSums_4 : decode cL_areSums 4 = .ok (.iconst 0, 1) := by decide +kernel
theorem dL_areSums_5 : decode cL_areSums 5 = .ok (.istore_n 3, 1) := by decide +kernel
theorem dL_areSums_6 : decode cL_areSums 6 = .ok (.iconst 0, 1) := by decide +kernel
theorem dL_areSums_7 : decode cL_areSums 7 = .ok (.istore 4, 2) := by decide +kernel
theorem dL_areSums_9 : decode cL_areSums 9 = .ok (.iconst 0, 1) := by decide +kernel
theorem dL_areSums_10 : decode cL_areSums 10 = .ok (.istore 5, 2) := by decide +kernel
theorem dL_areSums_12 : decode cL_areSums 12 = .ok (.iconst 0, 1) := by decide +kernel
theorem dL_areSums_13 : decode cL_areSums 13 = .ok (.istore 6, 2) := by decide +kernel
theorem dL_areSums_15 : decode cL_areSums 15 = .ok (.iconst 0, 1) := by decide +kernel
theorem dL_areSums_16 : decode cL_areSums 16 = .ok (.istore 7, 2) := by decide +kernel
theorem dL_areSums_18 : decode cL_areSums 18 = .ok (.iconst 0, 1) := by decide +kernel
theorem dL_areSums_19 : decode cL_areSums 19 = .ok (.istore 8, 2) := by decide +kernel
theorem dL_areSums_21 : decode cL_areSums 21 = .ok (.aload_n 0, 1) := by decide +kernel
theorem dL_areSums_22 : decode cL_areSums 22 = .ok (.aload_n 0, 1) := by decide +kernel
theorem dL_areSums_23 : decode cL_areSums 23 = .ok (.iconst 5, 1) := by decide +kernel
theorem dL_areSums_24 : decode cL_areSums 24 = .ok (.invokevirtual 9, 3) := by decide +kernel
theorem dL_areSums_27 : decode cL_areSums 27 = .ok (.iconst 0, 1) := by decide +kernel
theorem dL_areSums_28 : decode cL_areSums 28 = .ok (.invokevirtual 15, 3) := by decide +kernel
theorem dL_areSums_31 : decode cL_areSums 31 = .ok (.iconst (-1), 1) := by decide +kernel
theorem dL_areSums_32 : decode cL_areSums 32 = .ok (.if_icmp .ne 21, 3) := by decide +kernel
theorem dL_areSums_35 : decode cL_areSums 35 = .ok (.aload_n 0, 1) := by decide +kernel
theorem dL_areSums_36 : decode cL_areSums 36 = .ok (.aload_n 0, 1) := by decide +kernel
theorem dL_areSums_37 : decode cL_areSums 37 = .ok (.iconst 0, 1) := by decide +kernel
theorem dL_areSums_38 : decode cL_areSums 38 = .ok (.invokevirtual 9, 3) := by decide +kernel
theorem dL_areSums_41 : decode cL_areSums 41 = .ok (.iconst 0, 1) := by decide +kernel
theorem dL_areSums_42 : decode cL_areSums 42 = .ok (.invokevirtual 19, 3) := by decide +kernel
theorem dL_areSums_45 : decode cL_areSums 45 = .ok (.iconst (-1), 1) := by decide +kernel
theorem dL_areSums_46 : decode cL_areSums 46 = .ok (.if_icmp .ne 7, 3) := by decide +kernel
theorem dL_areSums_49 : decode cL_areSums 49 = .ok (.iconst 1, 1) := by decide +kernel
theorem dL_areSums_50 : decode cL_areSums 50 = .ok (.goto 4, 3) := by decide +kernel
theorem dL_areSums_53 : decode cL_areSums 53 = .ok (.iconst 0, 1) := by decide +kernel
theorem dL_areSums_54 : decode cL_areSums 54 = .ok (.istore 9, 2) := by decide +kernel
theorem dL_areSums_56 : decode cL_areSums 56 = .ok (.iconst 0, 1) := by decide +kernel
theorem dL_areSums_57 : decode cL_areSums 57 = .ok (.istore 10, 2) := by decide +kernel
theorem dL_areSums_59 : decode cL_areSums 59 = .ok (.iload 10, 2) := by decide +kernel
theorem dL_areSums_61 : decode cL_areSums 61 = .ok (.aload_n 0, 1) := by decide +kernel
theorem dL_areSums_62 : decode cL_areSums 62 = .ok (.iconst 5, 1) := by decide +kernel
theorem dL_areSums_63 : decode cL_areSums 63 = .ok (.invokevirtual 9, 3) := by decide +kernel
theorem dL_areSums_66 : decode cL_areSums 66 = .ok (.if_icmp .ge 253, 3) := by decide +kernel
theorem dL_areSums_69 : decode cL_areSums 69 = .ok (.iload 9, 2) := by decide +kernel
theorem dL_areSums_71 : decode cL_areSums 71 = .ok (.ifCond .eq 248, 3) := by decide +kernel
theorem dL_areSums_74 : decode cL_areSums 74 = .ok (.aload_n 0, 1) := by decide +kernel
theorem dL_areSums_75 : decode cL_areSums 75 = .ok (.iload 10, 2) := by decide +kernel
theorem dL_areSums_77 : decode cL_areSums 77 = .ok (.iconst 3, 1) := by decide +kernel
theorem dL_areSums_78 : decode cL_areSums 78 = .ok (.invokevirtual 15, 3) := by decide +kernel
theorem dL_areSums_81 : decode cL_areSums 81 = .ok (.istore 11, 2) := by decide +kernel
theorem dL_areSums_83 : decode cL_areSums 83 = .ok (.iload_n 1, 1) := by decide +kernel
theorem dL_areSums_84 : decode cL_areSums 84 = .ok (.iload 11, 2) := by decide +kernel
theorem dL_areSums_86 : decode cL_areSums 86 = .ok (.iadd, 1) := by decide +kernel
theorem dL_areSums_87 : decode cL_areSums 87 = .ok (.istore_n 1, 1) := by decide +kernel
theorem dL_areSums_88 : decode cL_areSums 88 = .ok (.iload_n 2, 1) := by decide +kernel
theorem dL_areSums_89 : decode cL_areSums 89 = .ok (.aload_n 0, 1) := by decide +kernel
theorem dL_areSums_90 : decode cL_areSums 90 = .ok (.iload 10, 2) := by decide +kernel
theorem dL_areSums_92 : decode cL_areSums 92 = .ok (.iconst 2, 1) := by decide +kernel
theorem dL_areSums_93 : decode cL_areSums 93 = .ok (.invokevirtual 15, 3) := by decide +kernel
theorem dL_areSums_96 : decode cL_areSums 96 = .ok (.iload 11, 2) := by decide +kernel
theorem dL_areSums_98 : decode cL_areSums 98 = .ok (.isub, 1) := by decide +kernel
theorem dL_areSums_99 : decode cL_areSums 99 = .ok (.iadd, 1) := by decide +kernel
theorem dL_areSums_100 : decode cL_areSums 100 = .ok (.istore_n 2, 1) := by decide +kernel
theorem dL_areSums_101 : decode cL_areSums 101 = .ok (.iload_n 3, 1) := by decide +kernel
theorem dL_areSums_102 : decode cL_areSums 102 = .ok (.aload_n 0, 1) := by decide +kernel
theorem dL_areSums_103 : decode cL_areSums 103 = .ok (.iload 10, 2) := by decide +kernel
theorem dL_areSums_105 : decode cL_areSums 105 = .ok (.iconst 5, 1) := by decide +kernel
theorem dL_areSums_106 : decode cL_areSums 106 = .ok (.invokevirtual 15, 3) := by decide +kernel
theorem dL_areSums_109 : decode cL_areSums 109 = .ok (.iadd, 1) := by decide +kernel
theorem dL_areSums_110 : decode cL_areSums 110 = .ok (.istore_n 3, 1) := by decide +kernel
theorem dL_areSums_111 : decode cL_areSums 111 = .ok (.iload 4, 2) := by decide +kernel
theorem dL_areSums_113 : decode cL_areSums 113 = .ok (.aload_n 0, 1) := by decide +kernel
theorem dL_areSums_114 : decode cL_areSums 114 = .ok (.iload 10, 2) := by decide +kernel
theorem dL_areSums_116 : decode cL_areSums 116 = .ok (.bipush 6, 2) := by decide +kernel
theorem dL_areSums_118 : decode cL_areSums 118 = .ok (.invokevirtual 15, 3) := by decide +kernel
theorem dL_areSums_121 : decode cL_areSums 121 = .ok (.iadd, 1) := by decide +kernel
theorem dL_areSums_122 : decode cL_areSums 122 = .ok (.istore 4, 2) := by decide +kernel
theorem dL_areSums_124 : decode cL_areSums 124 = .ok (.iload 11, 2) := by decide +kernel
theorem dL_areSums_126 : decode cL_areSums 126 = .ok (.ifCond .lt 184, 3) := by decide +kernel
theorem dL_areSums_129 : decode cL_areSums 129 = .ok (.iload 11, 2) := by decide +kernel
theorem dL_areSums_131 : decode cL_areSums 131 = .ok (.aload_n 0, 1) := by decide +kernel
theorem dL_areSums_132 : decode cL_areSums 132 = .ok (.iload 10, 2) := by decide +kernel
theorem dL_areSums_134 : decode cL_areSums 134 = .ok (.iconst 2, 1) := by decide +kernel
theorem dL_areSums_135 : decode cL_areSums 135 = .ok (.invokevirtual 15, 3) := by decide +kernel
theorem dL_areSums_138 : decode cL_areSums 138 = .ok (.if_icmp .gt 172, 3) := by decide +kernel
theorem dL_areSums_141 : decode cL_areSums 141 = .ok (.iload 11, 2) := by decide +kernel
theorem dL_areSums_143 : decode cL_areSums 143 = .ok (.ifCond .ne 7, 3) := by decide +kernel
theorem dL_areSums_146 : decode cL_areSums 146 = .ok (.iconst 1, 1) := by decide +kernel
theorem dL_areSums_147 : decode cL_areSums 147 = .ok (.goto 4, 3) := by decide +kernel
theorem dL_areSums_150 : decode cL_areSums 150 = .ok (.iconst 0, 1) := by decide +kernel
theorem dL_areSums_151 : decode cL_areSums 151 = .ok (.aload_n 0, 1) := by decide +kernel
theorem dL_areSums_152 : decode cL_areSums 152 = .ok (.iload 10, 2) := by decide +kernel
theorem dL_areSums_154 : decode cL_areSums 154 = .ok (.iconst 4, 1) := by decide +kernel
theorem dL_areSums_155 : decode cL_areSums 155 = .ok (.invokevirtual 15, 3) := by decide +kernel
theorem dL_areSums_158 : decode cL_areSums 158 = .ok (.bipush (-6), 2) := by decide +kernel
theorem dL_areSums_160 : decode cL_areSums 160 = .ok (.if_icmp .ne 7, 3) := by decide +kernel
theorem dL_areSums_163 : decode cL_areSums 163 = .ok (.iconst 1, 1) := by decide +kernel
theorem dL_areSums_164 : decode cL_areSums 164 = .ok (.goto 4, 3) := by decide +kernel
theorem dL_areSums_167 : decode cL_areSums 167 = .ok (.iconst 0, 1) := by decide +kernel
theorem dL_areSums_168 : decode cL_areSums 168 = .ok (.if_icmp .ne 142, 3) := by decide +kernel
theorem dL_areSums_171 : decode cL_areSums 171 = .ok (.iload 11, 2) := by decide +kernel
theorem dL_areSums_173 : decode cL_areSums 173 = .ok (.ifCond .ne 7, 3) := by decide +kernel
theorem dL_areSums_176 : decode cL_areSums 176 = .ok (.iconst 1, 1) := by decide +kernel
theorem dL_areSums_177 : decode cL_areSums 177 = .ok (.goto 4, 3) := by decide +kernel
theorem dL_areSums_180 : decode cL_areSums 180 = .ok (.iconst 0, 1) := by decide +kernel
theorem dL_areSums_181 : decode cL_areSums 181 = .ok (.aload_n 0, 1) := by decide +kernel
theorem dL_areSums_182 : decode cL_areSums 182 = .ok (.iload 10, 2) := by decide +kernel
theorem dL_areSums_184 : decode cL_areSums 184 = .ok (.bipush 7, 2) := by decide +kernel
theorem dL_areSums_186 : decode cL_areSums 186 = .ok (.invokevirtual 15, 3) := by decide +kernel
theorem dL_areSums_189 : decode cL_areSums 189 = .ok (.ifCond .lt 7, 3) := by decide +kernel
theorem dL_areSums_192 : decode cL_areSums 192 = .ok (.iconst 1, 1) := by decide +kernel
theorem dL_areSums_193 : decode cL_areSums 193 = .ok (.goto 4, 3) := by decide +kernel
theorem dL_areSums_196 : decode cL_areSums 196 = .ok (.iconst 0, 1) := by decide +kernel
theorem dL_areSums_197 : decode cL_areSums 197 = .ok (.if_icmp .ne 113, 3) := by decide +kernel
theorem dL_areSums_200 : decode cL_areSums 200 = .ok (.aload_n 0, 1) := by decide +kernel
theorem dL_areSums_201 : decode cL_areSums 201 = .ok (.iload 10, 2) := by decide +kernel
theorem dL_areSums_203 : decode cL_areSums 203 = .ok (.bipush 7, 2) := by decide +kernel
theorem dL_areSums_205 : decode cL_areSums 205 = .ok (.invokevirtual 15, 3) := by decide +kernel
theorem dL_areSums_208 : decode cL_areSums 208 = .ok (.aload_n 0, 1) := by decide +kernel
theorem dL_areSums_209 : decode cL_areSums 209 = .ok (.iconst 4, 1) := by decide +kernel
theorem dL_areSums_210 : decode cL_areSums 210 = .ok (.invokevirtual 9, 3) := by decide +kernel
theorem dL_areSums_213 : decode cL_areSums 213 = .ok (.if_icmp .ge 97, 3) := by decide +kernel
theorem dL_areSums_216 : decode cL_areSums 216 = .ok (.aload_n 0, 1) := by decide +kernel
theorem dL_areSums_217 : decode cL_areSums 217 = .ok (.iload 10, 2) := by decide +kernel
theorem dL_areSums_219 : decode cL_areSums 219 = .ok (.bipush 6, 2) := by decide +kernel
theorem dL_areSums_221 : decode cL_areSums 221 = .ok (.invokevirtual 15, 3) := by decide +kernel
theorem dL_areSums_224 : decode cL_areSums 224 = .ok (.aload_n 0, 1) := by decide +kernel
theorem dL_areSums_225 : decode cL_areSums 225 = .ok (.iload 10, 2) := by decide +kernel
theorem dL_areSums_227 : decode cL_areSums 227 = .ok (.iconst 5, 1) := by decide +kernel
theorem dL_areSums_228 : decode cL_areSums 228 = .ok (.invokevirtual 15, 3) := by decide +kernel
theorem dL_areSums_231 : decode cL_areSums 231 = .ok (.if_icmp .gt 79, 3) := by decide +kernel
theorem dL_areSums_234 : decode cL_areSums 234 = .ok (.aload_n 0, 1) := by decide +kernel
theorem dL_areSums_235 : decode cL_areSums 235 = .ok (.iload 10, 2) := by decide +kernel
theorem dL_areSums_237 : decode cL_areSums 237 = .ok (.bipush 8, 2) := by decide +kernel
theorem dL_areSums_239 : decode cL_areSums 239 = .ok (.invokevirtual 15, 3) := by decide +kernel
theorem dL_areSums_242 : decode cL_areSums 242 = .ok (.iconst 1, 1) := by decide +kernel
theorem dL_areSums_243 : decode cL_areSums 243 = .ok (.if_icmp .lt 67, 3) := by decide +kernel
theorem dL_areSums_246 : decode cL_areSums 246 = .ok (.aload_n 0, 1) := by decide +kernel
theorem dL_areSums_247 : decode cL_areSums 247 = .ok (.iload 10, 2) := by decide +kernel
theorem dL_areSums_249 : decode cL_areSums 249 = .ok (.bipush 8, 2) := by decide +kernel
theorem dL_areSums_251 : decode cL_areSums 251 = .ok (.invokevirtual 15, 3) := by decide +kernel
theorem dL_areSums_254 : decode cL_areSums 254 = .ok (.aload_n 0, 1) := by decide +kernel
theorem dL_areSums_255 : decode cL_areSums 255 = .ok (.iconst 2, 1) := by decide +kernel
theorem dL_areSums_256 : decode cL_areSums 256 = .ok (.invokevirtual 9, 3) := by decide +kernel
theorem dL_areSums_259 : decode cL_areSums 259 = .ok (.iconst 2, 1) := by decide +kernel
theorem dL_areSums_260 : decode cL_areSums 260 = .ok (.if_icmp .ne 12, 3) := by decide +kernel
theorem dL_areSums_263 : decode cL_areSums 263 = .ok (.aload_n 0, 1) := by decide +kernel
theorem dL_areSums_264 : decode cL_areSums 264 = .ok (.bipush 11, 2) := by decide +kernel
theorem dL_areSums_266 : decode cL_areSums 266 = .ok (.invokevirtual 9, 3) := by decide +kernel
theorem dL_areSums_269 : decode cL_areSums 269 = .ok (.goto 8, 3) := by decide +kernel
theorem dL_areSums_272 : decode cL_areSums 272 = .ok (.aload_n 0, 1) := by decide +kernel
theorem dL_areSums_273 : decode cL_areSums 273 = .ok (.iconst 0, 1) := by decide +kernel
theorem dL_areSums_274 : decode cL_areSums 274 = .ok (.invokevirtual 9, 3) := by decide +kernel
theorem dL_areSums_277 : decode cL_areSums 277 = .ok (.if_icmp .gt 33, 3) := by decide +kernel
theorem dL_areSums_280 : decode cL_areSums 280 = .ok (.aload_n 0, 1) := by decide +kernel
theorem dL_areSums_281 : decode cL_areSums 281 = .ok (.iload 10, 2) := by decide +kernel
theorem dL_areSums_283 : decode cL_areSums 283 = .ok (.iconst 5, 1) := by decide +kernel
theorem dL_areSums_284 : decode cL_areSums 284 = .ok (.invokevirtual 15, 3) := by decide +kernel
theorem dL_areSums_287 : decode cL_areSums 287 = .ok (.aload_n 0, 1) := by decide +kernel
theorem dL_areSums_288 : decode cL_areSums 288 = .ok (.iload 10, 2) := by decide +kernel
theorem dL_areSums_290 : decode cL_areSums 290 = .ok (.iconst 2, 1) := by decide +kernel
theorem dL_areSums_291 : decode cL_areSums 291 = .ok (.invokevirtual 15, 3) := by decide +kernel
theorem dL_areSums_294 : decode cL_areSums 294 = .ok (.iadd, 1) := by decide +kernel
theorem dL_areSums_295 : decode cL_areSums 295 = .ok (.iload 11, 2) := by decide +kernel
theorem dL_areSums_297 : decode cL_areSums 297 = .ok (.isub, 1) := by decide +kernel
theorem dL_areSums_298 : decode cL_areSums 298 = .ok (.aload_n 0, 1) := by decide +kernel
theorem dL_areSums_299 : decode cL_areSums 299 = .ok (.iconst 4, 1) := by decide +kernel
theorem dL_areSums_300 : decode cL_areSums 300 = .ok (.invokevirtual 9, 3) := by decide +kernel
theorem dL_areSums_303 : decode cL_areSums 303 = .ok (.if_icmp .gt 7, 3) := by decide +kernel
theorem dL_areSums_306 : decode cL_areSums 306 = .ok (.iconst 1, 1) := by decide +kernel
theorem dL_areSums_307 : decode cL_areSums 307 = .ok (.goto 4, 3) := by decide +kernel
theorem dL_areSums_310 : decode cL_areSums 310 = .ok (.iconst 0, 1) := by decide +kernel
theorem dL_areSums_311 : decode cL_areSums 311 = .ok (.istore 9, 2) := by decide +kernel
theorem dL_areSums_313 : decode cL_areSums 313 = .ok (.iinc 10 1, 3) := by decide +kernel
theorem dL_areSums_316 : decode cL_areSums 316 = .ok (.goto (-257), 3) := by decide +kernel
theorem dL_areSums_319 : decode cL_areSums 319 = .ok (.iconst 0, 1) := by decide +kernel
theorem dL_areSums_320 : decode cL_areSums 320 = .ok (.istore 10, 2) := by decide +kernel
theorem dL_areSums_322 : decode cL_areSums 322 = .ok (.iload 10, 2) := by decide +kernel
theorem dL_areSums_324 : decode cL_areSums 324 = .ok (.aload_n 0, 1) := by decide +kernel
theorem dL_areSums_325 : decode cL_areSums 325 = .ok (.iconst 0, 1) := by decide +kernel
theorem dL_areSums_326 : decode cL_areSums 326 = .ok (.invokevirtual 9, 3) := by decide +kernel
theorem dL_areSums_329 : decode cL_areSums 329 = .ok (.if_icmp .ge 132, 3) := by decide +kernel
theorem dL_areSums_332 : decode cL_areSums 332 = .ok (.iload 9, 2) := by decide +kernel
theorem dL_areSums_334 : decode cL_areSums 334 = .ok (.ifCond .eq 127, 3) := by decide +kernel
theorem dL_areSums_337 : decode cL_areSums 337 = .ok (.iload 5, 2) := by decide +kernel
theorem dL_areSums_339 : decode cL_areSums 339 = .ok (.aload_n 0, 1) := by decide +kernel
theorem dL_areSums_340 : decode cL_areSums 340 = .ok (.iload 10, 2) := by decide +kernel
theorem dL_areSums_342 : decode cL_areSums 342 = .ok (.iconst 3, 1) := by decide +kernel
theorem dL_areSums_343 : decode cL_areSums 343 = .ok (.invokevirtual 19, 3) := by decide +kernel
theorem dL_areSums_346 : decode cL_areSums 346 = .ok (.iadd, 1) := by decide +kernel
theorem dL_areSums_347 : decode cL_areSums 347 = .ok (.istore 5, 2) := by decide +kernel
theorem dL_areSums_349 : decode cL_areSums 349 = .ok (.iload 6, 2) := by decide +kernel
theorem dL_areSums_351 : decode cL_areSums 351 = .ok (.aload_n 0, 1) := by decide +kernel
theorem dL_areSums_352 : decode cL_areSums 352 = .ok (.iload 10, 2) := by decide +kernel
theorem dL_areSums_354 : decode cL_areSums 354 = .ok (.iconst 0, 1) := by decide +kernel
theorem dL_areSums_355 : decode cL_areSums 355 = .ok (.invokevirtual 19, 3) := by decide +kernel
theorem dL_areSums_358 : decode cL_areSums 358 = .ok (.ifCond .le 7, 3) := by decide +kernel
theorem dL_areSums_361 : decode cL_areSums 361 = .ok (.iconst 1, 1) := by decide +kernel
theorem dL_areSums_362 : decode cL_areSums 362 = .ok (.goto 4, 3) := by decide +kernel
theorem dL_areSums_365 : decode cL_areSums 365 = .ok (.iconst 0, 1) := by decide +kernel
theorem dL_areSums_366 : decode cL_areSums 366 = .ok (.iadd, 1) := by decide +kernel
theorem dL_areSums_367 : decode cL_areSums 367 = .ok (.istore 6, 2) := by decide +kernel
theorem dL_areSums_369 : decode cL_areSums 369 = .ok (.iload 7, 2) := by decide +kernel
theorem dL_areSums_371 : decode cL_areSums 371 = .ok (.aload_n 0, 1) := by decide +kernel
theorem dL_areSums_372 : decode cL_areSums 372 = .ok (.iload 10, 2) := by decide +kernel
theorem dL_areSums_374 : decode cL_areSums 374 = .ok (.iconst 1, 1) := by decide +kernel
theorem dL_areSums_375 : decode cL_areSums 375 = .ok (.invokevirtual 19, 3) := by decide +kernel
theorem dL_areSums_378 : decode cL_areSums 378 = .ok (.iadd, 1) := by decide +kernel
theorem dL_areSums_379 : decode cL_areSums 379 = .ok (.istore 7, 2) := by decide +kernel
theorem dL_areSums_381 : decode cL_areSums 381 = .ok (.iload 8, 2) := by decide +kernel
theorem dL_areSums_383 : decode cL_areSums 383 = .ok (.aload_n 0, 1) := by decide +kernel
theorem dL_areSums_384 : decode cL_areSums 384 = .ok (.iload 10, 2) := by decide +kernel
theorem dL_areSums_386 : decode cL_areSums 386 = .ok (.iconst 2, 1) := by decide +kernel
theorem dL_areSums_387 : decode cL_areSums 387 = .ok (.invokevirtual 19, 3) := by decide +kernel
theorem dL_areSums_390 : decode cL_areSums 390 = .ok (.iadd, 1) := by decide +kernel
theorem dL_areSums_391 : decode cL_areSums 391 = .ok (.istore 8, 2) := by decide +kernel
theorem dL_areSums_393 : decode cL_areSums 393 = .ok (.aload_n 0, 1) := by decide +kernel
theorem dL_areSums_394 : decode cL_areSums 394 = .ok (.iload 10, 2) := by decide +kernel
theorem dL_areSums_396 : decode cL_areSums 396 = .ok (.iconst 0, 1) := by decide +kernel
theorem dL_areSums_397 : decode cL_areSums 397 = .ok (.invokevirtual 19, 3) := by decide +kernel
theorem dL_areSums_400 : decode cL_areSums 400 = .ok (.aload_n 0, 1) := by decide +kernel
theorem dL_areSums_401 : decode cL_areSums 401 = .ok (.iconst 1, 1) := by decide +kernel
theorem dL_areSums_402 : decode cL_areSums 402 = .ok (.invokevirtual 9, 3) := by decide +kernel
theorem dL_areSums_405 : decode cL_areSums 405 = .ok (.if_icmp .ge 47, 3) := by decide +kernel
theorem dL_areSums_408 : decode cL_areSums 408 = .ok (.aload_n 0, 1) := by decide +kernel
theorem dL_areSums_409 : decode cL_areSums 409 = .ok (.iconst 2, 1) := by decide +kernel
theorem dL_areSums_410 : decode cL_areSums 410 = .ok (.invokevirtual 9, 3) := by decide +kernel
theorem dL_areSums_413 : decode cL_areSums 413 = .ok (.iconst 2, 1) := by decide +kernel
theorem dL_areSums_414 : decode cL_areSums 414 = .ok (.if_icmp .lt 34, 3) := by decide +kernel
theorem dL_areSums_417 : decode cL_areSums 417 = .ok (.iload 10, 2) := by decide +kernel
theorem dL_areSums_419 : decode cL_areSums 419 = .ok (.aload_n 0, 1) := by decide +kernel
theorem dL_areSums_420 : decode cL_areSums 420 = .ok (.bipush 11, 2) := by decide +kernel
theorem dL_areSums_422 : decode cL_areSums 422 = .ok (.invokevirtual 9, 3) := by decide +kernel
theorem dL_areSums_425 : decode cL_areSums 425 = .ok (.if_icmp .lt 23, 3) := by decide +kernel
theorem dL_areSums_428 : decode cL_areSums 428 = .ok (.aload_n 0, 1) := by decide +kernel
theorem dL_areSums_429 : decode cL_areSums 429 = .ok (.iload 10, 2) := by decide +kernel
theorem dL_areSums_431 : decode cL_areSums 431 = .ok (.iconst 1, 1) := by decide +kernel
theorem dL_areSums_432 : decode cL_areSums 432 = .ok (.invokevirtual 19, 3) := by decide +kernel
theorem dL_areSums_435 : decode cL_areSums 435 = .ok (.ifCond .ne 17, 3) := by decide +kernel
theorem dL_areSums_438 : decode cL_areSums 438 = .ok (.aload_n 0, 1) := by decide +kernel
theorem dL_areSums_439 : decode cL_areSums 439 = .ok (.iload 10, 2) := by decide +kernel
theorem dL_areSums_441 : decode cL_areSums 441 = .ok (.iconst 3, 1) := by decide +kernel
theorem dL_areSums_442 : decode cL_areSums 442 = .ok (.invokevirtual 19, 3) := by decide +kernel
theorem dL_areSums_445 : decode cL_areSums 445 = .ok (.ifCond .ne 7, 3) := by decide +kernel
theorem dL_areSums_448 : decode cL_areSums 448 = .ok (.iconst 1, 1) := by decide +kernel
theorem dL_areSums_449 : decode cL_areSums 449 = .ok (.goto 4, 3) := by decide +kernel
theorem dL_areSums_452 : decode cL_areSums 452 = .ok (.iconst 0, 1) := by decide +kernel
theorem dL_areSums_453 : decode cL_areSums 453 = .ok (.istore 9, 2) := by decide +kernel
theorem dL_areSums_455 : decode cL_areSums 455 = .ok (.iinc 10 1, 3) := by decide +kernel
theorem dL_areSums_458 : decode cL_areSums 458 = .ok (.goto (-136), 3) := by decide +kernel
theorem dL_areSums_461 : decode cL_areSums 461 = .ok (.iload 9, 2) := by decide +kernel
theorem dL_areSums_463 : decode cL_areSums 463 = .ok (.ifCond .eq 77, 3) := by decide +kernel
theorem dL_areSums_466 : decode cL_areSums 466 = .ok (.iload_n 1, 1) := by decide +kernel
theorem dL_areSums_467 : decode cL_areSums 467 = .ok (.aload_n 0, 1) := by decide +kernel
theorem dL_areSums_468 : decode cL_areSums 468 = .ok (.bipush 6, 2) := by decide +kernel
theorem dL_areSums_470 : decode cL_areSums 470 = .ok (.invokevirtual 9, 3) := by decide +kernel
theorem dL_areSums_473 : decode cL_areSums 473 = .ok (.if_icmp .ne 67, 3) := by decide +kernel
theorem dL_areSums_476 : decode cL_areSums 476 = .ok (.iload_n 2, 1) := by decide +kernel
theorem dL_areSums_477 : decode cL_areSums 477 = .ok (.aload_n 0, 1) := by decide +kernel
theorem dL_areSums_478 : decode cL_areSums 478 = .ok (.bipush 7, 2) := by decide +kernel
theorem dL_areSums_480 : decode cL_areSums 480 = .ok (.invokevirtual 9, 3) := by decide +kernel
theorem dL_areSums_483 : decode cL_areSums 483 = .ok (.if_icmp .ne 57, 3) := by decide +kernel
theorem dL_areSums_486 : decode cL_areSums 486 = .ok (.iload_n 3, 1) := by decide +kernel
theorem dL_areSums_487 : decode cL_areSums 487 = .ok (.aload_n 0, 1) := by decide +kernel
theorem dL_areSums_488 : decode cL_areSums 488 = .ok (.bipush 8, 2) := by decide +kernel
theorem dL_areSums_490 : decode cL_areSums 490 = .ok (.invokevirtual 9, 3) := by decide +kernel
theorem dL_areSums_493 : decode cL_areSums 493 = .ok (.if_icmp .ne 47, 3) := by decide +kernel
theorem dL_areSums_496 : decode cL_areSums 496 = .ok (.iload 4, 2) := by decide +kernel
theorem dL_areSums_498 : decode cL_areSums 498 = .ok (.aload_n 0, 1) := by decide +kernel
theorem dL_areSums_499 : decode cL_areSums 499 = .ok (.bipush 9, 2) := by decide +kernel
theorem dL_areSums_501 : decode cL_areSums 501 = .ok (.invokevirtual 9, 3) := by decide +kernel
theorem dL_areSums_504 : decode cL_areSums 504 = .ok (.if_icmp .ne 36, 3) := by decide +kernel
theorem dL_areSums_507 : decode cL_areSums 507 = .ok (.iload 5, 2) := by decide +kernel
theorem dL_areSums_509 : decode cL_areSums 509 = .ok (.iload_n 1, 1) := by decide +kernel
theorem dL_areSums_510 : decode cL_areSums 510 = .ok (.if_icmp .ne 30, 3) := by decide +kernel
theorem dL_areSums_513 : decode cL_areSums 513 = .ok (.iload 6, 2) := by decide +kernel
theorem dL_areSums_515 : decode cL_areSums 515 = .ok (.aload_n 0, 1) := by decide +kernel
theorem dL_areSums_516 : decode cL_areSums 516 = .ok (.bipush 10, 2) := by decide +kernel
theorem dL_areSums_518 : decode cL_areSums 518 = .ok (.invokevirtual 9, 3) := by decide +kernel
theorem dL_areSums_521 : decode cL_areSums 521 = .ok (.if_icmp .ne 19, 3) := by decide +kernel
theorem dL_areSums_524 : decode cL_areSums 524 = .ok (.iload 7, 2) := by decide +kernel
theorem dL_areSums_526 : decode cL_areSums 526 = .ok (.iload_n 2, 1) := by decide +kernel
theorem dL_areSums_527 : decode cL_areSums 527 = .ok (.if_icmp .lt 13, 3) := by decide +kernel
theorem dL_areSums_530 : decode cL_areSums 530 = .ok (.iload 8, 2) := by decide +kernel
theorem dL_areSums_532 : decode cL_areSums 532 = .ok (.iload_n 3, 1) := by decide +kernel
theorem dL_areSums_533 : decode cL_areSums 533 = .ok (.if_icmp .lt 7, 3) := by decide +kernel
theorem dL_areSums_536 : decode cL_areSums 536 = .ok (.iconst 1, 1) := by decide +kernel
theorem dL_areSums_537 : decode cL_areSums 537 = .ok (.goto 4, 3) := by decide +kernel
theorem dL_areSums_540 : decode cL_areSums 540 = .ok (.iconst 0, 1) := by decide +kernel
theorem dL_areSums_541 : decode cL_areSums 541 = .ok (.ireturn, 1) := by decide +kernel
theorem dL_areBanks_0 : decode cL_areBanks 0 = .ok (.aload_n 0, 1) := by decide +kernel
theorem dL_areBanks_1 : decode cL_areBanks 1 = .ok (.iconst 0, 1) := by decide +kernel
theorem dL_areBanks_2 : decode cL_areBanks 2 = .ok (.invokevirtual 9, 3) := by decide +kernel
theorem dL_areBanks_5 : decode cL_areBanks 5 = .ok (.istore_n 2, 1) := by decide +kernel
theorem dL_areBanks_6 : decode cL_areBanks 6 = .ok (.aload_n 0, 1) := by decide +kernel
theorem dL_areBanks_7 : decode cL_areBanks 7 = .ok (.bipush 11, 2) := by decide +kernel
theorem dL_areBanks_9 : decode cL_areBanks 9 = .ok (.invokevirtual 9, 3) := by decide +kernel
theorem dL_areBanks_12 : decode cL_areBanks 12 = .ok (.istore_n 3, 1) := by decide +kernel
theorem dL_areBanks_13 : decode cL_areBanks 13 = .ok (.iload_n 3, 1) := by decide +kernel
theorem dL_areBanks_14 : decode cL_areBanks 14 = .ok (.iload_n 2, 1) := by decide +kernel
theorem dL_areBanks_15 : decode cL_areBanks 15 = .ok (.if_icmp .gt 34, 3) := by decide +kernel
theorem dL_areBanks_18 : decode cL_areBanks 18 = .ok (.iload_n 3, 1) := by decide +kernel
theorem dL_areBanks_19 : decode cL_areBanks 19 = .ok (.iconst 2, 1) := by decide +kernel
theorem dL_areBanks_20 : decode cL_areBanks 20 = .ok (.if_icmp .lt 29, 3) := by decide +kernel
theorem dL_areBanks_23 : decode cL_areBanks 23 = .ok (.aload_n 0, 1) := by decide +kernel
theorem dL_areBanks_24 : decode cL_areBanks 24 = .ok (.sipush 4096, 3) := by decide +kernel
theorem dL_areBanks_27 : decode cL_areBanks 27 = .ok (.invokevirtual 22, 3) := by decide +kernel
theorem dL_areBanks_30 : decode cL_areBanks 30 = .ok (.bipush (-2), 2) := by decide +kernel
theorem dL_areBanks_32 : decode cL_areBanks 32 = .ok (.if_icmp .ne 17, 3) := by decide +kernel
theorem dL_areBanks_35 : decode cL_areBanks 35 = .ok (.aload_n 0, 1) := by decide +kernel
theorem dL_areBanks_36 : decode cL_areBanks 36 = .ok (.iconst (-1), 1) := by decide +kernel
theorem dL_areBanks_37 : decode cL_areBanks 37 = .ok (.invokevirtual 22, 3) := by decide +kernel
theorem dL_areBanks_40 : decode cL_areBanks 40 = .ok (.bipush (-2), 2) := by decide +kernel
theorem dL_areBanks_42 : decode cL_areBanks 42 = .ok (.if_icmp .ne 7, 3) := by decide +kernel
theorem dL_areBanks_45 : decode cL_areBanks 45 = .ok (.iconst 1, 1) := by decide +kernel
theorem dL_areBanks_46 : decode cL_areBanks 46 = .ok (.goto 4, 3) := by decide +kernel
theorem dL_areBanks_49 : decode cL_areBanks 49 = .ok (.iconst 0, 1) := by decide +kernel
theorem dL_areBanks_50 : decode cL_areBanks 50 = .ok (.istore 4, 2) := by decide +kernel
theorem dL_areBanks_52 : decode cL_areBanks 52 = .ok (.iconst 0, 1) := by decide +kernel
theorem dL_areBanks_53 : decode cL_areBanks 53 = .ok (.istore 5, 2) := by decide +kernel
theorem dL_areBanks_55 : decode cL_areBanks 55 = .ok (.iload 5, 2) := by decide +kernel
theorem dL_areBanks_57 : decode cL_areBanks 57 = .ok (.bipush 20, 2) := by decide +kernel
theorem dL_areBanks_59 : decode cL_areBanks 59 = .ok (.if_icmp .ge 101, 3) := by decide +kernel
theorem dL_areBanks_62 : decode cL_areBanks 62 = .ok (.iload 4, 2) := by decide +kernel
theorem dL_areBanks_64 : decode cL_areBanks 64 = .ok (.ifCond .eq 96, 3) := by decide +kernel
theorem dL_areBanks_67 : decode cL_areBanks 67 = .ok (.iload_n 1, 1) := by decide +kernel
theorem dL_areBanks_68 : decode cL_areBanks 68 = .ok (.sipush 389, 3) := by decide +kernel
theorem dL_areBanks_71 : decode cL_areBanks 71 = .ok (.iload 5, 2) := by decide +kernel
theorem dL_areBanks_73 : decode cL_areBanks 73 = .ok (.imul, 1) := by decide +kernel
theorem dL_areBanks_74 : decode cL_areBanks 74 = .ok (.iadd, 1) := by decide +kernel
theorem dL_areBanks_75 : decode cL_areBanks 75 = .ok (.ldc 8, 2) := by decide +kernel
theorem dL_areBanks_77 : decode cL_areBanks 77 = .ok (.iand, 1) := by decide +kernel
theorem dL_areBanks_78 : decode cL_areBanks 78 = .ok (.sipush 4096, 3) := by decide +kernel
theorem dL_areBanks_81 : decode cL_areBanks 81 = .ok (.irem, 1) := by decide +kernel
theorem dL_areBanks_82 : decode cL_areBanks 82 = .ok (.istore 6, 2) := by decide +kernel
theorem dL_areBanks_84 : decode cL_areBanks 84 = .ok (.aload_n 0, 1) := by decide +kernel
theorem dL_areBanks_85 : decode cL_areBanks 85 = .ok (.iconst 2, 1) := by decide +kernel
theorem dL_areBanks_86 : decode cL_areBanks 86 = .ok (.invokevirtual 9, 3) := by decide +kernel
theorem dL_areBanks_89 : decode cL_areBanks 89 = .ok (.iconst 2, 1) := by decide +kernel
theorem dL_areBanks_90 : decode cL_areBanks 90 = .ok (.if_icmp .ne 8, 3) := by decide +kernel
theorem dL_areBanks_93 : decode cL_areBanks 93 = .ok (.iload 6, 2) := by decide +kernel
theorem dL_areBanks_95 : decode cL_areBanks 95 = .ok (.goto 24, 3) := by decide +kernel
theorem dL_areBanks_98 : decode cL_areBanks 98 = .ok (.aload_n 0, 1) := by decide +kernel
theorem dL_areBanks_99 : decode cL_areBanks 99 = .ok (.iconst 2, 1) := by decide +kernel
theorem dL_areBanks_100 : decode cL_areBanks 100 = .ok (.invokevirtual 9, 3) := by decide +kernel
theorem dL_areBanks_103 : decode cL_areBanks 103 = .ok (.iconst 1, 1) := by decide +kernel
theorem dL_areBanks_104 : decode cL_areBanks 104 = .ok (.if_icmp .ne 13, 3) := by decide +kernel
theorem dL_areBanks_107 : decode cL_areBanks 107 = .ok (.iload 6, 2) := by decide +kernel
theorem dL_areBanks_109 : decode cL_areBanks 109 = .ok (.iload 6, 2) := by decide +kernel
theorem dL_areBanks_111 : decode cL_areBanks 111 = .ok (.iload_n 2, 1) := by decide +kernel
theorem dL_areBanks_112 : decode cL_areBanks 112 = .ok (.idiv, 1) := by decide +kernel
theorem dL_areBanks_113 : decode cL_areBanks 113 = .ok (.iadd, 1) := by decide +kernel
theorem dL_areBanks_114 : decode cL_areBanks 114 = .ok (.goto 5, 3) := by decide +kernel
theorem dL_areBanks_117 : decode cL_areBanks 117 = .ok (.iload 6, 2) := by decide +kernel
theorem dL_areBanks_119 : decode cL_areBanks 119 = .ok (.istore 7, 2) := by decide +kernel
theorem dL_areBanks_121 : decode cL_areBanks 121 = .ok (.aload_n 0, 1) := by decide +kernel
theorem dL_areBanks_122 : decode cL_areBanks 122 = .ok (.iload 6, 2) := by decide +kernel
theorem dL_areBanks_124 : decode cL_areBanks 124 = .ok (.invokevirtual 22, 3) := by decide +kernel
theorem dL_areBanks_127 : decode cL_areBanks 127 = .ok (.iload 7, 2) := by decide +kernel
theorem dL_areBanks_129 : decode cL_areBanks 129 = .ok (.aload_n 0, 1) := by decide +kernel
theorem dL_areBanks_130 : decode cL_areBanks 130 = .ok (.iconst 2, 1) := by decide +kernel
theorem dL_areBanks_131 : decode cL_areBanks 131 = .ok (.invokevirtual 9, 3) := by decide +kernel
theorem dL_areBanks_134 : decode cL_areBanks 134 = .ok (.iconst 2, 1) := by decide +kernel
theorem dL_areBanks_135 : decode cL_areBanks 135 = .ok (.if_icmp .ne 7, 3) := by decide +kernel
theorem dL_areBanks_138 : decode cL_areBanks 138 = .ok (.iload_n 3, 1) := by decide +kernel
theorem dL_areBanks_139 : decode cL_areBanks 139 = .ok (.goto 4, 3) := by decide +kernel
theorem dL_areBanks_142 : decode cL_areBanks 142 = .ok (.iload_n 2, 1) := by decide +kernel
theorem dL_areBanks_143 : decode cL_areBanks 143 = .ok (.irem, 1) := by decide +kernel
theorem dL_areBanks_144 : decode cL_areBanks 144 = .ok (.if_icmp .ne 7, 3) := by decide +kernel
theorem dL_areBanks_147 : decode cL_areBanks 147 = .ok (.iconst 1, 1) := by decide +kernel
theorem dL_areBanks_148 : decode cL_areBanks 148 = .ok (.goto 4, 3) := by decide +kernel
theorem dL_areBanks_151 : decode cL_areBanks 151 = .ok (.iconst 0, 1) := by decide +kernel
theorem dL_areBanks_152 : decode cL_areBanks 152 = .ok (.istore 4, 2) := by decide +kernel
theorem dL_areBanks_154 : decode cL_areBanks 154 = .ok (.iinc 5 1, 3) := by decide +kernel
theorem dL_areBanks_157 : decode cL_areBanks 157 = .ok (.goto (-102), 3) := by decide +kernel
theorem dL_areBanks_160 : decode cL_areBanks 160 = .ok (.iload 4, 2) := by decide +kernel
theorem dL_areBanks_162 : decode cL_areBanks 162 = .ok (.ireturn, 1) := by decide +kernel
theorem dL_acts_0 : decode cL_acts 0 = .ok (.aload_n 0, 1) := by decide +kernel
theorem dL_acts_1 : decode cL_acts 1 = .ok (.iconst 5, 1) := by decide +kernel
theorem dL_acts_2 : decode cL_acts 2 = .ok (.invokevirtual 9, 3) := by decide +kernel
theorem dL_acts_5 : decode cL_acts 5 = .ok (.istore_n 2, 1) := by decide +kernel
theorem dL_acts_6 : decode cL_acts 6 = .ok (.iload_n 2, 1) := by decide +kernel
theorem dL_acts_7 : decode cL_acts 7 = .ok (.ifCond .ne 7, 3) := by decide +kernel
theorem dL_acts_10 : decode cL_acts 10 = .ok (.iconst 0, 1) := by decide +kernel
theorem dL_acts_11 : decode cL_acts 11 = .ok (.goto 8, 3) := by decide +kernel
theorem dL_acts_14 : decode cL_acts 14 = .ok (.iload_n 1, 1) := by decide +kernel
theorem dL_acts_15 : decode cL_acts 15 = .ok (.iconst 4, 1) := by decide +kernel
theorem dL_acts_16 : decode cL_acts 16 = .ok (.ishr, 1) := by decide +kernel
theorem dL_acts_17 : decode cL_acts 17 = .ok (.iload_n 2, 1) := by decide +kernel
theorem dL_acts_18 : decode cL_acts 18 = .ok (.irem, 1) := by decide +kernel
theorem dL_acts_19 : decode cL_acts 19 = .ok (.istore_n 3, 1) := by decide +kernel
theorem dL_acts_20 : decode cL_acts 20 = .ok (.iload_n 1, 1) := by decide +kernel
theorem dL_acts_21 : decode cL_acts 21 = .ok (.bipush 9, 2) := by decide +kernel
theorem dL_acts_23 : decode cL_acts 23 = .ok (.irem, 1) := by decide +kernel
theorem dL_acts_24 : decode cL_acts 24 = .ok (.tableswitch 619 0 7 #[48, 48, 173, 173, 173, 248, 324, 481], 48) := by decide +kernel
theorem dL_acts_72 : decode cL_acts 72 = .ok (.iload_n 1, 1) := by decide +kernel
theorem dL_acts_73 : decode cL_acts 73 = .ok (.iconst 4, 1) := by decide +kernel
theorem dL_acts_74 : decode cL_acts 74 = .ok (.ishr, 1) := by decide +kernel
theorem dL_acts_75 : decode cL_acts 75 = .ok (.sipush 4096, 3) := by decide +kernel
theorem dL_acts_78 : decode cL_acts 78 = .ok (.irem, 1) := by decide +kernel
theorem dL_acts_79 : decode cL_acts 79 = .ok (.istore 4, 2) := by decide +kernel
theorem dL_acts_81 : decode cL_acts 81 = .ok (.iload_n 1, 1) := by decide +kernel
theorem dL_acts_82 : decode cL_acts 82 = .ok (.bipush 10, 2) := by decide +kernel
theorem dL_acts_84 : decode cL_acts 84 = .ok (.ishr, 1) := by decide +kernel
theorem dL_acts_85 : decode cL_acts 85 = .ok (.iload_n 1, 1) := by decide +kernel
theorem dL_acts_86 : decode cL_acts 86 = .ok (.iconst 5, 1) := by decide +kernel
theorem dL_acts_87 : decode cL_acts 87 = .ok (.ishr, 1) := by decide +kernel
theorem dL_acts_88 : decode cL_acts 88 = .ok (.iconst 2, 1) := by decide +kernel
theorem dL_acts_89 : decode cL_acts 89 = .ok (.irem, 1) := by decide +kernel
theorem dL_acts_90 : decode cL_acts 90 = .ok (.ifCond .ne 8, 3) := by decide +kernel
theorem dL_acts_93 : decode cL_acts 93 = .ok (.bipush 20, 2) := by decide +kernel
theorem dL_acts_95 : decode cL_acts 95 = .ok (.goto 6, 3) := by decide +kernel
theorem dL_acts_98 : decode cL_acts 98 = .ok (.sipush 1024, 3) := by decide +kernel
theorem dL_acts_101 : decode cL_acts 101 = .ok (.irem, 1) := by decide +kernel
theorem dL_acts_102 : decode cL_acts 102 = .ok (.istore 5, 2) := by decide +kernel
theorem dL_acts_104 : decode cL_acts 104 = .ok (.iconst 1, 1) := by decide +kernel
theorem dL_acts_105 : decode cL_acts 105 = .ok (.iload_n 1, 1) := by decide +kernel
theorem dL_acts_106 : decode cL_acts 106 = .ok (.bipush 16, 2) := by decide +kernel
theorem dL_acts_108 : decode cL_acts 108 = .ok (.ishr, 1) := by decide +kernel
theorem dL_acts_109 : decode cL_acts 109 = .ok (.sipush 200, 3) := by decide +kernel
theorem dL_acts_112 : decode cL_acts 112 = .ok (.irem, 1) := by decide +kernel
theorem dL_acts_113 : decode cL_acts 113 = .ok (.iadd, 1) := by decide +kernel
theorem dL_acts_114 : decode cL_acts 114 = .ok (.istore 6, 2) := by decide +kernel
theorem dL_acts_116 : decode cL_acts 116 = .ok (.aload_n 0, 1) := by decide +kernel
theorem dL_acts_117 : decode cL_acts 117 = .ok (.iload 4, 2) := by decide +kernel
theorem dL_acts_119 : decode cL_acts 119 = .ok (.iload 5, 2) := by decide +kernel
theorem dL_acts_121 : decode cL_acts 121 = .ok (.iload 6, 2) := by decide +kernel
theorem dL_acts_123 : decode cL_acts 123 = .ok (.invokevirtual 25, 3) := by decide +kernel
theorem dL_acts_126 : decode cL_acts 126 = .ok (.istore 7, 2) := by decide +kernel
theorem dL_acts_128 : decode cL_acts 128 = .ok (.iload_n 2, 1) := by decide +kernel
theorem dL_acts_129 : decode cL_acts 129 = .ok (.iconst 4, 1) := by decide +kernel
theorem dL_acts_130 : decode cL_acts 130 = .ok (.if_icmp .ne 18, 3) := by decide +kernel
theorem dL_acts_133 : decode cL_acts 133 = .ok (.iload 7, 2) := by decide +kernel
theorem dL_acts_135 : decode cL_acts 135 = .ok (.bipush (-4), 2) := by decide +kernel
theorem dL_acts_137 : decode cL_acts 137 = .ok (.if_icmp .ne 7, 3) := by decide +kernel
theorem dL_acts_140 : decode cL_acts 140 = .ok (.iconst 1, 1) := by decide +kernel
theorem dL_acts_141 : decode cL_acts 141 = .ok (.goto 55, 3) := by decide +kernel
theorem dL_acts_144 : decode cL_acts 144 = .ok (.iconst 0, 1) := by decide +kernel
theorem dL_acts_145 : decode cL_acts 145 = .ok (.goto 51, 3) := by decide +kernel
theorem dL_acts_148 : decode cL_acts 148 = .ok (.iload 7, 2) := by decide +kernel
theorem dL_acts_150 : decode cL_acts 150 = .ok (.iload_n 2, 1) := by decide +kernel
theorem dL_acts_151 : decode cL_acts 151 = .ok (.if_icmp .ne 44, 3) := by decide +kernel
theorem dL_acts_154 : decode cL_acts 154 = .ok (.aload_n 0, 1) := by decide +kernel
theorem dL_acts_155 : decode cL_acts 155 = .ok (.iload 7, 2) := by decide +kernel
theorem dL_acts_157 : decode cL_acts 157 = .ok (.iconst 3, 1) := by decide +kernel
theorem dL_acts_158 : decode cL_acts 158 = .ok (.invokevirtual 15, 3) := by decide +kernel
theorem dL_acts_161 : decode cL_acts 161 = .ok (.iload 6, 2) := by decide +kernel
theorem dL_acts_163 : decode cL_acts 163 = .ok (.if_icmp .ne 32, 3) := by decide +kernel
theorem dL_acts_166 : decode cL_acts 166 = .ok (.aload_n 0, 1) := by decide +kernel
theorem dL_acts_167 : decode cL_acts 167 = .ok (.iload 7, 2) := by decide +kernel
theorem dL_acts_169 : decode cL_acts 169 = .ok (.iconst 4, 1) := by decide +kernel
theorem dL_acts_170 : decode cL_acts 170 = .ok (.invokevirtual 15, 3) := by decide +kernel
theorem dL_acts_173 : decode cL_acts 173 = .ok (.iload 4, 2) := by decide +kernel
theorem dL_acts_175 : decode cL_acts 175 = .ok (.if_icmp .ne 20, 3) := by decide +kernel
theorem dL_acts_178 : decode cL_acts 178 = .ok (.aload_n 0, 1) := by decide +kernel
theorem dL_acts_179 : decode cL_acts 179 = .ok (.iload 7, 2) := by decide +kernel
theorem dL_acts_181 : decode cL_acts 181 = .ok (.bipush 7, 2) := by decide +kernel
theorem dL_acts_183 : decode cL_acts 183 = .ok (.invokevirtual 15, 3) := by decide +kernel
theorem dL_acts_186 : decode cL_acts 186 = .ok (.bipush (-6), 2) := by decide +kernel
theorem dL_acts_188 : decode cL_acts 188 = .ok (.if_icmp .ne 7, 3) := by decide +kernel
theorem dL_acts_191 : decode cL_acts 191 = .ok (.iconst 1, 1) := by decide +kernel
theorem dL_acts_192 : decode cL_acts 192 = .ok (.goto 4, 3) := by decide +kernel
theorem dL_acts_195 : decode cL_acts 195 = .ok (.iconst 0, 1) := by decide +kernel
theorem dL_acts_196 : decode cL_acts 196 = .ok (.ireturn, 1) := by decide +kernel
theorem dL_acts_197 : decode cL_acts 197 = .ok (.iconst 1, 1) := by decide +kernel
theorem dL_acts_198 : decode cL_acts 198 = .ok (.iload_n 1, 1) := by decide +kernel
theorem dL_acts_199 : decode cL_acts 199 = .ok (.iconst 4, 1) := by decide +kernel
theorem dL_acts_200 : decode cL_acts 200 = .ok (.ishr, 1) := by decide +kernel
theorem dL_acts_201 : decode cL_acts 201 = .ok (.bipush 60, 2) := by decide +kernel
theorem dL_acts_203 : decode cL_acts 203 = .ok (.irem, 1) := by decide +kernel
theorem dL_acts_204 : decode cL_acts 204 = .ok (.iadd, 1) := by decide +kernel
theorem dL_acts_205 : decode cL_acts 205 = .ok (.istore 8, 2) := by decide +kernel
theorem dL_acts_207 : decode cL_acts 207 = .ok (.aload_n 0, 1) := by decide +kernel
theorem dL_acts_208 : decode cL_acts 208 = .ok (.iconst 4, 1) := by decide +kernel
theorem dL_acts_209 : decode cL_acts 209 = .ok (.invokevirtual 9, 3) := by decide +kernel
theorem dL_acts_212 : decode cL_acts 212 = .ok (.istore 9, 2) := by decide +kernel
theorem dL_acts_214 : decode cL_acts 214 = .ok (.aload_n 0, 1) := by decide +kernel
theorem dL_acts_215 : decode cL_acts 215 = .ok (.bipush 7, 2) := by decide +kernel
theorem dL_acts_217 : decode cL_acts 217 = .ok (.invokevirtual 9, 3) := by decide +kernel
theorem dL_acts_220 : decode cL_acts 220 = .ok (.istore 10, 2) := by decide +kernel
theorem dL_acts_222 : decode cL_acts 222 = .ok (.aload_n 0, 1) := by decide +kernel
theorem dL_acts_223 : decode cL_acts 223 = .ok (.iload 8, 2) := by decide +kernel
theorem dL_acts_225 : decode cL_acts 225 = .ok (.invokevirtual 29, 3) := by decide +kernel
theorem dL_acts_228 : decode cL_acts 228 = .ok (.istore 11, 2) := by decide +kernel
theorem dL_acts_230 : decode cL_acts 230 = .ok (.iload 11, 2) := by decide +kernel
theorem dL_acts_232 : decode cL_acts 232 = .ok (.aload_n 0, 1) := by decide +kernel
theorem dL_acts_233 : decode cL_acts 233 = .ok (.bipush 7, 2) := by decide +kernel
theorem dL_acts_235 : decode cL_acts 235 = .ok (.invokevirtual 9, 3) := by decide +kernel
theorem dL_acts_238 : decode cL_acts 238 = .ok (.iload 10, 2) := by decide +kernel
theorem dL_acts_240 : decode cL_acts 240 = .ok (.isub, 1) := by decide +kernel
theorem dL_acts_241 : decode cL_acts 241 = .ok (.if_icmp .ne 29, 3) := by decide +kernel
theorem dL_acts_244 : decode cL_acts 244 = .ok (.aload_n 0, 1) := by decide +kernel
theorem dL_acts_245 : decode cL_acts 245 = .ok (.iconst 4, 1) := by decide +kernel
theorem dL_acts_246 : decode cL_acts 246 = .ok (.invokevirtual 9, 3) := by decide +kernel
theorem dL_acts_249 : decode cL_acts 249 = .ok (.iload 9, 2) := by decide +kernel
theorem dL_acts_251 : decode cL_acts 251 = .ok (.iload 8, 2) := by decide +kernel
theorem dL_acts_253 : decode cL_acts 253 = .ok (.iadd, 1) := by decide +kernel
theorem dL_acts_254 : decode cL_acts 254 = .ok (.if_icmp .ne 16, 3) := by decide +kernel
theorem dL_acts_257 : decode cL_acts 257 = .ok (.iload 11, 2) := by decide +kernel
theorem dL_acts_259 : decode cL_acts 259 = .ok (.iload 8, 2) := by decide +kernel
theorem dL_acts_261 : decode cL_acts 261 = .ok (.iload_n 2, 1) := by decide +kernel
theorem dL_acts_262 : decode cL_acts 262 = .ok (.imul, 1) := by decide +kernel
theorem dL_acts_263 : decode cL_acts 263 = .ok (.if_icmp .gt 7, 3) := by decide +kernel
theorem dL_acts_266 : decode cL_acts 266 = .ok (.iconst 1, 1) := by decide +kernel
theorem dL_acts_267 : decode cL_acts 267 = .ok (.goto 4, 3) := by decide +kernel
theorem dL_acts_270 : decode cL_acts 270 = .ok (.iconst 0, 1) := by decide +kernel
theorem dL_acts_271 : decode cL_acts 271 = .ok (.ireturn, 1) := by decide +kernel
theorem dL_acts_272 : decode cL_acts 272 = .ok (.aload_n 0, 1) := by decide +kernel
theorem dL_acts_273 : decode cL_acts 273 = .ok (.iload_n 3, 1) := by decide +kernel
theorem dL_acts_274 : decode cL_acts 274 = .ok (.iconst 3, 1) := by decide +kernel
theorem dL_acts_275 : decode cL_acts 275 = .ok (.invokevirtual 15, 3) := by decide +kernel
theorem dL_acts_278 : decode cL_acts 278 = .ok (.istore 12, 2) := by decide +kernel
theorem dL_acts_280 : decode cL_acts 280 = .ok (.aload_n 0, 1) := by decide +kernel
theorem dL_acts_281 : decode cL_acts 281 = .ok (.bipush 9, 2) := by decide +kernel
theorem dL_acts_283 : decode cL_acts 283 = .ok (.invokevirtual 9, 3) := by decide +kernel
theorem dL_acts_286 : decode cL_acts 286 = .ok (.istore 13, 2) := by decide +kernel
theorem dL_acts_288 : decode cL_acts 288 = .ok (.aload_n 0, 1) := by decide +kernel
theorem dL_acts_289 : decode cL_acts 289 = .ok (.iload_n 3, 1) := by decide +kernel
theorem dL_acts_290 : decode cL_acts 290 = .ok (.invokevirtual 32, 3) := by decide +kernel
theorem dL_acts_293 : decode cL_acts 293 = .ok (.istore 14, 2) := by decide +kernel
theorem dL_acts_295 : decode cL_acts 295 = .ok (.iload_n 2, 1) := by decide +kernel
theorem dL_acts_296 : decode cL_acts 296 = .ok (.ifCond .ne 17, 3) := by decide +kernel
theorem dL_acts_299 : decode cL_acts 299 = .ok (.iload 14, 2) := by decide +kernel
theorem dL_acts_301 : decode cL_acts 301 = .ok (.iconst (-1), 1) := by decide +kernel
theorem dL_acts_302 : decode cL_acts 302 = .ok (.if_icmp .ne 7, 3) := by decide +kernel
theorem dL_acts_305 : decode cL_acts 305 = .ok (.iconst 1, 1) := by decide +kernel
theorem dL_acts_306 : decode cL_acts 306 = .ok (.goto 41, 3) := by decide +kernel
theorem dL_acts_309 : decode cL_acts 309 = .ok (.iconst 0, 1) := by decide +kernel
theorem dL_acts_310 : decode cL_acts 310 = .ok (.goto 37, 3) := by decide +kernel
theorem dL_acts_313 : decode cL_acts 313 = .ok (.iload 14, 2) := by decide +kernel
theorem dL_acts_315 : decode cL_acts 315 = .ok (.iload 12, 2) := by decide +kernel
theorem dL_acts_317 : decode cL_acts 317 = .ok (.if_icmp .ne 29, 3) := by decide +kernel
theorem dL_acts_320 : decode cL_acts 320 = .ok (.aload_n 0, 1) := by decide +kernel
theorem dL_acts_321 : decode cL_acts 321 = .ok (.iconst 5, 1) := by decide +kernel
theorem dL_acts_322 : decode cL_acts 322 = .ok (.invokevirtual 9, 3) := by decide +kernel
theorem dL_acts_325 : decode cL_acts 325 = .ok (.iload_n 2, 1) := by decide +kernel
theorem dL_acts_326 : decode cL_acts 326 = .ok (.iconst 1, 1) := by decide +kernel
theorem dL_acts_327 : decode cL_acts 327 = .ok (.isub, 1) := by decide +kernel
theorem dL_acts_328 : decode cL_acts 328 = .ok (.if_icmp .ne 18, 3) := by decide +kernel
theorem dL_acts_331 : decode cL_acts 331 = .ok (.aload_n 0, 1) := by decide +kernel
theorem dL_acts_332 : decode cL_acts 332 = .ok (.bipush 9, 2) := by decide +kernel
theorem dL_acts_334 : decode cL_acts 334 = .ok (.invokevirtual 9, 3) := by decide +kernel
theorem dL_acts_337 : decode cL_acts 337 = .ok (.iload 13, 2) := by decide +kernel
theorem dL_acts_339 : decode cL_acts 339 = .ok (.if_icmp .gt 7, 3) := by decide +kernel
theorem dL_acts_342 : decode cL_acts 342 = .ok (.iconst 1, 1) := by decide +kernel
theorem dL_acts_343 : decode cL_acts 343 = .ok (.goto 4, 3) := by decide +kernel
theorem dL_acts_346 : decode cL_acts 346 = .ok (.iconst 0, 1) := by decide +kernel
theorem dL_acts_347 : decode cL_acts 347 = .ok (.ireturn, 1) := by decide +kernel
theorem dL_acts_348 : decode cL_acts 348 = .ok (.iload_n 1, 1) := by decide +kernel
theorem dL_acts_349 : decode cL_acts 349 = .ok (.bipush 10, 2) := by decide +kernel
theorem dL_acts_351 : decode cL_acts 351 = .ok (.ishr, 1) := by decide +kernel
theorem dL_acts_352 : decode cL_acts 352 = .ok (.sipush 1024, 3) := by decide +kernel
theorem dL_acts_355 : decode cL_acts 355 = .ok (.irem, 1) := by decide +kernel
theorem dL_acts_356 : decode cL_acts 356 = .ok (.istore 15, 2) := by decide +kernel
theorem dL_acts_358 : decode cL_acts 358 = .ok (.aload_n 0, 1) := by decide +kernel
theorem dL_acts_359 : decode cL_acts 359 = .ok (.iload_n 3, 1) := by decide +kernel
theorem dL_acts_360 : decode cL_acts 360 = .ok (.iconst 1, 1) := by decide +kernel
theorem dL_acts_361 : decode cL_acts 361 = .ok (.invokevirtual 15, 3) := by decide +kernel
theorem dL_acts_364 : decode cL_acts 364 = .ok (.istore 16, 2) := by decide +kernel
theorem dL_acts_366 : decode cL_acts 366 = .ok (.aload_n 0, 1) := by decide +kernel
theorem dL_acts_367 : decode cL_acts 367 = .ok (.iload_n 3, 1) := by decide +kernel
theorem dL_acts_368 : decode cL_acts 368 = .ok (.iconst 4, 1) := by decide +kernel
theorem dL_acts_369 : decode cL_acts 369 = .ok (.invokevirtual 15, 3) := by decide +kernel
theorem dL_acts_372 : decode cL_acts 372 = .ok (.istore 17, 2) := by decide +kernel
theorem dL_acts_374 : decode cL_acts 374 = .ok (.aload_n 0, 1) := by decide +kernel
theorem dL_acts_375 : decode cL_acts 375 = .ok (.iload_n 3, 1) := by decide +kernel
theorem dL_acts_376 : decode cL_acts 376 = .ok (.iconst 3, 1) := by decide +kernel
theorem dL_acts_377 : decode cL_acts 377 = .ok (.invokevirtual 15, 3) := by decide +kernel
theorem dL_acts_380 : decode cL_acts 380 = .ok (.istore 18, 2) := by decide +kernel
theorem dL_acts_382 : decode cL_acts 382 = .ok (.iload 18, 2) := by decide +kernel
theorem dL_acts_384 : decode cL_acts 384 = .ok (.aload_n 0, 1) := by decide +kernel
theorem dL_acts_385 : decode cL_acts 385 = .ok (.iload_n 3, 1) := by decide +kernel
theorem dL_acts_386 : decode cL_acts 386 = .ok (.iconst 2, 1) := by decide +kernel
theorem dL_acts_387 : decode cL_acts 387 = .ok (.invokevirtual 15, 3) := by decide +kernel
theorem dL_acts_390 : decode cL_acts 390 = .ok (.if_icmp .ne 7, 3) := by decide +kernel
theorem dL_acts_393 : decode cL_acts 393 = .ok (.iconst 1, 1) := by decide +kernel
theorem dL_acts_394 : decode cL_acts 394 = .ok (.goto 4, 3) := by decide +kernel
theorem dL_acts_397 : decode cL_acts 397 = .ok (.iconst 0, 1) := by decide +kernel
theorem dL_acts_398 : decode cL_acts 398 = .ok (.istore 19, 2) := by decide +kernel
theorem dL_acts_400 : decode cL_acts 400 = .ok (.aload_n 0, 1) := by decide +kernel
theorem dL_acts_401 : decode cL_acts 401 = .ok (.iload_n 3, 1) := by decide +kernel
theorem dL_acts_402 : decode cL_acts 402 = .ok (.iload 15, 2) := by decide +kernel
theorem dL_acts_404 : decode cL_acts 404 = .ok (.invokevirtual 35, 3) := by decide +kernel
theorem dL_acts_407 : decode cL_acts 407 = .ok (.istore 20, 2) := by decide +kernel
theorem dL_acts_409 : decode cL_acts 409 = .ok (.iload_n 2, 1) := by decide +kernel
theorem dL_acts_410 : decode cL_acts 410 = .ok (.ifCond .ne 17, 3) := by decide +kernel
theorem dL_acts_413 : decode cL_acts 413 = .ok (.iload 20, 2) := by decide +kernel
theorem dL_acts_415 : decode cL_acts 415 = .ok (.iconst (-1), 1) := by decide +kernel
theorem dL_acts_416 : decode cL_acts 416 = .ok (.if_icmp .ne 7, 3) := by decide +kernel
theorem dL_acts_419 : decode cL_acts 419 = .ok (.iconst 1, 1) := by decide +kernel
theorem dL_acts_420 : decode cL_acts 420 = .ok (.goto 84, 3) := by decide +kernel
theorem dL_acts_423 : decode cL_acts 423 = .ok (.iconst 0, 1) := by decide +kernel
theorem dL_acts_424 : decode cL_acts 424 = .ok (.goto 80, 3) := by decide +kernel
theorem dL_acts_427 : decode cL_acts 427 = .ok (.iload 20, 2) := by decide +kernel
theorem dL_acts_429 : decode cL_acts 429 = .ok (.iload 16, 2) := by decide +kernel
theorem dL_acts_431 : decode cL_acts 431 = .ok (.if_icmp .ne 72, 3) := by decide +kernel
theorem dL_acts_434 : decode cL_acts 434 = .ok (.aload_n 0, 1) := by decide +kernel
theorem dL_acts_435 : decode cL_acts 435 = .ok (.iload_n 3, 1) := by decide +kernel
theorem dL_acts_436 : decode cL_acts 436 = .ok (.iconst 1, 1) := by decide +kernel
theorem dL_acts_437 : decode cL_acts 437 = .ok (.invokevirtual 15, 3) := by decide +kernel
theorem dL_acts_440 : decode cL_acts 440 = .ok (.iload 15, 2) := by decide +kernel
theorem dL_acts_442 : decode cL_acts 442 = .ok (.if_icmp .ne 61, 3) := by decide +kernel
theorem dL_acts_445 : decode cL_acts 445 = .ok (.iload 18, 2) := by decide +kernel
theorem dL_acts_447 : decode cL_acts 447 = .ok (.ifCond .ne 17, 3) := by decide +kernel
theorem dL_acts_450 : decode cL_acts 450 = .ok (.aload_n 0, 1) := by decide +kernel
theorem dL_acts_451 : decode cL_acts 451 = .ok (.iload_n 3, 1) := by decide +kernel
theorem dL_acts_452 : decode cL_acts 452 = .ok (.iconst 4, 1) := by decide +kernel
theorem dL_acts_453 : decode cL_acts 453 = .ok (.invokevirtual 15, 3) := by decide +kernel
theorem dL_acts_456 : decode cL_acts 456 = .ok (.bipush (-6), 2) := by decide +kernel
theorem dL_acts_458 : decode cL_acts 458 = .ok (.if_icmp .ne 45, 3) := by decide +kernel
theorem dL_acts_461 : decode cL_acts 461 = .ok (.goto 38, 3) := by decide +kernel
theorem dL_acts_464 : decode cL_acts 464 = .ok (.aload_n 0, 1) := by decide +kernel
theorem dL_acts_465 : decode cL_acts 465 = .ok (.iload_n 3, 1) := by decide +kernel
theorem dL_acts_466 : decode cL_acts 466 = .ok (.iconst 4, 1) := by decide +kernel
theorem dL_acts_467 : decode cL_acts 467 = .ok (.invokevirtual 15, 3) := by decide +kernel
theorem dL_acts_470 : decode cL_acts 470 = .ok (.iload 19, 2) := by decide +kernel
theorem dL_acts_472 : decode cL_acts 472 = .ok (.ifCond .eq 8, 3) := by decide +kernel
theorem dL_acts_475 : decode cL_acts 475 = .ok (.iload 17, 2) := by decide +kernel
theorem dL_acts_477 : decode cL_acts 477 = .ok (.goto 19, 3) := by decide +kernel
theorem dL_acts_480 : decode cL_acts 480 = .ok (.iload 17, 2) := by decide +kernel
theorem dL_acts_482 : decode cL_acts 482 = .ok (.iload 16, 2) := by decide +kernel
theorem dL_acts_484 : decode cL_acts 484 = .ok (.isub, 1) := by decide +kernel
theorem dL_acts_485 : decode cL_acts 485 = .ok (.iload 15, 2) := by decide +kernel
theorem dL_acts_487 : decode cL_acts 487 = .ok (.iadd, 1) := by decide +kernel
theorem dL_acts_488 : decode cL_acts 488 = .ok (.sipush 4096, 3) := by decide +kernel
theorem dL_acts_491 : decode cL_acts 491 = .ok (.iadd, 1) := by decide +kernel
theorem dL_acts_492 : decode cL_acts 492 = .ok (.sipush 4096, 3) := by decide +kernel
theorem dL_acts_495 : decode cL_acts 495 = .ok (.irem, 1) := by decide +kernel
theorem dL_acts_496 : decode cL_acts 496 = .ok (.if_icmp .ne 7, 3) := by decide +kernel
theorem dL_acts_499 : decode cL_acts 499 = .ok (.iconst 1, 1) := by decide +kernel
theorem dL_acts_500 : decode cL_acts 500 = .ok (.goto 4, 3) := by decide +kernel
theorem dL_acts_503 : decode cL_acts 503 = .ok (.iconst 0, 1) := by decide +kernel
theorem dL_acts_504 : decode cL_acts 504 = .ok (.ireturn, 1) := by decide +kernel
theorem dL_acts_505 : decode cL_acts 505 = .ok (.iload_n 1, 1) := by decide +kernel
theorem dL_acts_506 : decode cL_acts 506 = .ok (.iconst 4, 1) := by decide +kernel
theorem dL_acts_507 : decode cL_acts 507 = .ok (.ishr, 1) := by decide +kernel
theorem dL_acts_508 : decode cL_acts 508 = .ok (.iconst 4, 1) := by decide +kernel
theorem dL_acts_509 : decode cL_acts 509 = .ok (.irem, 1) := by decide +kernel
theorem dL_acts_510 : decode cL_acts 510 = .ok (.istore 21, 2) := by decide +kernel
theorem dL_acts_512 : decode cL_acts 512 = .ok (.iload 21, 2) := by decide +kernel
theorem dL_acts_514 : decode cL_acts 514 = .ok (.ifCond .ne 15, 3) := by decide +kernel
theorem dL_acts_517 : decode cL_acts 517 = .ok (.iconst 2, 1) := by decide +kernel
theorem dL_acts_518 : decode cL_acts 518 = .ok (.iload_n 1, 1) := by decide +kernel
theorem dL_acts_519 : decode cL_acts 519 = .ok (.bipush 8, 2) := by decide +kernel
theorem dL_acts_521 : decode cL_acts 521 = .ok (.ishr, 1) := by decide +kernel
theorem dL_acts_522 : decode cL_acts 522 = .ok (.bipush 15, 2) := by decide +kernel
theorem dL_acts_524 : decode cL_acts 524 = .ok (.irem, 1) := by decide +kernel
theorem dL_acts_525 : decode cL_acts 525 = .ok (.iadd, 1) := by decide +kernel
theorem dL_acts_526 : decode cL_acts 526 = .ok (.goto 42, 3) := by decide +kernel
theorem dL_acts_529 : decode cL_acts 529 = .ok (.iload 21, 2) := by decide +kernel
theorem dL_acts_531 : decode cL_acts 531 = .ok (.iconst 1, 1) := by decide +kernel
theorem dL_acts_532 : decode cL_acts 532 = .ok (.if_icmp .ne 15, 3) := by decide +kernel
theorem dL_acts_535 : decode cL_acts 535 = .ok (.iconst 1, 1) := by decide +kernel
theorem dL_acts_536 : decode cL_acts 536 = .ok (.iload_n 1, 1) := by decide +kernel
theorem dL_acts_537 : decode cL_acts 537 = .ok (.bipush 8, 2) := by decide +kernel
theorem dL_acts_539 : decode cL_acts 539 = .ok (.ishr, 1) := by decide +kernel
theorem dL_acts_540 : decode cL_acts 540 = .ok (.bipush 12, 2) := by decide +kernel
theorem dL_acts_542 : decode cL_acts 542 = .ok (.irem, 1) := by decide +kernel
theorem dL_acts_543 : decode cL_acts 543 = .ok (.iadd, 1) := by decide +kernel
theorem dL_acts_544 : decode cL_acts 544 = .ok (.goto 24, 3) := by decide +kernel
theorem dL_acts_547 : decode cL_acts 547 = .ok (.iload 21, 2) := by decide +kernel
theorem dL_acts_549 : decode cL_acts 549 = .ok (.iconst 2, 1) := by decide +kernel
theorem dL_acts_550 : decode cL_acts 550 = .ok (.if_icmp .ne 12, 3) := by decide +kernel
theorem dL_acts_553 : decode cL_acts 553 = .ok (.iload_n 1, 1) := by decide +kernel
theorem dL_acts_554 : decode cL_acts 554 = .ok (.bipush 8, 2) := by decide +kernel
theorem dL_acts_556 : decode cL_acts 556 = .ok (.ishr, 1) := by decide +kernel
theorem dL_acts_557 : decode cL_acts 557 = .ok (.iconst 3, 1) := by decide +kernel
theorem dL_acts_558 : decode cL_acts 558 = .ok (.irem, 1) := by decide +kernel
theorem dL_acts_559 : decode cL_acts 559 = .ok (.goto 9, 3) := by decide +kernel
theorem dL_acts_562 : decode cL_acts 562 = .ok (.iload_n 1, 1) := by decide +kernel
theorem dL_acts_563 : decode cL_acts 563 = .ok (.bipush 8, 2) := by decide +kernel
theorem dL_acts_565 : decode cL_acts 565 = .ok (.ishr, 1) := by decide +kernel
theorem dL_acts_566 : decode cL_acts 566 = .ok (.iconst 2, 1) := by decide +kernel
theorem dL_acts_567 : decode cL_acts 567 = .ok (.irem, 1) := by decide +kernel
theorem dL_acts_568 : decode cL_acts 568 = .ok (.istore 22, 2) := by decide +kernel
theorem dL_acts_570 : decode cL_acts 570 = .ok (.aload_n 0, 1) := by decide +kernel
theorem dL_acts_571 : decode cL_acts 571 = .ok (.iload 21, 2) := by decide +kernel
theorem dL_acts_573 : decode cL_acts 573 = .ok (.invokevirtual 9, 3) := by decide +kernel
theorem dL_acts_576 : decode cL_acts 576 = .ok (.istore 23, 2) := by decide +kernel
theorem dL_acts_578 : decode cL_acts 578 = .ok (.aload_n 0, 1) := by decide +kernel
theorem dL_acts_579 : decode cL_acts 579 = .ok (.iload 21, 2) := by decide +kernel
theorem dL_acts_581 : decode cL_acts 581 = .ok (.iload 22, 2) := by decide +kernel
theorem dL_acts_583 : decode cL_acts 583 = .ok (.invokevirtual 38, 3) := by decide +kernel
theorem dL_acts_586 : decode cL_acts 586 = .ok (.iload 23, 2) := by decide +kernel
theorem dL_acts_588 : decode cL_acts 588 = .ok (.if_icmp .ne 53, 3) := by decide +kernel
theorem dL_acts_591 : decode cL_acts 591 = .ok (.aload_n 0, 1) := by decide +kernel
theorem dL_acts_592 : decode cL_acts 592 = .ok (.iload 21, 2) := by decide +kernel
theorem dL_acts_594 : decode cL_acts 594 = .ok (.invokevirtual 9, 3) := by decide +kernel
theorem dL_acts_597 : decode cL_acts 597 = .ok (.iload 22, 2) := by decide +kernel
theorem dL_acts_599 : decode cL_acts 599 = .ok (.if_icmp .ne 42, 3) := by decide +kernel
theorem dL_acts_602 : decode cL_acts 602 = .ok (.aload_n 0, 1) := by decide +kernel
theorem dL_acts_603 : decode cL_acts 603 = .ok (.iconst 4, 1) := by decide +kernel
theorem dL_acts_604 : decode cL_acts 604 = .ok (.invokevirtual 9, 3) := by decide +kernel
theorem dL_acts_607 : decode cL_acts 607 = .ok (.ifCond .ne 34, 3) := by decide +kernel
theorem dL_acts_610 : decode cL_acts 610 = .ok (.aload_n 0, 1) := by decide +kernel
theorem dL_acts_611 : decode cL_acts 611 = .ok (.bipush 8, 2) := by decide +kernel
theorem dL_acts_613 : decode cL_acts 613 = .ok (.invokevirtual 9, 3) := by decide +kernel
theorem dL_acts_616 : decode cL_acts 616 = .ok (.ifCond .ne 25, 3) := by decide +kernel
theorem dL_acts_619 : decode cL_acts 619 = .ok (.aload_n 0, 1) := by decide +kernel
theorem dL_acts_620 : decode cL_acts 620 = .ok (.bipush 10, 2) := by decide +kernel
theorem dL_acts_622 : decode cL_acts 622 = .ok (.invokevirtual 9, 3) := by decide +kernel
theorem dL_acts_625 : decode cL_acts 625 = .ok (.ifCond .ne 16, 3) := by decide +kernel
theorem dL_acts_628 : decode cL_acts 628 = .ok (.aload_n 0, 1) := by decide +kernel
theorem dL_acts_629 : decode cL_acts 629 = .ok (.bipush 7, 2) := by decide +kernel
theorem dL_acts_631 : decode cL_acts 631 = .ok (.invokevirtual 9, 3) := by decide +kernel
theorem dL_acts_634 : decode cL_acts 634 = .ok (.ifCond .ne 7, 3) := by decide +kernel
theorem dL_acts_637 : decode cL_acts 637 = .ok (.iconst 1, 1) := by decide +kernel
theorem dL_acts_638 : decode cL_acts 638 = .ok (.goto 4, 3) := by decide +kernel
theorem dL_acts_641 : decode cL_acts 641 = .ok (.iconst 0, 1) := by decide +kernel
theorem dL_acts_642 : decode cL_acts 642 = .ok (.ireturn, 1) := by decide +kernel
theorem dL_acts_643 : decode cL_acts 643 = .ok (.aload_n 0, 1) := by decide +kernel
theorem dL_acts_644 : decode cL_acts 644 = .ok (.iconst 0, 1) := by decide +kernel
theorem dL_acts_645 : decode cL_acts 645 = .ok (.invokevirtual 41, 3) := by decide +kernel
theorem dL_acts_648 : decode cL_acts 648 = .ok (.istore 24, 2) := by decide +kernel
theorem dL_acts_650 : decode cL_acts 650 = .ok (.aload_n 0, 1) := by decide +kernel
theorem dL_acts_651 : decode cL_acts 651 = .ok (.iconst 1, 1) := by decide +kernel
theorem dL_acts_652 : decode cL_acts 652 = .ok (.invokevirtual 41, 3) := by decide +kernel
theorem dL_acts_655 : decode cL_acts 655 = .ok (.istore 25, 2) := by decide +kernel
theorem dL_acts_657 : decode cL_acts 657 = .ok (.iload_n 1, 1) := by decide +kernel
theorem dL_acts_658 : decode cL_acts 658 = .ok (.iconst 4, 1) := by decide +kernel
theorem dL_acts_659 : decode cL_acts 659 = .ok (.ishr, 1) := by decide +kernel
theorem dL_acts_660 : decode cL_acts 660 = .ok (.iconst 3, 1) := by decide +kernel
theorem dL_acts_661 : decode cL_acts 661 = .ok (.irem, 1) := by decide +kernel
theorem dL_acts_662 : decode cL_acts 662 = .ok (.ifCond .le 25, 3) := by decide +kernel
theorem dL_acts_665 : decode cL_acts 665 = .ok (.iload 24, 2) := by decide +kernel
theorem dL_acts_667 : decode cL_acts 667 = .ok (.ifCond .lt 18, 3) := by decide +kernel
theorem dL_acts_670 : decode cL_acts 670 = .ok (.iload 24, 2) := by decide +kernel
theorem dL_acts_672 : decode cL_acts 672 = .ok (.iconst 3, 1) := by decide +kernel
theorem dL_acts_673 : decode cL_acts 673 = .ok (.if_icmp .ge 12, 3) := by decide +kernel
theorem dL_acts_676 : decode cL_acts 676 = .ok (.iload 25, 2) := by decide +kernel
theorem dL_acts_678 : decode cL_acts 678 = .ok (.ifCond .lt 7, 3) := by decide +kernel
theorem dL_acts_681 : decode cL_acts 681 = .ok (.iconst 1, 1) := by decide +kernel
theorem dL_acts_682 : decode cL_acts 682 = .ok (.goto 4, 3) := by decide +kernel
theorem dL_acts_685 : decode cL_acts 685 = .ok (.iconst 0, 1) := by decide +kernel
theorem dL_acts_686 : decode cL_acts 686 = .ok (.ireturn, 1) := by decide +kernel
theorem dL_acts_687 : decode cL_acts 687 = .ok (.aload_n 0, 1) := by decide +kernel
theorem dL_acts_688 : decode cL_acts 688 = .ok (.iconst 2, 1) := by decide +kernel
theorem dL_acts_689 : decode cL_acts 689 = .ok (.iload 24, 2) := by decide +kernel
theorem dL_acts_691 : decode cL_acts 691 = .ok (.invokevirtual 38, 3) := by decide +kernel
theorem dL_acts_694 : decode cL_acts 694 = .ok (.istore 26, 2) := by decide +kernel
theorem dL_acts_696 : decode cL_acts 696 = .ok (.iload 26, 2) := by decide +kernel
theorem dL_acts_698 : decode cL_acts 698 = .ok (.ifCond .lt 39, 3) := by decide +kernel
theorem dL_acts_701 : decode cL_acts 701 = .ok (.aload_n 0, 1) := by decide +kernel
theorem dL_acts_702 : decode cL_acts 702 = .ok (.invokevirtual 44, 3) := by decide +kernel
theorem dL_acts_705 : decode cL_acts 705 = .ok (.iload 25, 2) := by decide +kernel
theorem dL_acts_707 : decode cL_acts 707 = .ok (.if_icmp .ne 30, 3) := by decide +kernel
theorem dL_acts_710 : decode cL_acts 710 = .ok (.aload_n 0, 1) := by decide +kernel
theorem dL_acts_711 : decode cL_acts 711 = .ok (.invokevirtual 48, 3) := by decide +kernel
theorem dL_acts_714 : decode cL_acts 714 = .ok (.aload_n 0, 1) := by decide +kernel
theorem dL_acts_715 : decode cL_acts 715 = .ok (.bipush 6, 2) := by decide +kernel
theorem dL_acts_717 : decode cL_acts 717 = .ok (.invokevirtual 9, 3) := by decide +kernel
theorem dL_acts_720 : decode cL_acts 720 = .ok (.if_icmp .ne 17, 3) := by decide +kernel
theorem dL_acts_723 : decode cL_acts 723 = .ok (.aload_n 0, 1) := by decide +kernel
theorem dL_acts_724 : decode cL_acts 724 = .ok (.iconst 0, 1) := by decide +kernel
theorem dL_acts_725 : decode cL_acts 725 = .ok (.invokevirtual 41, 3) := by decide +kernel
theorem dL_acts_728 : decode cL_acts 728 = .ok (.iload 24, 2) := by decide +kernel
theorem dL_acts_730 : decode cL_acts 730 = .ok (.if_icmp .ne 7, 3) := by decide +kernel
theorem dL_acts_733 : decode cL_acts 733 = .ok (.iconst 1, 1) := by decide +kernel
theorem dL_acts_734 : decode cL_acts 734 = .ok (.goto 4, 3) := by decide +kernel
theorem dL_acts_737 : decode cL_acts 737 = .ok (.iconst 0, 1) := by decide +kernel
theorem dL_acts_738 : decode cL_acts 738 = .ok (.ireturn, 1) := by decide +kernel
theorem dL_law_0 : decode cL_law 0 = .ok (.new 10, 3) := by decide +kernel
theorem dL_law_3 : decode cL_law 3 = .ok (.dup, 1) := by decide +kernel
theorem dL_law_4 : decode cL_law 4 = .ok (.invokespecial 51, 3) := by decide +kernel
theorem dL_law_7 : decode cL_law 7 = .ok (.astore_n 1, 1) := by decide +kernel
theorem dL_law_8 : decode cL_law 8 = .ok (.aload_n 1, 1) := by decide +kernel
theorem dL_law_9 : decode cL_law 9 = .ok (.invokevirtual 52, 3) := by decide +kernel
theorem dL_law_12 : decode cL_law 12 = .ok (.bipush (-5), 2) := by decide +kernel
theorem dL_law_14 : decode cL_law 14 = .ok (.if_icmp .ne 55, 3) := by decide +kernel
theorem dL_law_17 : decode cL_law 17 = .ok (.aload_n 1, 1) := by decide +kernel
theorem dL_law_18 : decode cL_law 18 = .ok (.iconst 0, 1) := by decide +kernel
theorem dL_law_19 : decode cL_law 19 = .ok (.invokevirtual 55, 3) := by decide +kernel
theorem dL_law_22 : decode cL_law 22 = .ok (.bipush (-5), 2) := by decide +kernel
theorem dL_law_24 : decode cL_law 24 = .ok (.if_icmp .ne 45, 3) := by decide +kernel
theorem dL_law_27 : decode cL_law 27 = .ok (.aload_n 1, 1) := by decide +kernel
theorem dL_law_28 : decode cL_law 28 = .ok (.invokevirtual 44, 3) := by decide +kernel
theorem dL_law_31 : decode cL_law 31 = .ok (.ifCond .ne 38, 3) := by decide +kernel
theorem dL_law_34 : decode cL_law 34 = .ok (.aload_n 1, 1) := by decide +kernel
theorem dL_law_35 : decode cL_law 35 = .ok (.iconst 0, 1) := by decide +kernel
theorem dL_law_36 : decode cL_law 36 = .ok (.invokevirtual 41, 3) := by decide +kernel
theorem dL_law_39 : decode cL_law 39 = .ok (.ifCond .ne 30, 3) := by decide +kernel
theorem dL_law_42 : decode cL_law 42 = .ok (.aload_n 1, 1) := by decide +kernel
theorem dL_law_43 : decode cL_law 43 = .ok (.iconst 1, 1) := by decide +kernel
theorem dL_law_44 : decode cL_law 44 = .ok (.invokevirtual 41, 3) := by decide +kernel
theorem dL_law_47 : decode cL_law 47 = .ok (.ifCond .ne 22, 3) := by decide +kernel
theorem dL_law_50 : decode cL_law 50 = .ok (.aload_n 1, 1) := by decide +kernel
theorem dL_law_51 : decode cL_law 51 = .ok (.iconst 1, 1) := by decide +kernel
theorem dL_law_52 : decode cL_law 52 = .ok (.invokevirtual 29, 3) := by decide +kernel
theorem dL_law_55 : decode cL_law 55 = .ok (.ifCond .ne 14, 3) := by decide +kernel
theorem dL_law_58 : decode cL_law 58 = .ok (.aload_n 1, 1) := by decide +kernel
theorem dL_law_59 : decode cL_law 59 = .ok (.invokevirtual 48, 3) := by decide +kernel
theorem dL_law_62 : decode cL_law 62 = .ok (.ifCond .ne 7, 3) := by decide +kernel
theorem dL_law_65 : decode cL_law 65 = .ok (.iconst 1, 1) := by decide +kernel
theorem dL_law_66 : decode cL_law 66 = .ok (.goto 4, 3) := by decide +kernel
theorem dL_law_69 : decode cL_law 69 = .ok (.iconst 0, 1) := by decide +kernel
theorem dL_law_70 : decode cL_law 70 = .ok (.istore_n 2, 1) := by decide +kernel
theorem dL_law_71 : decode cL_law 71 = .ok (.iconst 0, 1) := by decide +kernel
theorem dL_law_72 : decode cL_law 72 = .ok (.istore_n 3, 1) := by decide +kernel
theorem dL_law_73 : decode cL_law 73 = .ok (.iload_n 3, 1) := by decide +kernel
theorem dL_law_74 : decode cL_law 74 = .ok (.bipush 40, 2) := by decide +kernel
theorem dL_law_76 : decode cL_law 76 = .ok (.if_icmp .ge 57, 3) := by decide +kernel
theorem dL_law_79 : decode cL_law 79 = .ok (.iload_n 2, 1) := by decide +kernel
theorem dL_law_80 : decode cL_law 80 = .ok (.ifCond .eq 53, 3) := by decide +kernel
theorem dL_law_83 : decode cL_law 83 = .ok (.aload_n 1, 1) := by decide +kernel
theorem dL_law_84 : decode cL_law 84 = .ok (.aload_n 0, 1) := by decide +kernel
theorem dL_law_85 : decode cL_law 85 = .ok (.iload_n 3, 1) := by decide +kernel
theorem dL_law_86 : decode cL_law 86 = .ok (.invokestatic 58, 3) := by decide +kernel
theorem dL_law_89 : decode cL_law 89 = .ok (.invokestatic 64, 3) := by decide +kernel
theorem dL_law_92 : decode cL_law 92 = .ok (.ifCond .eq 33, 3) := by decide +kernel
theorem dL_law_95 : decode cL_law 95 = .ok (.iload_n 3, 1) := by decide +kernel
theorem dL_law_96 : decode cL_law 96 = .ok (.bipush 8, 2) := by decide +kernel
theorem dL_law_98 : decode cL_law 98 = .ok (.irem, 1) := by decide +kernel
theorem dL_law_99 : decode cL_law 99 = .ok (.ifCond .gt 22, 3) := by decide +kernel
theorem dL_law_102 : decode cL_law 102 = .ok (.aload_n 1, 1) := by decide +kernel
theorem dL_law_103 : decode cL_law 103 = .ok (.invokestatic 68, 3) := by decide +kernel
theorem dL_law_106 : decode cL_law 106 = .ok (.ifCond .eq 19, 3) := by decide +kernel
theorem dL_law_109 : decode cL_law 109 = .ok (.aload_n 1, 1) := by decide +kernel
theorem dL_law_110 : decode cL_law 110 = .ok (.aload_n 0, 1) := by decide +kernel
theorem dL_law_111 : decode cL_law 111 = .ok (.iload_n 3, 1) := by decide +kernel
theorem dL_law_112 : decode cL_law 112 = .ok (.invokestatic 58, 3) := by decide +kernel
theorem dL_law_115 : decode cL_law 115 = .ok (.invokestatic 72, 3) := by decide +kernel
theorem dL_law_118 : decode cL_law 118 = .ok (.ifCond .eq 7, 3) := by decide +kernel
theorem dL_law_121 : decode cL_law 121 = .ok (.iconst 1, 1) := by decide +kernel
theorem dL_law_122 : decode cL_law 122 = .ok (.goto 4, 3) := by decide +kernel
theorem dL_law_125 : decode cL_law 125 = .ok (.iconst 0, 1) := by decide +kernel
theorem dL_law_126 : decode cL_law 126 = .ok (.istore_n 2, 1) := by decide +kernel
theorem dL_law_127 : decode cL_law 127 = .ok (.iinc 3 1, 3) := by decide +kernel
theorem dL_law_130 : decode cL_law 130 = .ok (.goto (-57), 3) := by decide +kernel
theorem dL_law_133 : decode cL_law 133 = .ok (.aload_n 1, 1) := by decide +kernel
theorem dL_law_134 : decode cL_law 134 = .ok (.iconst 1, 1) := by decide +kernel
theorem dL_law_135 : decode cL_law 135 = .ok (.invokevirtual 75, 3) := by decide +kernel
theorem dL_law_138 : decode cL_law 138 = .ok (.istore_n 3, 1) := by decide +kernel
theorem dL_law_139 : decode cL_law 139 = .ok (.aload_n 1, 1) := by decide +kernel
theorem dL_law_140 : decode cL_law 140 = .ok (.invokevirtual 44, 3) := by decide +kernel
theorem dL_law_143 : decode cL_law 143 = .ok (.istore 4, 2) := by decide +kernel
theorem dL_law_145 : decode cL_law 145 = .ok (.aload_n 1, 1) := by decide +kernel
theorem dL_law_146 : decode cL_law 146 = .ok (.bipush 6, 2) := by decide +kernel
theorem dL_law_148 : decode cL_law 148 = .ok (.invokevirtual 9, 3) := by decide +kernel
theorem dL_law_151 : decode cL_law 151 = .ok (.istore 5, 2) := by decide +kernel
theorem dL_law_153 : decode cL_law 153 = .ok (.iconst 0, 1) := by decide +kernel
theorem dL_law_154 : decode cL_law 154 = .ok (.istore 6, 2) := by decide +kernel
theorem dL_law_156 : decode cL_law 156 = .ok (.iload_n 2, 1) := by decide +kernel
theorem dL_law_157 : decode cL_law 157 = .ok (.ifCond .eq 46, 3) := by decide +kernel
theorem dL_law_160 : decode cL_law 160 = .ok (.aload_n 1, 1) := by decide +kernel
theorem dL_law_161 : decode cL_law 161 = .ok (.invokestatic 68, 3) := by decide +kernel
theorem dL_law_164 : decode cL_law 164 = .ok (.ifCond .eq 39, 3) := by decide +kernel
theorem dL_law_167 : decode cL_law 167 = .ok (.iload_n 3, 1) := by decide +kernel
theorem dL_law_168 : decode cL_law 168 = .ok (.aload_n 1, 1) := by decide +kernel
theorem dL_law_169 : decode cL_law 169 = .ok (.iconst 4, 1) := by decide +kernel
theorem dL_law_170 : decode cL_law 170 = .ok (.invokevirtual 9, 3) := by decide +kernel
theorem dL_law_173 : decode cL_law 173 = .ok (.if_icmp .ne 30, 3) := by decide +kernel
theorem dL_law_176 : decode cL_law 176 = .ok (.iload 4, 2) := by decide +kernel
theorem dL_law_178 : decode cL_law 178 = .ok (.ifCond .ne 7, 3) := by decide +kernel
theorem dL_law_181 : decode cL_law 181 = .ok (.iconst 1, 1) := by decide +kernel
theorem dL_law_182 : decode cL_law 182 = .ok (.goto 4, 3) := by decide +kernel
theorem dL_law_185 : decode cL_law 185 = .ok (.iconst 0, 1) := by decide +kernel
theorem dL_law_186 : decode cL_law 186 = .ok (.iload 5, 2) := by decide +kernel
theorem dL_law_188 : decode cL_law 188 = .ok (.ifCond .ne 7, 3) := by decide +kernel
theorem dL_law_191 : decode cL_law 191 = .ok (.iconst 1, 1) := by decide +kernel
theorem dL_law_192 : decode cL_law 192 = .ok (.goto 4, 3) := by decide +kernel
theorem dL_law_195 : decode cL_law 195 = .ok (.iconst 0, 1) := by decide +kernel
theorem dL_law_196 : decode cL_law 196 = .ok (.if_icmp .ne 7, 3) := by decide +kernel
theorem dL_law_199 : decode cL_law 199 = .ok (.iconst 1, 1) := by decide +kernel
theorem dL_law_200 : decode cL_law 200 = .ok (.goto 4, 3) := by decide +kernel
theorem dL_law_203 : decode cL_law 203 = .ok (.iconst 0, 1) := by decide +kernel
theorem dL_law_204 : decode cL_law 204 = .ok (.istore_n 2, 1) := by decide +kernel
theorem dL_law_205 : decode cL_law 205 = .ok (.iconst 0, 1) := by decide +kernel
theorem dL_law_206 : decode cL_law 206 = .ok (.istore 7, 2) := by decide +kernel
theorem dL_law_208 : decode cL_law 208 = .ok (.iload 7, 2) := by decide +kernel
theorem dL_law_210 : decode cL_law 210 = .ok (.iload 4, 2) := by decide +kernel
theorem dL_law_212 : decode cL_law 212 = .ok (.if_icmp .ge 66, 3) := by decide +kernel
theorem dL_law_215 : decode cL_law 215 = .ok (.iload_n 2, 1) := by decide +kernel
theorem dL_law_216 : decode cL_law 216 = .ok (.ifCond .eq 62, 3) := by decide +kernel
theorem dL_law_219 : decode cL_law 219 = .ok (.iload 4, 2) := by decide +kernel
theorem dL_law_221 : decode cL_law 221 = .ok (.iload 7, 2) := by decide +kernel
theorem dL_law_223 : decode cL_law 223 = .ok (.isub, 1) := by decide +kernel
theorem dL_law_224 : decode cL_law 224 = .ok (.sipush 500, 3) := by decide +kernel
theorem dL_law_227 : decode cL_law 227 = .ok (.if_icmp .ge 11, 3) := by decide +kernel
theorem dL_law_230 : decode cL_law 230 = .ok (.iload 4, 2) := by decide +kernel
theorem dL_law_232 : decode cL_law 232 = .ok (.iload 7, 2) := by decide +kernel
theorem dL_law_234 : decode cL_law 234 = .ok (.isub, 1) := by decide +kernel
theorem dL_law_235 : decode cL_law 235 = .ok (.goto 6, 3) := by decide +kernel
theorem dL_law_238 : decode cL_law 238 = .ok (.sipush 500, 3) := by decide +kernel
theorem dL_law_241 : decode cL_law 241 = .ok (.istore 8, 2) := by decide +kernel
theorem dL_law_243 : decode cL_law 243 = .ok (.aload_n 1, 1) := by decide +kernel
theorem dL_law_244 : decode cL_law 244 = .ok (.bipush 6, 2) := by decide +kernel
theorem dL_law_246 : decode cL_law 246 = .ok (.invokevirtual 9, 3) := by decide +kernel
theorem dL_law_249 : decode cL_law 249 = .ok (.ifCond .le 7, 3) := by decide +kernel
theorem dL_law_252 : decode cL_law 252 = .ok (.iconst 1, 1) := by decide +kernel
theorem dL_law_253 : decode cL_law 253 = .ok (.goto 4, 3) := by decide +kernel
theorem dL_law_256 : decode cL_law 256 = .ok (.iconst 0, 1) := by decide +kernel
theorem dL_law_257 : decode cL_law 257 = .ok (.istore_n 2, 1) := by decide +kernel
theorem dL_law_258 : decode cL_law 258 = .ok (.iload 6, 2) := by decide +kernel
theorem dL_law_260 : decode cL_law 260 = .ok (.aload_n 1, 1) := by decide +kernel
theorem dL_law_261 : decode cL_law 261 = .ok (.iload 8, 2) := by decide +kernel
theorem dL_law_263 : decode cL_law 263 = .ok (.invokevirtual 29, 3) := by decide +kernel
theorem dL_law_266 : decode cL_law 266 = .ok (.iadd, 1) := by decide +kernel
theorem dL_law_267 : decode cL_law 267 = .ok (.istore 6, 2) := by decide +kernel
theorem dL_law_269 : decode cL_law 269 = .ok (.iinc 7 500, 6) := by decide +kernel
theorem dL_law_275 : decode cL_law 275 = .ok (.goto (-67), 3) := by decide +kernel
theorem dL_law_278 : decode cL_law 278 = .ok (.iload_n 2, 1) := by decide +kernel
theorem dL_law_279 : decode cL_law 279 = .ok (.ifCond .eq 78, 3) := by decide +kernel
theorem dL_law_282 : decode cL_law 282 = .ok (.iload 6, 2) := by decide +kernel
theorem dL_law_284 : decode cL_law 284 = .ok (.iload 5, 2) := by decide +kernel
theorem dL_law_286 : decode cL_law 286 = .ok (.if_icmp .ne 71, 3) := by decide +kernel
theorem dL_law_289 : decode cL_law 289 = .ok (.aload_n 1, 1) := by decide +kernel
theorem dL_law_290 : decode cL_law 290 = .ok (.bipush 6, 2) := by decide +kernel
theorem dL_law_292 : decode cL_law 292 = .ok (.invokevirtual 9, 3) := by decide +kernel
theorem dL_law_295 : decode cL_law 295 = .ok (.ifCond .ne 62, 3) := by decide +kernel
theorem dL_law_298 : decode cL_law 298 = .ok (.aload_n 1, 1) := by decide +kernel
theorem dL_law_299 : decode cL_law 299 = .ok (.invokestatic 68, 3) := by decide +kernel
theorem dL_law_302 : decode cL_law 302 = .ok (.ifCond .eq 55, 3) := by decide +kernel
theorem dL_law_305 : decode cL_law 305 = .ok (.iload 5, 2) := by decide +kernel
theorem dL_law_307 : decode cL_law 307 = .ok (.ifCond .eq 10, 3) := by decide +kernel
theorem dL_law_310 : decode cL_law 310 = .ok (.aload_n 1, 1) := by decide +kernel
theorem dL_law_311 : decode cL_law 311 = .ok (.invokevirtual 52, 3) := by decide +kernel
theorem dL_law_314 : decode cL_law 314 = .ok (.ifCond .lt 43, 3) := by decide +kernel
theorem dL_law_317 : decode cL_law 317 = .ok (.aload_n 1, 1) := by decide +kernel
theorem dL_law_318 : decode cL_law 318 = .ok (.iconst 1, 1) := by decide +kernel
theorem dL_law_319 : decode cL_law 319 = .ok (.invokevirtual 55, 3) := by decide +kernel
theorem dL_law_322 : decode cL_law 322 = .ok (.iload_n 3, 1) := by decide +kernel
theorem dL_law_323 : decode cL_law 323 = .ok (.if_icmp .ne 34, 3) := by decide +kernel
theorem dL_law_326 : decode cL_law 326 = .ok (.aload_n 1, 1) := by decide +kernel
theorem dL_law_327 : decode cL_law 327 = .ok (.bipush 6, 2) := by decide +kernel
theorem dL_law_329 : decode cL_law 329 = .ok (.invokevirtual 9, 3) := by decide +kernel
theorem dL_law_332 : decode cL_law 332 = .ok (.iload 5, 2) := by decide +kernel
theorem dL_law_334 : decode cL_law 334 = .ok (.if_icmp .ne 23, 3) := by decide +kernel
theorem dL_law_337 : decode cL_law 337 = .ok (.aload_n 1, 1) := by decide +kernel
theorem dL_law_338 : decode cL_law 338 = .ok (.invokevirtual 44, 3) := by decide +kernel
theorem dL_law_341 : decode cL_law 341 = .ok (.iload 4, 2) := by decide +kernel
theorem dL_law_343 : decode cL_law 343 = .ok (.if_icmp .ne 14, 3) := by decide +kernel
theorem dL_law_346 : decode cL_law 346 = .ok (.aload_n 1, 1) := by decide +kernel
theorem dL_law_347 : decode cL_law 347 = .ok (.invokevirtual 52, 3) := by decide +kernel
theorem dL_law_350 : decode cL_law 350 = .ok (.ifCond .lt 7, 3) := by decide +kernel
theorem dL_law_353 : decode cL_law 353 = .ok (.iconst 1, 1) := by decide +kernel
theorem dL_law_354 : decode cL_law 354 = .ok (.goto 4, 3) := by decide +kernel
theorem dL_law_357 : decode cL_law 357 = .ok (.iconst 0, 1) := by decide +kernel
theorem dL_law_358 : decode cL_law 358 = .ok (.ireturn, 1) := by decide +kernel
theorem dJ6_bitCount_0f7a4_0 : decode cJ6_bitCount_0f7a4 0 = .ok (.iload_n 0, 1) := by decide +kernel
theorem dJ6_bitCount_0f7a4_1 : decode cJ6_bitCount_0f7a4 1 = .ok (.iload_n 0, 1) := by decide +kernel
theorem dJ6_bitCount_0f7a4_2 : decode cJ6_bitCount_0f7a4 2 = .ok (.iconst 1, 1) := by decide +kernel
theorem dJ6_bitCount_0f7a4_3 : decode cJ6_bitCount_0f7a4 3 = .ok (.iushr, 1) := by decide +kernel
theorem dJ6_bitCount_0f7a4_4 : decode cJ6_bitCount_0f7a4 4 = .ok (.ldc_w 265, 3) := by decide +kernel
theorem dJ6_bitCount_0f7a4_7 : decode cJ6_bitCount_0f7a4 7 = .ok (.iand, 1) := by decide +kernel
theorem dJ6_bitCount_0f7a4_8 : decode cJ6_bitCount_0f7a4 8 = .ok (.isub, 1) := by decide +kernel
theorem dJ6_bitCount_0f7a4_9 : decode cJ6_bitCount_0f7a4 9 = .ok (.istore_n 0, 1) := by decide +kernel
theorem dJ6_bitCount_0f7a4_10 : decode cJ6_bitCount_0f7a4 10 = .ok (.iload_n 0, 1) := by decide +kernel
theorem dJ6_bitCount_0f7a4_11 : decode cJ6_bitCount_0f7a4 11 = .ok (.ldc_w 266, 3) := by decide +kernel
theorem dJ6_bitCount_0f7a4_14 : decode cJ6_bitCount_0f7a4 14 = .ok (.iand, 1) := by decide +kernel
theorem dJ6_bitCount_0f7a4_15 : decode cJ6_bitCount_0f7a4 15 = .ok (.iload_n 0, 1) := by decide +kernel
theorem dJ6_bitCount_0f7a4_16 : decode cJ6_bitCount_0f7a4 16 = .ok (.iconst 2, 1) := by decide +kernel
theorem dJ6_bitCount_0f7a4_17 : decode cJ6_bitCount_0f7a4 17 = .ok (.iushr, 1) := by decide +kernel
theorem dJ6_bitCount_0f7a4_18 : decode cJ6_bitCount_0f7a4 18 = .ok (.ldc_w 266, 3) := by decide +kernel
theorem dJ6_bitCount_0f7a4_21 : decode cJ6_bitCount_0f7a4 21 = .ok (.iand, 1) := by decide +kernel
theorem dJ6_bitCount_0f7a4_22 : decode cJ6_bitCount_0f7a4 22 = .ok (.iadd, 1) := by decide +kernel
theorem dJ6_bitCount_0f7a4_23 : decode cJ6_bitCount_0f7a4 23 = .ok (.istore_n 0, 1) := by decide +kernel
theorem dJ6_bitCount_0f7a4_24 : decode cJ6_bitCount_0f7a4 24 = .ok (.iload_n 0, 1) := by decide +kernel
theorem dJ6_bitCount_0f7a4_25 : decode cJ6_bitCount_0f7a4 25 = .ok (.iload_n 0, 1) := by decide +kernel
theorem dJ6_bitCount_0f7a4_26 : decode cJ6_bitCount_0f7a4 26 = .ok (.iconst 4, 1) := by decide +kernel
theorem dJ6_bitCount_0f7a4_27 : decode cJ6_bitCount_0f7a4 27 = .ok (.iushr, 1) := by decide +kernel
theorem dJ6_bitCount_0f7a4_28 : decode cJ6_bitCount_0f7a4 28 = .ok (.iadd, 1) := by decide +kernel
theorem dJ6_bitCount_0f7a4_29 : decode cJ6_bitCount_0f7a4 29 = .ok (.ldc_w 267, 3) := by decide +kernel
theorem dJ6_bitCount_0f7a4_32 : decode cJ6_bitCount_0f7a4 32 = .ok (.iand, 1) := by decide +kernel
theorem dJ6_bitCount_0f7a4_33 : decode cJ6_bitCount_0f7a4 33 = .ok (.istore_n 0, 1) := by decide +kernel
theorem dJ6_bitCount_0f7a4_34 : decode cJ6_bitCount_0f7a4 34 = .ok (.iload_n 0, 1) := by decide +kernel
theorem dJ6_bitCount_0f7a4_35 : decode cJ6_bitCount_0f7a4 35 = .ok (.iload_n 0, 1) := by decide +kernel
theorem dJ6_bitCount_0f7a4_36 : decode cJ6_bitCount_0f7a4 36 = .ok (.bipush 8, 2) := by decide +kernel
theorem dJ6_bitCount_0f7a4_38 : decode cJ6_bitCount_0f7a4 38 = .ok (.iushr, 1) := by decide +kernel
theorem dJ6_bitCount_0f7a4_39 : decode cJ6_bitCount_0f7a4 39 = .ok (.iadd, 1) := by decide +kernel
theorem dJ6_bitCount_0f7a4_40 : decode cJ6_bitCount_0f7a4 40 = .ok (.istore_n 0, 1) := by decide +kernel
theorem dJ6_bitCount_0f7a4_41 : decode cJ6_bitCount_0f7a4 41 = .ok (.iload_n 0, 1) := by decide +kernel
theorem dJ6_bitCount_0f7a4_42 : decode cJ6_bitCount_0f7a4 42 = .ok (.iload_n 0, 1) := by decide +kernel
theorem dJ6_bitCount_0f7a4_43 : decode cJ6_bitCount_0f7a4 43 = .ok (.bipush 16, 2) := by decide +kernel
theorem dJ6_bitCount_0f7a4_45 : decode cJ6_bitCount_0f7a4 45 = .ok (.iushr, 1) := by decide +kernel
theorem dJ6_bitCount_0f7a4_46 : decode cJ6_bitCount_0f7a4 46 = .ok (.iadd, 1) := by decide +kernel
theorem dJ6_bitCount_0f7a4_47 : decode cJ6_bitCount_0f7a4 47 = .ok (.istore_n 0, 1) := by decide +kernel
theorem dJ6_bitCount_0f7a4_48 : decode cJ6_bitCount_0f7a4 48 = .ok (.iload_n 0, 1) := by decide +kernel
theorem dJ6_bitCount_0f7a4_49 : decode cJ6_bitCount_0f7a4 49 = .ok (.bipush 63, 2) := by decide +kernel
theorem dJ6_bitCount_0f7a4_51 : decode cJ6_bitCount_0f7a4 51 = .ok (.iand, 1) := by decide +kernel
theorem dJ6_bitCount_0f7a4_52 : decode cJ6_bitCount_0f7a4 52 = .ok (.ireturn, 1) := by decide +kernel
theorem dJ9_max_7cf53_0 : decode cJ9_max_7cf53 0 = .ok (.iload_n 0, 1) := by decide +kernel
theorem dJ9_max_7cf53_1 : decode cJ9_max_7cf53 1 = .ok (.iload_n 1, 1) := by decide +kernel
theorem dJ9_max_7cf53_2 : decode cJ9_max_7cf53 2 = .ok (.if_icmp .lt 7, 3) := by decide +kernel
theorem dJ9_max_7cf53_5 : decode cJ9_max_7cf53 5 = .ok (.iload_n 0, 1) := by decide +kernel
theorem dJ9_max_7cf53_6 : decode cJ9_max_7cf53 6 = .ok (.goto 4, 3) := by decide +kernel
theorem dJ9_max_7cf53_9 : decode cJ9_max_7cf53 9 = .ok (.iload_n 1, 1) := by decide +kernel
theorem dJ9_max_7cf53_10 : decode cJ9_max_7cf53 10 = .ok (.ireturn, 1) := by decide +kernel
