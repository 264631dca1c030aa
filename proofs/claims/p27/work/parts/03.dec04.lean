theorem dL_below_0 : decode cL_below 0 = .ok (.iload_n 0, 1) := by decide +kernel
theorem dL_below_1 : decode cL_below 1 = .ok (.ldc 7, 2) := by decide +kernel
theorem dL_below_3 : decode cL_below 3 = .ok (.iand, 1) := by decide +kernel
theorem dL_below_4 : decode cL_below 4 = .ok (.iload_n 1, 1) := by decide +kernel
theorem dL_below_5 : decode cL_below 5 = .ok (.irem, 1) := by decide +kernel
theorem dL_below_6 : decode cL_below 6 = .ok (.ireturn, 1) := by decide +kernel
theorem dL_cell_0 : decode cL_cell 0 = .ok (.iload_n 1, 1) := by decide +kernel
theorem dL_cell_1 : decode cL_cell 1 = .ok (.aload_n 0, 1) := by decide +kernel
theorem dL_cell_2 : decode cL_cell 2 = .ok (.arraylength, 1) := by decide +kernel
theorem dL_cell_3 : decode cL_cell 3 = .ok (.if_icmp .ge 9, 3) := by decide +kernel
theorem dL_cell_6 : decode cL_cell 6 = .ok (.aload_n 0, 1) := by decide +kernel
theorem dL_cell_7 : decode cL_cell 7 = .ok (.iload_n 1, 1) := by decide +kernel
theorem dL_cell_8 : decode cL_cell 8 = .ok (.iaload, 1) := by decide +kernel
theorem dL_cell_9 : decode cL_cell 9 = .ok (.goto 9, 3) := by decide +kernel
theorem dL_cell_12 : decode cL_cell 12 = .ok (.ldc 8, 2) := by decide +kernel
theorem dL_cell_14 : decode cL_cell 14 = .ok (.iload_n 1, 1) := by decide +kernel
theorem dL_cell_15 : decode cL_cell 15 = .ok (.iconst 3, 1) := by decide +kernel
theorem dL_cell_16 : decode cL_cell 16 = .ok (.iadd, 1) := by decide +kernel
theorem dL_cell_17 : decode cL_cell 17 = .ok (.imul, 1) := by decide +kernel
theorem dL_cell_18 : decode cL_cell 18 = .ok (.ireturn, 1) := by decide +kernel
theorem dL_company_0 : decode cL_company 0 = .ok (.new 9, 3) := by decide +kernel
theorem dL_company_3 : decode cL_company 3 = .ok (.dup, 1) := by decide +kernel
theorem dL_company_4 : decode cL_company 4 = .ok (.invokespecial 11, 3) := by decide +kernel
theorem dL_company_7 : decode cL_company 7 = .ok (.astore_n 1, 1) := by decide +kernel
theorem dL_company_8 : decode cL_company 8 = .ok (.iconst 2, 1) := by decide +kernel
theorem dL_company_9 : decode cL_company 9 = .ok (.aload_n 0, 1) := by decide +kernel
theorem dL_company_10 : decode cL_company 10 = .ok (.iconst 0, 1) := by decide +kernel
theorem dL_company_11 : decode cL_company 11 = .ok (.invokestatic 12, 3) := by decide +kernel
theorem dL_company_14 : decode cL_company 14 = .ok (.bipush 6, 2) := by decide +kernel
theorem dL_company_16 : decode cL_company 16 = .ok (.invokestatic 18, 3) := by decide +kernel
theorem dL_company_19 : decode cL_company 19 = .ok (.iadd, 1) := by decide +kernel
theorem dL_company_20 : decode cL_company 20 = .ok (.istore_n 2, 1) := by decide +kernel
theorem dL_company_21 : decode cL_company 21 = .ok (.iconst 0, 1) := by decide +kernel
theorem dL_company_22 : decode cL_company 22 = .ok (.istore_n 3, 1) := by decide +kernel
theorem dL_company_23 : decode cL_company 23 = .ok (.iload_n 3, 1) := by decide +kernel
theorem dL_company_24 : decode cL_company 24 = .ok (.iload_n 2, 1) := by decide +kernel
theorem dL_company_25 : decode cL_company 25 = .ok (.if_icmp .ge 54, 3) := by decide +kernel
theorem dL_company_28 : decode cL_company 28 = .ok (.aload_n 1, 1) := by decide +kernel
theorem dL_company_29 : decode cL_company 29 = .ok (.aload_n 0, 1) := by decide +kernel
theorem dL_company_30 : decode cL_company 30 = .ok (.iconst 1, 1) := by decide +kernel
theorem dL_company_31 : decode cL_company 31 = .ok (.invokestatic 12, 3) := by decide +kernel
theorem dL_company_34 : decode cL_company 34 = .ok (.iconst 3, 1) := by decide +kernel
theorem dL_company_35 : decode cL_company 35 = .ok (.iload_n 3, 1) := by decide +kernel
theorem dL_company_36 : decode cL_company 36 = .ok (.imul, 1) := by decide +kernel
theorem dL_company_37 : decode cL_company 37 = .ok (.ishr, 1) := by decide +kernel
theorem dL_company_38 : decode cL_company 38 = .ok (.iconst 3, 1) := by decide +kernel
theorem dL_company_39 : decode cL_company 39 = .ok (.invokestatic 18, 3) := by decide +kernel
theorem dL_company_42 : decode cL_company 42 = .ok (.aload_n 0, 1) := by decide +kernel
theorem dL_company_43 : decode cL_company 43 = .ok (.iconst 2, 1) := by decide +kernel
theorem dL_company_44 : decode cL_company 44 = .ok (.invokestatic 12, 3) := by decide +kernel
theorem dL_company_47 : decode cL_company 47 = .ok (.iconst 2, 1) := by decide +kernel
theorem dL_company_48 : decode cL_company 48 = .ok (.iload_n 3, 1) := by decide +kernel
theorem dL_company_49 : decode cL_company 49 = .ok (.imul, 1) := by decide +kernel
theorem dL_company_50 : decode cL_company 50 = .ok (.ishr, 1) := by decide +kernel
theorem dL_company_51 : decode cL_company 51 = .ok (.iconst 4, 1) := by decide +kernel
theorem dL_company_52 : decode cL_company 52 = .ok (.invokestatic 18, 3) := by decide +kernel
theorem dL_company_55 : decode cL_company 55 = .ok (.aload_n 0, 1) := by decide +kernel
theorem dL_company_56 : decode cL_company 56 = .ok (.iconst 3, 1) := by decide +kernel
theorem dL_company_57 : decode cL_company 57 = .ok (.invokestatic 12, 3) := by decide +kernel
theorem dL_company_60 : decode cL_company 60 = .ok (.iconst 3, 1) := by decide +kernel
theorem dL_company_61 : decode cL_company 61 = .ok (.iload_n 3, 1) := by decide +kernel
theorem dL_company_62 : decode cL_company 62 = .ok (.imul, 1) := by decide +kernel
theorem dL_company_63 : decode cL_company 63 = .ok (.ishr, 1) := by decide +kernel
theorem dL_company_64 : decode cL_company 64 = .ok (.bipush 10, 2) := by decide +kernel
theorem dL_company_66 : decode cL_company 66 = .ok (.invokestatic 18, 3) := by decide +kernel
theorem dL_company_69 : decode cL_company 69 = .ok (.invokevirtual 22, 3) := by decide +kernel
theorem dL_company_72 : decode cL_company 72 = .ok (.pop, 1) := by decide +kernel
theorem dL_company_73 : decode cL_company 73 = .ok (.iinc 3 1, 3) := by decide +kernel
theorem dL_company_76 : decode cL_company 76 = .ok (.goto (-53), 3) := by decide +kernel
theorem dL_company_79 : decode cL_company 79 = .ok (.iconst 1, 1) := by decide +kernel
theorem dL_company_80 : decode cL_company 80 = .ok (.aload_n 0, 1) := by decide +kernel
theorem dL_company_81 : decode cL_company 81 = .ok (.iconst 4, 1) := by decide +kernel
theorem dL_company_82 : decode cL_company 82 = .ok (.invokestatic 12, 3) := by decide +kernel
theorem dL_company_85 : decode cL_company 85 = .ok (.iconst 5, 1) := by decide +kernel
theorem dL_company_86 : decode cL_company 86 = .ok (.invokestatic 18, 3) := by decide +kernel
theorem dL_company_89 : decode cL_company 89 = .ok (.iadd, 1) := by decide +kernel
theorem dL_company_90 : decode cL_company 90 = .ok (.istore_n 3, 1) := by decide +kernel
theorem dL_company_91 : decode cL_company 91 = .ok (.iconst 0, 1) := by decide +kernel
theorem dL_company_92 : decode cL_company 92 = .ok (.istore 4, 2) := by decide +kernel
theorem dL_company_94 : decode cL_company 94 = .ok (.iload 4, 2) := by decide +kernel
theorem dL_company_96 : decode cL_company 96 = .ok (.iload_n 3, 1) := by decide +kernel
theorem dL_company_97 : decode cL_company 97 = .ok (.if_icmp .ge 86, 3) := by decide +kernel
theorem dL_company_100 : decode cL_company 100 = .ok (.aload_n 1, 1) := by decide +kernel
theorem dL_company_101 : decode cL_company 101 = .ok (.aload_n 0, 1) := by decide +kernel
theorem dL_company_102 : decode cL_company 102 = .ok (.iconst 5, 1) := by decide +kernel
theorem dL_company_103 : decode cL_company 103 = .ok (.invokestatic 12, 3) := by decide +kernel
theorem dL_company_106 : decode cL_company 106 = .ok (.iconst 3, 1) := by decide +kernel
theorem dL_company_107 : decode cL_company 107 = .ok (.iload 4, 2) := by decide +kernel
theorem dL_company_109 : decode cL_company 109 = .ok (.imul, 1) := by decide +kernel
theorem dL_company_110 : decode cL_company 110 = .ok (.ishr, 1) := by decide +kernel
theorem dL_company_111 : decode cL_company 111 = .ok (.iconst 5, 1) := by decide +kernel
theorem dL_company_112 : decode cL_company 112 = .ok (.invokestatic 18, 3) := by decide +kernel
theorem dL_company_115 : decode cL_company 115 = .ok (.ifCond .ne 21, 3) := by decide +kernel
theorem dL_company_118 : decode cL_company 118 = .ok (.aload_n 0, 1) := by decide +kernel
theorem dL_company_119 : decode cL_company 119 = .ok (.iconst 5, 1) := by decide +kernel
theorem dL_company_120 : decode cL_company 120 = .ok (.invokestatic 12, 3) := by decide +kernel
theorem dL_company_123 : decode cL_company 123 = .ok (.iconst 2, 1) := by decide +kernel
theorem dL_company_124 : decode cL_company 124 = .ok (.iload 4, 2) := by decide +kernel
theorem dL_company_126 : decode cL_company 126 = .ok (.imul, 1) := by decide +kernel
theorem dL_company_127 : decode cL_company 127 = .ok (.ishr, 1) := by decide +kernel
theorem dL_company_128 : decode cL_company 128 = .ok (.bipush 16, 2) := by decide +kernel
theorem dL_company_130 : decode cL_company 130 = .ok (.invokestatic 18, 3) := by decide +kernel
theorem dL_company_133 : decode cL_company 133 = .ok (.goto 5, 3) := by decide +kernel
theorem dL_company_136 : decode cL_company 136 = .ok (.bipush 7, 2) := by decide +kernel
theorem dL_company_138 : decode cL_company 138 = .ok (.iconst 1, 1) := by decide +kernel
theorem dL_company_139 : decode cL_company 139 = .ok (.aload_n 0, 1) := by decide +kernel
theorem dL_company_140 : decode cL_company 140 = .ok (.bipush 6, 2) := by decide +kernel
theorem dL_company_142 : decode cL_company 142 = .ok (.invokestatic 12, 3) := by decide +kernel
theorem dL_company_145 : decode cL_company 145 = .ok (.iconst 4, 1) := by decide +kernel
theorem dL_company_146 : decode cL_company 146 = .ok (.iload 4, 2) := by decide +kernel
theorem dL_company_148 : decode cL_company 148 = .ok (.imul, 1) := by decide +kernel
theorem dL_company_149 : decode cL_company 149 = .ok (.ishr, 1) := by decide +kernel
theorem dL_company_150 : decode cL_company 150 = .ok (.bipush 9, 2) := by decide +kernel
theorem dL_company_152 : decode cL_company 152 = .ok (.invokestatic 18, 3) := by decide +kernel
theorem dL_company_155 : decode cL_company 155 = .ok (.iadd, 1) := by decide +kernel
theorem dL_company_156 : decode cL_company 156 = .ok (.iconst 1, 1) := by decide +kernel
theorem dL_company_157 : decode cL_company 157 = .ok (.aload_n 0, 1) := by decide +kernel
theorem dL_company_158 : decode cL_company 158 = .ok (.bipush 7, 2) := by decide +kernel
theorem dL_company_160 : decode cL_company 160 = .ok (.invokestatic 12, 3) := by decide +kernel
theorem dL_company_163 : decode cL_company 163 = .ok (.iconst 3, 1) := by decide +kernel
theorem dL_company_164 : decode cL_company 164 = .ok (.iload 4, 2) := by decide +kernel
theorem dL_company_166 : decode cL_company 166 = .ok (.imul, 1) := by decide +kernel
theorem dL_company_167 : decode cL_company 167 = .ok (.ishr, 1) := by decide +kernel
theorem dL_company_168 : decode cL_company 168 = .ok (.iconst 5, 1) := by decide +kernel
theorem dL_company_169 : decode cL_company 169 = .ok (.invokestatic 18, 3) := by decide +kernel
theorem dL_company_172 : decode cL_company 172 = .ok (.iadd, 1) := by decide +kernel
theorem dL_company_173 : decode cL_company 173 = .ok (.invokevirtual 26, 3) := by decide +kernel
theorem dL_company_176 : decode cL_company 176 = .ok (.pop, 1) := by decide +kernel
theorem dL_company_177 : decode cL_company 177 = .ok (.iinc 4 1, 3) := by decide +kernel
theorem dL_company_180 : decode cL_company 180 = .ok (.goto (-86), 3) := by decide +kernel
theorem dL_company_183 : decode cL_company 183 = .ok (.aload_n 0, 1) := by decide +kernel
theorem dL_company_184 : decode cL_company 184 = .ok (.bipush 8, 2) := by decide +kernel
theorem dL_company_186 : decode cL_company 186 = .ok (.invokestatic 12, 3) := by decide +kernel
theorem dL_company_189 : decode cL_company 189 = .ok (.bipush 6, 2) := by decide +kernel
theorem dL_company_191 : decode cL_company 191 = .ok (.invokestatic 18, 3) := by decide +kernel
theorem dL_company_194 : decode cL_company 194 = .ok (.istore 4, 2) := by decide +kernel
theorem dL_company_196 : decode cL_company 196 = .ok (.iconst 0, 1) := by decide +kernel
theorem dL_company_197 : decode cL_company 197 = .ok (.istore 5, 2) := by decide +kernel
theorem dL_company_199 : decode cL_company 199 = .ok (.iload 5, 2) := by decide +kernel
theorem dL_company_201 : decode cL_company 201 = .ok (.iload 4, 2) := by decide +kernel
theorem dL_company_203 : decode cL_company 203 = .ok (.if_icmp .ge 51, 3) := by decide +kernel
theorem dL_company_206 : decode cL_company 206 = .ok (.aload_n 1, 1) := by decide +kernel
theorem dL_company_207 : decode cL_company 207 = .ok (.iconst 1, 1) := by decide +kernel
theorem dL_company_208 : decode cL_company 208 = .ok (.aload_n 0, 1) := by decide +kernel
theorem dL_company_209 : decode cL_company 209 = .ok (.bipush 9, 2) := by decide +kernel
theorem dL_company_211 : decode cL_company 211 = .ok (.invokestatic 12, 3) := by decide +kernel
theorem dL_company_214 : decode cL_company 214 = .ok (.iconst 5, 1) := by decide +kernel
theorem dL_company_215 : decode cL_company 215 = .ok (.iload 5, 2) := by decide +kernel
theorem dL_company_217 : decode cL_company 217 = .ok (.imul, 1) := by decide +kernel
theorem dL_company_218 : decode cL_company 218 = .ok (.ishr, 1) := by decide +kernel
theorem dL_company_219 : decode cL_company 219 = .ok (.iconst 1, 1) := by decide +kernel
theorem dL_company_220 : decode cL_company 220 = .ok (.iload_n 2, 1) := by decide +kernel
theorem dL_company_221 : decode cL_company 221 = .ok (.ishl, 1) := by decide +kernel
theorem dL_company_222 : decode cL_company 222 = .ok (.iconst 1, 1) := by decide +kernel
theorem dL_company_223 : decode cL_company 223 = .ok (.isub, 1) := by decide +kernel
theorem dL_company_224 : decode cL_company 224 = .ok (.invokestatic 18, 3) := by decide +kernel
theorem dL_company_227 : decode cL_company 227 = .ok (.iadd, 1) := by decide +kernel
theorem dL_company_228 : decode cL_company 228 = .ok (.aload_n 0, 1) := by decide +kernel
theorem dL_company_229 : decode cL_company 229 = .ok (.bipush 10, 2) := by decide +kernel
theorem dL_company_231 : decode cL_company 231 = .ok (.invokestatic 12, 3) := by decide +kernel
theorem dL_company_234 : decode cL_company 234 = .ok (.iconst 3, 1) := by decide +kernel
theorem dL_company_235 : decode cL_company 235 = .ok (.iload 5, 2) := by decide +kernel
theorem dL_company_237 : decode cL_company 237 = .ok (.imul, 1) := by decide +kernel
theorem dL_company_238 : decode cL_company 238 = .ok (.ishr, 1) := by decide +kernel
theorem dL_company_239 : decode cL_company 239 = .ok (.bipush 10, 2) := by decide +kernel
theorem dL_company_241 : decode cL_company 241 = .ok (.invokestatic 18, 3) := by decide +kernel
theorem dL_company_244 : decode cL_company 244 = .ok (.invokevirtual 29, 3) := by decide +kernel
theorem dL_company_247 : decode cL_company 247 = .ok (.pop, 1) := by decide +kernel
theorem dL_company_248 : decode cL_company 248 = .ok (.iinc 5 1, 3) := by decide +kernel
theorem dL_company_251 : decode cL_company 251 = .ok (.goto (-52), 3) := by decide +kernel
theorem dL_company_254 : decode cL_company 254 = .ok (.aload_n 0, 1) := by decide +kernel
theorem dL_company_255 : decode cL_company 255 = .ok (.bipush 11, 2) := by decide +kernel
theorem dL_company_257 : decode cL_company 257 = .ok (.invokestatic 12, 3) := by decide +kernel
theorem dL_company_260 : decode cL_company 260 = .ok (.bipush 7, 2) := by decide +kernel
theorem dL_company_262 : decode cL_company 262 = .ok (.invokestatic 18, 3) := by decide +kernel
theorem dL_company_265 : decode cL_company 265 = .ok (.istore 5, 2) := by decide +kernel
theorem dL_company_267 : decode cL_company 267 = .ok (.iconst 0, 1) := by decide +kernel
theorem dL_company_268 : decode cL_company 268 = .ok (.istore 6, 2) := by decide +kernel
theorem dL_company_270 : decode cL_company 270 = .ok (.iload 6, 2) := by decide +kernel
theorem dL_company_272 : decode cL_company 272 = .ok (.iload 5, 2) := by decide +kernel
theorem dL_company_274 : decode cL_company 274 = .ok (.if_icmp .ge 65, 3) := by decide +kernel
theorem dL_company_277 : decode cL_company 277 = .ok (.aload_n 1, 1) := by decide +kernel
theorem dL_company_278 : decode cL_company 278 = .ok (.aload_n 0, 1) := by decide +kernel
theorem dL_company_279 : decode cL_company 279 = .ok (.bipush 12, 2) := by decide +kernel
theorem dL_company_281 : decode cL_company 281 = .ok (.invokestatic 12, 3) := by decide +kernel
theorem dL_company_284 : decode cL_company 284 = .ok (.iconst 2, 1) := by decide +kernel
theorem dL_company_285 : decode cL_company 285 = .ok (.iload 6, 2) := by decide +kernel
theorem dL_company_287 : decode cL_company 287 = .ok (.imul, 1) := by decide +kernel
theorem dL_company_288 : decode cL_company 288 = .ok (.ishr, 1) := by decide +kernel
theorem dL_company_289 : decode cL_company 289 = .ok (.iconst 4, 1) := by decide +kernel
theorem dL_company_290 : decode cL_company 290 = .ok (.invokestatic 18, 3) := by decide +kernel
theorem dL_company_293 : decode cL_company 293 = .ok (.iconst 1, 1) := by decide +kernel
theorem dL_company_294 : decode cL_company 294 = .ok (.aload_n 0, 1) := by decide +kernel
theorem dL_company_295 : decode cL_company 295 = .ok (.bipush 12, 2) := by decide +kernel
theorem dL_company_297 : decode cL_company 297 = .ok (.invokestatic 12, 3) := by decide +kernel
theorem dL_company_300 : decode cL_company 300 = .ok (.iconst 3, 1) := by decide +kernel
theorem dL_company_301 : decode cL_company 301 = .ok (.iload 6, 2) := by decide +kernel
theorem dL_company_303 : decode cL_company 303 = .ok (.imul, 1) := by decide +kernel
theorem dL_company_304 : decode cL_company 304 = .ok (.ishr, 1) := by decide +kernel
theorem dL_company_305 : decode cL_company 305 = .ok (.bipush 9, 2) := by decide +kernel
theorem dL_company_307 : decode cL_company 307 = .ok (.invokestatic 18, 3) := by decide +kernel
theorem dL_company_310 : decode cL_company 310 = .ok (.iadd, 1) := by decide +kernel
theorem dL_company_311 : decode cL_company 311 = .ok (.iconst 1, 1) := by decide +kernel
theorem dL_company_312 : decode cL_company 312 = .ok (.aload_n 0, 1) := by decide +kernel
theorem dL_company_313 : decode cL_company 313 = .ok (.bipush 11, 2) := by decide +kernel
theorem dL_company_315 : decode cL_company 315 = .ok (.invokestatic 12, 3) := by decide +kernel
theorem dL_company_318 : decode cL_company 318 = .ok (.iconst 3, 1) := by decide +kernel
theorem dL_company_319 : decode cL_company 319 = .ok (.iload 6, 2) := by decide +kernel
theorem dL_company_321 : decode cL_company 321 = .ok (.imul, 1) := by decide +kernel
theorem dL_company_322 : decode cL_company 322 = .ok (.ishr, 1) := by decide +kernel
theorem dL_company_323 : decode cL_company 323 = .ok (.bipush 99, 2) := by decide +kernel
theorem dL_company_325 : decode cL_company 325 = .ok (.invokestatic 18, 3) := by decide +kernel
theorem dL_company_328 : decode cL_company 328 = .ok (.iadd, 1) := by decide +kernel
theorem dL_company_329 : decode cL_company 329 = .ok (.invokevirtual 32, 3) := by decide +kernel
theorem dL_company_332 : decode cL_company 332 = .ok (.pop, 1) := by decide +kernel
theorem dL_company_333 : decode cL_company 333 = .ok (.iinc 6 1, 3) := by decide +kernel
theorem dL_company_336 : decode cL_company 336 = .ok (.goto (-66), 3) := by decide +kernel
theorem dL_company_339 : decode cL_company 339 = .ok (.aload_n 0, 1) := by decide +kernel
theorem dL_company_340 : decode cL_company 340 = .ok (.bipush 13, 2) := by decide +kernel
theorem dL_company_342 : decode cL_company 342 = .ok (.invokestatic 12, 3) := by decide +kernel
theorem dL_company_345 : decode cL_company 345 = .ok (.bipush 6, 2) := by decide +kernel
theorem dL_company_347 : decode cL_company 347 = .ok (.invokestatic 18, 3) := by decide +kernel
theorem dL_company_350 : decode cL_company 350 = .ok (.istore 6, 2) := by decide +kernel
theorem dL_company_352 : decode cL_company 352 = .ok (.iconst 0, 1) := by decide +kernel
theorem dL_company_353 : decode cL_company 353 = .ok (.istore 7, 2) := by decide +kernel
theorem dL_company_355 : decode cL_company 355 = .ok (.iload 7, 2) := by decide +kernel
theorem dL_company_357 : decode cL_company 357 = .ok (.iload 6, 2) := by decide +kernel
theorem dL_company_359 : decode cL_company 359 = .ok (.if_icmp .ge 63, 3) := by decide +kernel
theorem dL_company_362 : decode cL_company 362 = .ok (.aload_n 1, 1) := by decide +kernel
theorem dL_company_363 : decode cL_company 363 = .ok (.aload_n 0, 1) := by decide +kernel
theorem dL_company_364 : decode cL_company 364 = .ok (.bipush 13, 2) := by decide +kernel
theorem dL_company_366 : decode cL_company 366 = .ok (.invokestatic 12, 3) := by decide +kernel
theorem dL_company_369 : decode cL_company 369 = .ok (.iconst 4, 1) := by decide +kernel
theorem dL_company_370 : decode cL_company 370 = .ok (.iload 7, 2) := by decide +kernel
theorem dL_company_372 : decode cL_company 372 = .ok (.imul, 1) := by decide +kernel
theorem dL_company_373 : decode cL_company 373 = .ok (.ishr, 1) := by decide +kernel
theorem dL_company_374 : decode cL_company 374 = .ok (.bipush 60, 2) := by decide +kernel
theorem dL_company_376 : decode cL_company 376 = .ok (.invokestatic 18, 3) := by decide +kernel
theorem dL_company_379 : decode cL_company 379 = .ok (.aload_n 0, 1) := by decide +kernel
theorem dL_company_380 : decode cL_company 380 = .ok (.bipush 14, 2) := by decide +kernel
theorem dL_company_382 : decode cL_company 382 = .ok (.invokestatic 12, 3) := by decide +kernel
theorem dL_company_385 : decode cL_company 385 = .ok (.iconst 4, 1) := by decide +kernel
theorem dL_company_386 : decode cL_company 386 = .ok (.iload 7, 2) := by decide +kernel
theorem dL_company_388 : decode cL_company 388 = .ok (.imul, 1) := by decide +kernel
theorem dL_company_389 : decode cL_company 389 = .ok (.ishr, 1) := by decide +kernel
theorem dL_company_390 : decode cL_company 390 = .ok (.bipush 60, 2) := by decide +kernel
theorem dL_company_392 : decode cL_company 392 = .ok (.invokestatic 18, 3) := by decide +kernel
theorem dL_company_395 : decode cL_company 395 = .ok (.aload_n 0, 1) := by decide +kernel
theorem dL_company_396 : decode cL_company 396 = .ok (.bipush 14, 2) := by decide +kernel
theorem dL_company_398 : decode cL_company 398 = .ok (.invokestatic 12, 3) := by decide +kernel
theorem dL_company_401 : decode cL_company 401 = .ok (.iconst 3, 1) := by decide +kernel
theorem dL_company_402 : decode cL_company 402 = .ok (.iload 7, 2) := by decide +kernel
theorem dL_company_404 : decode cL_company 404 = .ok (.imul, 1) := by decide +kernel
theorem dL_company_405 : decode cL_company 405 = .ok (.ishr, 1) := by decide +kernel
theorem dL_company_406 : decode cL_company 406 = .ok (.sipush 1000, 3) := by decide +kernel
theorem dL_company_409 : decode cL_company 409 = .ok (.invokestatic 18, 3) := by decide +kernel
theorem dL_company_412 : decode cL_company 412 = .ok (.invokevirtual 35, 3) := by decide +kernel
theorem dL_company_415 : decode cL_company 415 = .ok (.pop, 1) := by decide +kernel
theorem dL_company_416 : decode cL_company 416 = .ok (.iinc 7 1, 3) := by decide +kernel
theorem dL_company_419 : decode cL_company 419 = .ok (.goto (-64), 3) := by decide +kernel
theorem dL_company_422 : decode cL_company 422 = .ok (.aload_n 1, 1) := by decide +kernel
theorem dL_company_423 : decode cL_company 423 = .ok (.areturn, 1) := by decide +kernel
theorem dL_isDone_0 : decode cL_isDone 0 = .ok (.iload_n 1, 1) := by decide +kernel
theorem dL_isDone_1 : decode cL_isDone 1 = .ok (.iconst 3, 1) := by decide +kernel
theorem dL_isDone_2 : decode cL_isDone 2 = .ok (.ishr, 1) := by decide +kernel
theorem dL_isDone_3 : decode cL_isDone 3 = .ok (.iconst 1, 1) := by decide +kernel
theorem dL_isDone_4 : decode cL_isDone 4 = .ok (.aload_n 0, 1) := by decide +kernel
theorem dL_isDone_5 : decode cL_isDone 5 = .ok (.iconst 1, 1) := by decide +kernel
theorem dL_isDone_6 : decode cL_isDone 6 = .ok (.invokevirtual 38, 3) := by decide +kernel
theorem dL_isDone_9 : decode cL_isDone 9 = .ok (.invokestatic 42, 3) := by decide +kernel
theorem dL_isDone_12 : decode cL_isDone 12 = .ok (.invokestatic 18, 3) := by decide +kernel
theorem dL_isDone_15 : decode cL_isDone 15 = .ok (.istore_n 2, 1) := by decide +kernel
theorem dL_isDone_16 : decode cL_isDone 16 = .ok (.iload_n 1, 1) := by decide +kernel
theorem dL_isDone_17 : decode cL_isDone 17 = .ok (.iconst 5, 1) := by decide +kernel
theorem dL_isDone_18 : decode cL_isDone 18 = .ok (.ishr, 1) := by decide +kernel
theorem dL_isDone_19 : decode cL_isDone 19 = .ok (.iconst 1, 1) := by decide +kernel
theorem dL_isDone_20 : decode cL_isDone 20 = .ok (.aload_n 0, 1) := by decide +kernel
theorem dL_isDone_21 : decode cL_isDone 21 = .ok (.iconst 4, 1) := by decide +kernel
theorem dL_isDone_22 : decode cL_isDone 22 = .ok (.invokevirtual 38, 3) := by decide +kernel
theorem dL_isDone_25 : decode cL_isDone 25 = .ok (.invokestatic 42, 3) := by decide +kernel
theorem dL_isDone_28 : decode cL_isDone 28 = .ok (.invokestatic 18, 3) := by decide +kernel
theorem dL_isDone_31 : decode cL_isDone 31 = .ok (.istore_n 3, 1) := by decide +kernel
theorem dL_isDone_32 : decode cL_isDone 32 = .ok (.iload_n 1, 1) := by decide +kernel
theorem dL_isDone_33 : decode cL_isDone 33 = .ok (.bipush 9, 2) := by decide +kernel
theorem dL_isDone_35 : decode cL_isDone 35 = .ok (.invokestatic 18, 3) := by decide +kernel
theorem dL_isDone_38 : decode cL_isDone 38 = .ok (.tableswitch 185 0 6 #[42, 52, 62, 94, 104, 114, 148], 42) := by decide +kernel
theorem dL_isDone_80 : decode cL_isDone 80 = .ok (.aload_n 0, 1) := by decide +kernel
theorem dL_isDone_81 : decode cL_isDone 81 = .ok (.iload_n 2, 1) := by decide +kernel
theorem dL_isDone_82 : decode cL_isDone 82 = .ok (.iconst 1, 1) := by decide +kernel
theorem dL_isDone_83 : decode cL_isDone 83 = .ok (.invokevirtual 47, 3) := by decide +kernel
theorem dL_isDone_86 : decode cL_isDone 86 = .ok (.pop, 1) := by decide +kernel
theorem dL_isDone_87 : decode cL_isDone 87 = .ok (.goto 157, 3) := by decide +kernel
theorem dL_isDone_90 : decode cL_isDone 90 = .ok (.aload_n 0, 1) := by decide +kernel
theorem dL_isDone_91 : decode cL_isDone 91 = .ok (.iload_n 2, 1) := by decide +kernel
theorem dL_isDone_92 : decode cL_isDone 92 = .ok (.iconst 0, 1) := by decide +kernel
theorem dL_isDone_93 : decode cL_isDone 93 = .ok (.invokevirtual 47, 3) := by decide +kernel
theorem dL_isDone_96 : decode cL_isDone 96 = .ok (.pop, 1) := by decide +kernel
theorem dL_isDone_97 : decode cL_isDone 97 = .ok (.goto 147, 3) := by decide +kernel
theorem dL_isDone_100 : decode cL_isDone 100 = .ok (.aload_n 0, 1) := by decide +kernel
theorem dL_isDone_101 : decode cL_isDone 101 = .ok (.iload_n 1, 1) := by decide +kernel
theorem dL_isDone_102 : decode cL_isDone 102 = .ok (.iconst 4, 1) := by decide +kernel
theorem dL_isDone_103 : decode cL_isDone 103 = .ok (.ishr, 1) := by decide +kernel
theorem dL_isDone_104 : decode cL_isDone 104 = .ok (.iconst 1, 1) := by decide +kernel
theorem dL_isDone_105 : decode cL_isDone 105 = .ok (.aload_n 0, 1) := by decide +kernel
theorem dL_isDone_106 : decode cL_isDone 106 = .ok (.iconst 3, 1) := by decide +kernel
theorem dL_isDone_107 : decode cL_isDone 107 = .ok (.invokevirtual 38, 3) := by decide +kernel
theorem dL_isDone_110 : decode cL_isDone 110 = .ok (.invokestatic 42, 3) := by decide +kernel
theorem dL_isDone_113 : decode cL_isDone 113 = .ok (.invokestatic 18, 3) := by decide +kernel
theorem dL_isDone_116 : decode cL_isDone 116 = .ok (.iload_n 1, 1) := by decide +kernel
theorem dL_isDone_117 : decode cL_isDone 117 = .ok (.bipush 7, 2) := by decide +kernel
theorem dL_isDone_119 : decode cL_isDone 119 = .ok (.ishr, 1) := by decide +kernel
theorem dL_isDone_120 : decode cL_isDone 120 = .ok (.bipush 10, 2) := by decide +kernel
theorem dL_isDone_122 : decode cL_isDone 122 = .ok (.invokestatic 18, 3) := by decide +kernel
theorem dL_isDone_125 : decode cL_isDone 125 = .ok (.invokevirtual 51, 3) := by decide +kernel
theorem dL_isDone_128 : decode cL_isDone 128 = .ok (.pop, 1) := by decide +kernel
theorem dL_isDone_129 : decode cL_isDone 129 = .ok (.goto 115, 3) := by decide +kernel
theorem dL_isDone_132 : decode cL_isDone 132 = .ok (.aload_n 0, 1) := by decide +kernel
theorem dL_isDone_133 : decode cL_isDone 133 = .ok (.iload_n 3, 1) := by decide +kernel
theorem dL_isDone_134 : decode cL_isDone 134 = .ok (.iload_n 2, 1) := by decide +kernel
theorem dL_isDone_135 : decode cL_isDone 135 = .ok (.invokevirtual 54, 3) := by decide +kernel
theorem dL_isDone_138 : decode cL_isDone 138 = .ok (.pop, 1) := by decide +kernel
theorem dL_isDone_139 : decode cL_isDone 139 = .ok (.goto 105, 3) := by decide +kernel
theorem dL_isDone_142 : decode cL_isDone 142 = .ok (.aload_n 0, 1) := by decide +kernel
theorem dL_isDone_143 : decode cL_isDone 143 = .ok (.iload_n 3, 1) := by decide +kernel
theorem dL_isDone_144 : decode cL_isDone 144 = .ok (.iload_n 2, 1) := by decide +kernel
theorem dL_isDone_145 : decode cL_isDone 145 = .ok (.invokevirtual 57, 3) := by decide +kernel
theorem dL_isDone_148 : decode cL_isDone 148 = .ok (.pop, 1) := by decide +kernel
theorem dL_isDone_149 : decode cL_isDone 149 = .ok (.goto 95, 3) := by decide +kernel
theorem dL_isDone_152 : decode cL_isDone 152 = .ok (.aload_n 0, 1) := by decide +kernel
theorem dL_isDone_153 : decode cL_isDone 153 = .ok (.iconst 1, 1) := by decide +kernel
theorem dL_isDone_154 : decode cL_isDone 154 = .ok (.iload_n 1, 1) := by decide +kernel
theorem dL_isDone_155 : decode cL_isDone 155 = .ok (.iconst 4, 1) := by decide +kernel
theorem dL_isDone_156 : decode cL_isDone 156 = .ok (.ishr, 1) := by decide +kernel
theorem dL_isDone_157 : decode cL_isDone 157 = .ok (.iconst 1, 1) := by decide +kernel
theorem dL_isDone_158 : decode cL_isDone 158 = .ok (.aload_n 0, 1) := by decide +kernel
theorem dL_isDone_159 : decode cL_isDone 159 = .ok (.iconst 0, 1) := by decide +kernel
theorem dL_isDone_160 : decode cL_isDone 160 = .ok (.invokevirtual 38, 3) := by decide +kernel
theorem dL_isDone_163 : decode cL_isDone 163 = .ok (.ishl, 1) := by decide +kernel
theorem dL_isDone_164 : decode cL_isDone 164 = .ok (.iconst 1, 1) := by decide +kernel
theorem dL_isDone_165 : decode cL_isDone 165 = .ok (.isub, 1) := by decide +kernel
theorem dL_isDone_166 : decode cL_isDone 166 = .ok (.invokestatic 18, 3) := by decide +kernel
theorem dL_isDone_169 : decode cL_isDone 169 = .ok (.iadd, 1) := by decide +kernel
theorem dL_isDone_170 : decode cL_isDone 170 = .ok (.iload_n 1, 1) := by decide +kernel
theorem dL_isDone_171 : decode cL_isDone 171 = .ok (.bipush 8, 2) := by decide +kernel
theorem dL_isDone_173 : decode cL_isDone 173 = .ok (.ishr, 1) := by decide +kernel
theorem dL_isDone_174 : decode cL_isDone 174 = .ok (.bipush 10, 2) := by decide +kernel
theorem dL_isDone_176 : decode cL_isDone 176 = .ok (.invokestatic 18, 3) := by decide +kernel
theorem dL_isDone_179 : decode cL_isDone 179 = .ok (.invokevirtual 29, 3) := by decide +kernel
theorem dL_isDone_182 : decode cL_isDone 182 = .ok (.pop, 1) := by decide +kernel
theorem dL_isDone_183 : decode cL_isDone 183 = .ok (.goto 61, 3) := by decide +kernel
theorem dL_isDone_186 : decode cL_isDone 186 = .ok (.aload_n 0, 1) := by decide +kernel
theorem dL_isDone_187 : decode cL_isDone 187 = .ok (.iload_n 1, 1) := by decide +kernel
theorem dL_isDone_188 : decode cL_isDone 188 = .ok (.iconst 4, 1) := by decide +kernel
theorem dL_isDone_189 : decode cL_isDone 189 = .ok (.ishr, 1) := by decide +kernel
theorem dL_isDone_190 : decode cL_isDone 190 = .ok (.bipush 16, 2) := by decide +kernel
theorem dL_isDone_192 : decode cL_isDone 192 = .ok (.invokestatic 18, 3) := by decide +kernel
theorem dL_isDone_195 : decode cL_isDone 195 = .ok (.iconst 1, 1) := by decide +kernel
theorem dL_isDone_196 : decode cL_isDone 196 = .ok (.iload_n 1, 1) := by decide +kernel
theorem dL_isDone_197 : decode cL_isDone 197 = .ok (.bipush 6, 2) := by decide +kernel
theorem dL_isDone_199 : decode cL_isDone 199 = .ok (.ishr, 1) := by decide +kernel
theorem dL_isDone_200 : decode cL_isDone 200 = .ok (.bipush 9, 2) := by decide +kernel
theorem dL_isDone_202 : decode cL_isDone 202 = .ok (.invokestatic 18, 3) := by decide +kernel
theorem dL_isDone_205 : decode cL_isDone 205 = .ok (.iadd, 1) := by decide +kernel
theorem dL_isDone_206 : decode cL_isDone 206 = .ok (.iconst 1, 1) := by decide +kernel
theorem dL_isDone_207 : decode cL_isDone 207 = .ok (.iload_n 1, 1) := by decide +kernel
theorem dL_isDone_208 : decode cL_isDone 208 = .ok (.bipush 8, 2) := by decide +kernel
theorem dL_isDone_210 : decode cL_isDone 210 = .ok (.ishr, 1) := by decide +kernel
theorem dL_isDone_211 : decode cL_isDone 211 = .ok (.iconst 5, 1) := by decide +kernel
theorem dL_isDone_212 : decode cL_isDone 212 = .ok (.invokestatic 18, 3) := by decide +kernel
theorem dL_isDone_215 : decode cL_isDone 215 = .ok (.iadd, 1) := by decide +kernel
theorem dL_isDone_216 : decode cL_isDone 216 = .ok (.invokevirtual 26, 3) := by decide +kernel
theorem dL_isDone_219 : decode cL_isDone 219 = .ok (.pop, 1) := by decide +kernel
theorem dL_isDone_220 : decode cL_isDone 220 = .ok (.goto 24, 3) := by decide +kernel
theorem dL_isDone_223 : decode cL_isDone 223 = .ok (.aload_n 0, 1) := by decide +kernel
theorem dL_isDone_224 : decode cL_isDone 224 = .ok (.iload_n 1, 1) := by decide +kernel
theorem dL_isDone_225 : decode cL_isDone 225 = .ok (.iconst 4, 1) := by decide +kernel
theorem dL_isDone_226 : decode cL_isDone 226 = .ok (.ishr, 1) := by decide +kernel
theorem dL_isDone_227 : decode cL_isDone 227 = .ok (.iconst 1, 1) := by decide +kernel
theorem dL_isDone_228 : decode cL_isDone 228 = .ok (.aload_n 0, 1) := by decide +kernel
theorem dL_isDone_229 : decode cL_isDone 229 = .ok (.bipush 6, 2) := by decide +kernel
theorem dL_isDone_231 : decode cL_isDone 231 = .ok (.invokevirtual 38, 3) := by decide +kernel
theorem dL_isDone_234 : decode cL_isDone 234 = .ok (.invokestatic 42, 3) := by decide +kernel
theorem dL_isDone_237 : decode cL_isDone 237 = .ok (.invokestatic 18, 3) := by decide +kernel
theorem dL_isDone_240 : decode cL_isDone 240 = .ok (.invokevirtual 60, 3) := by decide +kernel
theorem dL_isDone_243 : decode cL_isDone 243 = .ok (.pop, 1) := by decide +kernel
theorem dL_isDone_244 : decode cL_isDone 244 = .ok (.iconst 1, 1) := by decide +kernel
theorem dL_isDone_245 : decode cL_isDone 245 = .ok (.ireturn, 1) := by decide +kernel
theorem dL_isDone_246 : decode cL_isDone 246 = .ok (.astore 4, 2) := by decide +kernel
theorem dL_isDone_248 : decode cL_isDone 248 = .ok (.iconst 0, 1) := by decide +kernel
theorem dL_isDone_249 : decode cL_isDone 249 = .ok (.ireturn, 1) := by decide +kernel
theorem dL_isDone_250 : decode cL_isDone 250 = .ok (.astore 4, 2) := by decide +kernel
theorem dL_isDone_252 : decode cL_isDone 252 = .ok (.iconst 0, 1) := by decide +kernel
theorem dL_isDone_253 : decode cL_isDone 253 = .ok (.ireturn, 1) := by decide +kernel
theorem dL_law_0 : decode cL_law 0 = .ok (.aload_n 0, 1) := by decide +kernel
theorem dL_law_1 : decode cL_law 1 = .ok (.invokestatic 67, 3) := by decide +kernel
theorem dL_law_4 : decode cL_law 4 = .ok (.astore_n 1, 1) := by decide +kernel
theorem dL_law_5 : decode cL_law 5 = .ok (.iconst 0, 1) := by decide +kernel
theorem dL_law_6 : decode cL_law 6 = .ok (.istore_n 2, 1) := by decide +kernel
theorem dL_law_7 : decode cL_law 7 = .ok (.iload_n 2, 1) := by decide +kernel
theorem dL_law_8 : decode cL_law 8 = .ok (.bipush 12, 2) := by decide +kernel
theorem dL_law_10 : decode cL_law 10 = .ok (.if_icmp .ge 173, 3) := by decide +kernel
theorem dL_law_13 : decode cL_law 13 = .ok (.iconst 0, 1) := by decide +kernel
theorem dL_law_14 : decode cL_law 14 = .ok (.istore_n 3, 1) := by decide +kernel
theorem dL_law_15 : decode cL_law 15 = .ok (.iload_n 3, 1) := by decide +kernel
theorem dL_law_16 : decode cL_law 16 = .ok (.aload_n 1, 1) := by decide +kernel
theorem dL_law_17 : decode cL_law 17 = .ok (.iconst 3, 1) := by decide +kernel
theorem dL_law_18 : decode cL_law 18 = .ok (.invokevirtual 38, 3) := by decide +kernel
theorem dL_law_21 : decode cL_law 21 = .ok (.if_icmp .ge 19, 3) := by decide +kernel
theorem dL_law_24 : decode cL_law 24 = .ok (.aload_n 1, 1) := by decide +kernel
theorem dL_law_25 : decode cL_law 25 = .ok (.iload_n 3, 1) := by decide +kernel
theorem dL_law_26 : decode cL_law 26 = .ok (.invokestatic 71, 3) := by decide +kernel
theorem dL_law_29 : decode cL_law 29 = .ok (.ifCond .ne 5, 3) := by decide +kernel
theorem dL_law_32 : decode cL_law 32 = .ok (.iconst 0, 1) := by decide +kernel
theorem dL_law_33 : decode cL_law 33 = .ok (.ireturn, 1) := by decide +kernel
theorem dL_law_34 : decode cL_law 34 = .ok (.iinc 3 1, 3) := by decide +kernel
theorem dL_law_37 : decode cL_law 37 = .ok (.goto (-22), 3) := by decide +kernel
theorem dL_law_40 : decode cL_law 40 = .ok (.iconst 0, 1) := by decide +kernel
theorem dL_law_41 : decode cL_law 41 = .ok (.istore_n 3, 1) := by decide +kernel
theorem dL_law_42 : decode cL_law 42 = .ok (.iconst 0, 1) := by decide +kernel
theorem dL_law_43 : decode cL_law 43 = .ok (.istore 4, 2) := by decide +kernel
theorem dL_law_45 : decode cL_law 45 = .ok (.iload 4, 2) := by decide +kernel
theorem dL_law_47 : decode cL_law 47 = .ok (.aload_n 1, 1) := by decide +kernel
theorem dL_law_48 : decode cL_law 48 = .ok (.iconst 1, 1) := by decide +kernel
theorem dL_law_49 : decode cL_law 49 = .ok (.invokevirtual 38, 3) := by decide +kernel
theorem dL_law_52 : decode cL_law 52 = .ok (.if_icmp .ge 31, 3) := by decide +kernel
theorem dL_law_55 : decode cL_law 55 = .ok (.aload_n 1, 1) := by decide +kernel
theorem dL_law_56 : decode cL_law 56 = .ok (.iload 4, 2) := by decide +kernel
theorem dL_law_58 : decode cL_law 58 = .ok (.iconst 5, 1) := by decide +kernel
theorem dL_law_59 : decode cL_law 59 = .ok (.invokevirtual 75, 3) := by decide +kernel
theorem dL_law_62 : decode cL_law 62 = .ok (.ifCond .ge 5, 3) := by decide +kernel
theorem dL_law_65 : decode cL_law 65 = .ok (.iconst 0, 1) := by decide +kernel
theorem dL_law_66 : decode cL_law 66 = .ok (.ireturn, 1) := by decide +kernel
theorem dL_law_67 : decode cL_law 67 = .ok (.iload_n 3, 1) := by decide +kernel
theorem dL_law_68 : decode cL_law 68 = .ok (.aload_n 1, 1) := by decide +kernel
theorem dL_law_69 : decode cL_law 69 = .ok (.iload 4, 2) := by decide +kernel
theorem dL_law_71 : decode cL_law 71 = .ok (.iconst 5, 1) := by decide +kernel
theorem dL_law_72 : decode cL_law 72 = .ok (.invokevirtual 75, 3) := by decide +kernel
theorem dL_law_75 : decode cL_law 75 = .ok (.iadd, 1) := by decide +kernel
theorem dL_law_76 : decode cL_law 76 = .ok (.istore_n 3, 1) := by decide +kernel
theorem dL_law_77 : decode cL_law 77 = .ok (.iinc 4 1, 3) := by decide +kernel
theorem dL_law_80 : decode cL_law 80 = .ok (.goto (-35), 3) := by decide +kernel
theorem dL_law_83 : decode cL_law 83 = .ok (.iload_n 3, 1) := by decide +kernel
theorem dL_law_84 : decode cL_law 84 = .ok (.aload_n 1, 1) := by decide +kernel
theorem dL_law_85 : decode cL_law 85 = .ok (.bipush 9, 2) := by decide +kernel
theorem dL_law_87 : decode cL_law 87 = .ok (.invokevirtual 38, 3) := by decide +kernel
theorem dL_law_90 : decode cL_law 90 = .ok (.aload_n 1, 1) := by decide +kernel
theorem dL_law_91 : decode cL_law 91 = .ok (.bipush 10, 2) := by decide +kernel
theorem dL_law_93 : decode cL_law 93 = .ok (.invokevirtual 38, 3) := by decide +kernel
theorem dL_law_96 : decode cL_law 96 = .ok (.isub, 1) := by decide +kernel
theorem dL_law_97 : decode cL_law 97 = .ok (.if_icmp .ne 45, 3) := by decide +kernel
theorem dL_law_100 : decode cL_law 100 = .ok (.iload_n 3, 1) := by decide +kernel
theorem dL_law_101 : decode cL_law 101 = .ok (.aload_n 1, 1) := by decide +kernel
theorem dL_law_102 : decode cL_law 102 = .ok (.bipush 11, 2) := by decide +kernel
theorem dL_law_104 : decode cL_law 104 = .ok (.invokevirtual 38, 3) := by decide +kernel
theorem dL_law_107 : decode cL_law 107 = .ok (.if_icmp .ne 35, 3) := by decide +kernel
theorem dL_law_110 : decode cL_law 110 = .ok (.aload_n 1, 1) := by decide +kernel
theorem dL_law_111 : decode cL_law 111 = .ok (.bipush 7, 2) := by decide +kernel
theorem dL_law_113 : decode cL_law 113 = .ok (.invokevirtual 38, 3) := by decide +kernel
theorem dL_law_116 : decode cL_law 116 = .ok (.iconst (-1), 1) := by decide +kernel
theorem dL_law_117 : decode cL_law 117 = .ok (.if_icmp .ne 7, 3) := by decide +kernel
theorem dL_law_120 : decode cL_law 120 = .ok (.iconst 1, 1) := by decide +kernel
theorem dL_law_121 : decode cL_law 121 = .ok (.goto 4, 3) := by decide +kernel
theorem dL_law_124 : decode cL_law 124 = .ok (.iconst 0, 1) := by decide +kernel
theorem dL_law_125 : decode cL_law 125 = .ok (.aload_n 1, 1) := by decide +kernel
theorem dL_law_126 : decode cL_law 126 = .ok (.bipush 8, 2) := by decide +kernel
theorem dL_law_128 : decode cL_law 128 = .ok (.invokevirtual 38, 3) := by decide +kernel
theorem dL_law_131 : decode cL_law 131 = .ok (.ifCond .eq 7, 3) := by decide +kernel
theorem dL_law_134 : decode cL_law 134 = .ok (.iconst 1, 1) := by decide +kernel
theorem dL_law_135 : decode cL_law 135 = .ok (.goto 4, 3) := by decide +kernel
theorem dL_law_138 : decode cL_law 138 = .ok (.iconst 0, 1) := by decide +kernel
theorem dL_law_139 : decode cL_law 139 = .ok (.if_icmp .eq 5, 3) := by decide +kernel
theorem dL_law_142 : decode cL_law 142 = .ok (.iconst 0, 1) := by decide +kernel
theorem dL_law_143 : decode cL_law 143 = .ok (.ireturn, 1) := by decide +kernel
theorem dL_law_144 : decode cL_law 144 = .ok (.aload_n 1, 1) := by decide +kernel
theorem dL_law_145 : decode cL_law 145 = .ok (.invokevirtual 78, 3) := by decide +kernel
theorem dL_law_148 : decode cL_law 148 = .ok (.lstore 4, 2) := by decide +kernel
theorem dL_law_150 : decode cL_law 150 = .ok (.aload_n 1, 1) := by decide +kernel
theorem dL_law_151 : decode cL_law 151 = .ok (.aload_n 0, 1) := by decide +kernel
theorem dL_law_152 : decode cL_law 152 = .ok (.bipush 16, 2) := by decide +kernel
theorem dL_law_154 : decode cL_law 154 = .ok (.iload_n 2, 1) := by decide +kernel
theorem dL_law_155 : decode cL_law 155 = .ok (.iadd, 1) := by decide +kernel
theorem dL_law_156 : decode cL_law 156 = .ok (.invokestatic 12, 3) := by decide +kernel
theorem dL_law_159 : decode cL_law 159 = .ok (.invokestatic 82, 3) := by decide +kernel
theorem dL_law_162 : decode cL_law 162 = .ok (.ifCond .ne 15, 3) := by decide +kernel
theorem dL_law_165 : decode cL_law 165 = .ok (.aload_n 1, 1) := by decide +kernel
theorem dL_law_166 : decode cL_law 166 = .ok (.invokevirtual 78, 3) := by decide +kernel
theorem dL_law_169 : decode cL_law 169 = .ok (.lload 4, 2) := by decide +kernel
theorem dL_law_171 : decode cL_law 171 = .ok (.lcmp, 1) := by decide +kernel
theorem dL_law_172 : decode cL_law 172 = .ok (.ifCond .eq 5, 3) := by decide +kernel
theorem dL_law_175 : decode cL_law 175 = .ok (.iconst 0, 1) := by decide +kernel
theorem dL_law_176 : decode cL_law 176 = .ok (.ireturn, 1) := by decide +kernel
theorem dL_law_177 : decode cL_law 177 = .ok (.iinc 2 1, 3) := by decide +kernel
theorem dL_law_180 : decode cL_law 180 = .ok (.goto (-173), 3) := by decide +kernel
theorem dL_law_183 : decode cL_law 183 = .ok (.aload_n 1, 1) := by decide +kernel
theorem dL_law_184 : decode cL_law 184 = .ok (.invokevirtual 78, 3) := by decide +kernel
theorem dL_law_187 : decode cL_law 187 = .ok (.lstore_n 2, 1) := by decide +kernel
theorem dL_law_188 : decode cL_law 188 = .ok (.aload_n 1, 1) := by decide +kernel
theorem dL_law_189 : decode cL_law 189 = .ok (.invokevirtual 85, 3) := by decide +kernel
theorem dL_law_192 : decode cL_law 192 = .ok (.ifCond .eq 16, 3) := by decide +kernel
theorem dL_law_195 : decode cL_law 195 = .ok (.aload_n 1, 1) := by decide +kernel
theorem dL_law_196 : decode cL_law 196 = .ok (.invokevirtual 78, 3) := by decide +kernel
theorem dL_law_199 : decode cL_law 199 = .ok (.lload_n 2, 1) := by decide +kernel
theorem dL_law_200 : decode cL_law 200 = .ok (.lcmp, 1) := by decide +kernel
theorem dL_law_201 : decode cL_law 201 = .ok (.ifCond .ne 7, 3) := by decide +kernel
theorem dL_law_204 : decode cL_law 204 = .ok (.iconst 1, 1) := by decide +kernel
theorem dL_law_205 : decode cL_law 205 = .ok (.goto 4, 3) := by decide +kernel
theorem dL_law_208 : decode cL_law 208 = .ok (.iconst 0, 1) := by decide +kernel
theorem dL_law_209 : decode cL_law 209 = .ok (.ireturn, 1) := by decide +kernel
theorem dL_isFilled_0 : decode cL_isFilled 0 = .ok (.aload_n 0, 1) := by decide +kernel
theorem dL_isFilled_1 : decode cL_isFilled 1 = .ok (.iload_n 1, 1) := by decide +kernel
theorem dL_isFilled_2 : decode cL_isFilled 2 = .ok (.iconst 0, 1) := by decide +kernel
theorem dL_isFilled_3 : decode cL_isFilled 3 = .ok (.invokevirtual 89, 3) := by decide +kernel
theorem dL_isFilled_6 : decode cL_isFilled 6 = .ok (.istore_n 2, 1) := by decide +kernel
theorem dL_isFilled_7 : decode cL_isFilled 7 = .ok (.aload_n 0, 1) := by decide +kernel
theorem dL_isFilled_8 : decode cL_isFilled 8 = .ok (.iload_n 1, 1) := by decide +kernel
theorem dL_isFilled_9 : decode cL_isFilled 9 = .ok (.iconst 3, 1) := by decide +kernel
theorem dL_isFilled_10 : decode cL_isFilled 10 = .ok (.invokevirtual 89, 3) := by decide +kernel
theorem dL_isFilled_13 : decode cL_isFilled 13 = .ok (.istore_n 3, 1) := by decide +kernel
theorem dL_isFilled_14 : decode cL_isFilled 14 = .ok (.iconst 0, 1) := by decide +kernel
theorem dL_isFilled_15 : decode cL_isFilled 15 = .ok (.istore 4, 2) := by decide +kernel
theorem dL_isFilled_17 : decode cL_isFilled 17 = .ok (.iconst 0, 1) := by decide +kernel
theorem dL_isFilled_18 : decode cL_isFilled 18 = .ok (.istore 5, 2) := by decide +kernel
theorem dL_isFilled_20 : decode cL_isFilled 20 = .ok (.iload 5, 2) := by decide +kernel
theorem dL_isFilled_22 : decode cL_isFilled 22 = .ok (.iload_n 2, 1) := by decide +kernel
theorem dL_isFilled_23 : decode cL_isFilled 23 = .ok (.if_icmp .gt 31, 3) := by decide +kernel
theorem dL_isFilled_26 : decode cL_isFilled 26 = .ok (.iload 5, 2) := by decide +kernel
theorem dL_isFilled_28 : decode cL_isFilled 28 = .ok (.iload_n 2, 1) := by decide +kernel
theorem dL_isFilled_29 : decode cL_isFilled 29 = .ok (.iconst (-1), 1) := by decide +kernel
theorem dL_isFilled_30 : decode cL_isFilled 30 = .ok (.ixor, 1) := by decide +kernel
theorem dL_isFilled_31 : decode cL_isFilled 31 = .ok (.iand, 1) := by decide +kernel
theorem dL_isFilled_32 : decode cL_isFilled 32 = .ok (.ifCond .ne 16, 3) := by decide +kernel
theorem dL_isFilled_35 : decode cL_isFilled 35 = .ok (.iload 4, 2) := by decide +kernel
theorem dL_isFilled_37 : decode cL_isFilled 37 = .ok (.aload_n 0, 1) := by decide +kernel
theorem dL_isFilled_38 : decode cL_isFilled 38 = .ok (.iload 5, 2) := by decide +kernel
theorem dL_isFilled_40 : decode cL_isFilled 40 = .ok (.invokestatic 92, 3) := by decide +kernel
theorem dL_isFilled_43 : decode cL_isFilled 43 = .ok (.invokestatic 42, 3) := by decide +kernel
theorem dL_isFilled_46 : decode cL_isFilled 46 = .ok (.istore 4, 2) := by decide +kernel
theorem dL_isFilled_48 : decode cL_isFilled 48 = .ok (.iinc 5 1, 3) := by decide +kernel
theorem dL_isFilled_51 : decode cL_isFilled 51 = .ok (.goto (-31), 3) := by decide +kernel
theorem dL_isFilled_54 : decode cL_isFilled 54 = .ok (.iload_n 3, 1) := by decide +kernel
theorem dL_isFilled_55 : decode cL_isFilled 55 = .ok (.iload_n 2, 1) := by decide +kernel
theorem dL_isFilled_56 : decode cL_isFilled 56 = .ok (.iconst (-1), 1) := by decide +kernel
theorem dL_isFilled_57 : decode cL_isFilled 57 = .ok (.ixor, 1) := by decide +kernel
theorem dL_isFilled_58 : decode cL_isFilled 58 = .ok (.iand, 1) := by decide +kernel
theorem dL_isFilled_59 : decode cL_isFilled 59 = .ok (.ifCond .ne 58, 3) := by decide +kernel
theorem dL_isFilled_62 : decode cL_isFilled 62 = .ok (.aload_n 0, 1) := by decide +kernel
theorem dL_isFilled_63 : decode cL_isFilled 63 = .ok (.iload_n 3, 1) := by decide +kernel
theorem dL_isFilled_64 : decode cL_isFilled 64 = .ok (.invokestatic 92, 3) := by decide +kernel
theorem dL_isFilled_67 : decode cL_isFilled 67 = .ok (.iload 4, 2) := by decide +kernel
theorem dL_isFilled_69 : decode cL_isFilled 69 = .ok (.if_icmp .ne 48, 3) := by decide +kernel
theorem dL_isFilled_72 : decode cL_isFilled 72 = .ok (.aload_n 0, 1) := by decide +kernel
theorem dL_isFilled_73 : decode cL_isFilled 73 = .ok (.iload_n 1, 1) := by decide +kernel
theorem dL_isFilled_74 : decode cL_isFilled 74 = .ok (.iconst 4, 1) := by decide +kernel
theorem dL_isFilled_75 : decode cL_isFilled 75 = .ok (.invokevirtual 89, 3) := by decide +kernel
theorem dL_isFilled_78 : decode cL_isFilled 78 = .ok (.iload 4, 2) := by decide +kernel
theorem dL_isFilled_80 : decode cL_isFilled 80 = .ok (.if_icmp .ne 37, 3) := by decide +kernel
theorem dL_isFilled_83 : decode cL_isFilled 83 = .ok (.aload_n 0, 1) := by decide +kernel
theorem dL_isFilled_84 : decode cL_isFilled 84 = .ok (.iload_n 1, 1) := by decide +kernel
theorem dL_isFilled_85 : decode cL_isFilled 85 = .ok (.iconst 2, 1) := by decide +kernel
theorem dL_isFilled_86 : decode cL_isFilled 86 = .ok (.invokevirtual 89, 3) := by decide +kernel
theorem dL_isFilled_89 : decode cL_isFilled 89 = .ok (.iload_n 2, 1) := by decide +kernel
theorem dL_isFilled_90 : decode cL_isFilled 90 = .ok (.invokestatic 96, 3) := by decide +kernel
theorem dL_isFilled_93 : decode cL_isFilled 93 = .ok (.iload 4, 2) := by decide +kernel
theorem dL_isFilled_95 : decode cL_isFilled 95 = .ok (.isub, 1) := by decide +kernel
theorem dL_isFilled_96 : decode cL_isFilled 96 = .ok (.if_icmp .ne 21, 3) := by decide +kernel
theorem dL_isFilled_99 : decode cL_isFilled 99 = .ok (.aload_n 0, 1) := by decide +kernel
theorem dL_isFilled_100 : decode cL_isFilled 100 = .ok (.iload_n 1, 1) := by decide +kernel
theorem dL_isFilled_101 : decode cL_isFilled 101 = .ok (.iconst 2, 1) := by decide +kernel
theorem dL_isFilled_102 : decode cL_isFilled 102 = .ok (.invokevirtual 89, 3) := by decide +kernel
theorem dL_isFilled_105 : decode cL_isFilled 105 = .ok (.aload_n 0, 1) := by decide +kernel
theorem dL_isFilled_106 : decode cL_isFilled 106 = .ok (.iconst 2, 1) := by decide +kernel
theorem dL_isFilled_107 : decode cL_isFilled 107 = .ok (.invokevirtual 38, 3) := by decide +kernel
theorem dL_isFilled_110 : decode cL_isFilled 110 = .ok (.if_icmp .gt 7, 3) := by decide +kernel
theorem dL_isFilled_113 : decode cL_isFilled 113 = .ok (.iconst 1, 1) := by decide +kernel
theorem dL_isFilled_114 : decode cL_isFilled 114 = .ok (.goto 4, 3) := by decide +kernel
theorem dL_isFilled_117 : decode cL_isFilled 117 = .ok (.iconst 0, 1) := by decide +kernel
theorem dL_isFilled_118 : decode cL_isFilled 118 = .ok (.ireturn, 1) := by decide +kernel
theorem dL_excess_0 : decode cL_excess 0 = .ok (.iconst 0, 1) := by decide +kernel
theorem dL_excess_1 : decode cL_excess 1 = .ok (.istore_n 2, 1) := by decide +kernel
theorem dL_excess_2 : decode cL_excess 2 = .ok (.iload_n 1, 1) := by decide +kernel
theorem dL_excess_3 : decode cL_excess 3 = .ok (.istore_n 3, 1) := by decide +kernel
theorem dL_excess_4 : decode cL_excess 4 = .ok (.iload_n 3, 1) := by decide +kernel
theorem dL_excess_5 : decode cL_excess 5 = .ok (.ifCond .eq 24, 3) := by decide +kernel
theorem dL_excess_8 : decode cL_excess 8 = .ok (.iload_n 2, 1) := by decide +kernel
theorem dL_excess_9 : decode cL_excess 9 = .ok (.aload_n 0, 1) := by decide +kernel
theorem dL_excess_10 : decode cL_excess 10 = .ok (.iload_n 3, 1) := by decide +kernel
theorem dL_excess_11 : decode cL_excess 11 = .ok (.invokestatic 101, 3) := by decide +kernel
theorem dL_excess_14 : decode cL_excess 14 = .ok (.iconst 5, 1) := by decide +kernel
theorem dL_excess_15 : decode cL_excess 15 = .ok (.invokevirtual 104, 3) := by decide +kernel
theorem dL_excess_18 : decode cL_excess 18 = .ok (.ior, 1) := by decide +kernel
theorem dL_excess_19 : decode cL_excess 19 = .ok (.istore_n 2, 1) := by decide +kernel
theorem dL_excess_20 : decode cL_excess 20 = .ok (.iload_n 3, 1) := by decide +kernel
theorem dL_excess_21 : decode cL_excess 21 = .ok (.iload_n 3, 1) := by decide +kernel
theorem dL_excess_22 : decode cL_excess 22 = .ok (.iconst 1, 1) := by decide +kernel
theorem dL_excess_23 : decode cL_excess 23 = .ok (.isub, 1) := by decide +kernel
theorem dL_excess_24 : decode cL_excess 24 = .ok (.iand, 1) := by decide +kernel
theorem dL_excess_25 : decode cL_excess 25 = .ok (.istore_n 3, 1) := by decide +kernel
theorem dL_excess_26 : decode cL_excess 26 = .ok (.goto (-22), 3) := by decide +kernel
theorem dL_excess_29 : decode cL_excess 29 = .ok (.iload_n 1, 1) := by decide +kernel
theorem dL_excess_30 : decode cL_excess 30 = .ok (.invokestatic 96, 3) := by decide +kernel
theorem dL_excess_33 : decode cL_excess 33 = .ok (.iload_n 2, 1) := by decide +kernel
theorem dL_excess_34 : decode cL_excess 34 = .ok (.invokestatic 96, 3) := by decide +kernel
theorem dL_excess_37 : decode cL_excess 37 = .ok (.isub, 1) := by decide +kernel
theorem dL_excess_38 : decode cL_excess 38 = .ok (.ireturn, 1) := by decide +kernel
