theorem dL_law_0 : decode cL_law 0 = .ok (.new 9, 3) := by decide +kernel
theorem dL_law_3 : decode cL_law 3 = .ok (.dup, 1) := by decide +kernel
theorem dL_law_4 : decode cL_law 4 = .ok (.invokespecial 216, 3) := by decide +kernel
theorem dL_law_7 : decode cL_law 7 = .ok (.astore_n 1, 1) := by decide +kernel
theorem dL_law_8 : decode cL_law 8 = .ok (.iconst 5, 1) := by decide +kernel
theorem dL_law_9 : decode cL_law 9 = .ok (.newarray .int, 2) := by decide +kernel
theorem dL_law_11 : decode cL_law 11 = .ok (.astore_n 2, 1) := by decide +kernel
theorem dL_law_12 : decode cL_law 12 = .ok (.bipush 29, 2) := by decide +kernel
theorem dL_law_14 : decode cL_law 14 = .ok (.newarray .int, 2) := by decide +kernel
theorem dL_law_16 : decode cL_law 16 = .ok (.astore_n 3, 1) := by decide +kernel
theorem dL_law_17 : decode cL_law 17 = .ok (.bipush 16, 2) := by decide +kernel
theorem dL_law_19 : decode cL_law 19 = .ok (.newarray .int, 2) := by decide +kernel
theorem dL_law_21 : decode cL_law 21 = .ok (.astore 4, 2) := by decide +kernel
theorem dL_law_23 : decode cL_law 23 = .ok (.bipush 64, 2) := by decide +kernel
theorem dL_law_25 : decode cL_law 25 = .ok (.newarray .int, 2) := by decide +kernel
theorem dL_law_27 : decode cL_law 27 = .ok (.astore 5, 2) := by decide +kernel
theorem dL_law_29 : decode cL_law 29 = .ok (.bipush 64, 2) := by decide +kernel
theorem dL_law_31 : decode cL_law 31 = .ok (.newarray .int, 2) := by decide +kernel
theorem dL_law_33 : decode cL_law 33 = .ok (.astore 6, 2) := by decide +kernel
theorem dL_law_35 : decode cL_law 35 = .ok (.aload_n 2, 1) := by decide +kernel
theorem dL_law_36 : decode cL_law 36 = .ok (.iconst 0, 1) := by decide +kernel
theorem dL_law_37 : decode cL_law 37 = .ok (.iconst 4, 1) := by decide +kernel
theorem dL_law_38 : decode cL_law 38 = .ok (.iastore, 1) := by decide +kernel
theorem dL_law_39 : decode cL_law 39 = .ok (.aload_n 2, 1) := by decide +kernel
theorem dL_law_40 : decode cL_law 40 = .ok (.iconst 1, 1) := by decide +kernel
theorem dL_law_41 : decode cL_law 41 = .ok (.iconst 4, 1) := by decide +kernel
theorem dL_law_42 : decode cL_law 42 = .ok (.iastore, 1) := by decide +kernel
theorem dL_law_43 : decode cL_law 43 = .ok (.aload_n 2, 1) := by decide +kernel
theorem dL_law_44 : decode cL_law 44 = .ok (.iconst 3, 1) := by decide +kernel
theorem dL_law_45 : decode cL_law 45 = .ok (.iconst 1, 1) := by decide +kernel
theorem dL_law_46 : decode cL_law 46 = .ok (.iastore, 1) := by decide +kernel
theorem dL_law_47 : decode cL_law 47 = .ok (.aload_n 1, 1) := by decide +kernel
theorem dL_law_48 : decode cL_law 48 = .ok (.invokevirtual 152, 3) := by decide +kernel
theorem dL_law_51 : decode cL_law 51 = .ok (.ifCond .ne 107, 3) := by decide +kernel
theorem dL_law_54 : decode cL_law 54 = .ok (.aload_n 1, 1) := by decide +kernel
theorem dL_law_55 : decode cL_law 55 = .ok (.invokevirtual 107, 3) := by decide +kernel
theorem dL_law_58 : decode cL_law 58 = .ok (.ifCond .ne 100, 3) := by decide +kernel
theorem dL_law_61 : decode cL_law 61 = .ok (.aload_n 1, 1) := by decide +kernel
theorem dL_law_62 : decode cL_law 62 = .ok (.invokevirtual 121, 3) := by decide +kernel
theorem dL_law_65 : decode cL_law 65 = .ok (.ifCond .ne 93, 3) := by decide +kernel
theorem dL_law_68 : decode cL_law 68 = .ok (.aload_n 1, 1) := by decide +kernel
theorem dL_law_69 : decode cL_law 69 = .ok (.invokevirtual 110, 3) := by decide +kernel
theorem dL_law_72 : decode cL_law 72 = .ok (.ifCond .eq 86, 3) := by decide +kernel
theorem dL_law_75 : decode cL_law 75 = .ok (.aload_n 1, 1) := by decide +kernel
theorem dL_law_76 : decode cL_law 76 = .ok (.invokevirtual 203, 3) := by decide +kernel
theorem dL_law_79 : decode cL_law 79 = .ok (.iconst (-1), 1) := by decide +kernel
theorem dL_law_80 : decode cL_law 80 = .ok (.if_icmp .ne 78, 3) := by decide +kernel
theorem dL_law_83 : decode cL_law 83 = .ok (.aload_n 1, 1) := by decide +kernel
theorem dL_law_84 : decode cL_law 84 = .ok (.invokevirtual 213, 3) := by decide +kernel
theorem dL_law_87 : decode cL_law 87 = .ok (.ifCond .ne 71, 3) := by decide +kernel
theorem dL_law_90 : decode cL_law 90 = .ok (.aload_n 1, 1) := by decide +kernel
theorem dL_law_91 : decode cL_law 91 = .ok (.bipush 10, 2) := by decide +kernel
theorem dL_law_93 : decode cL_law 93 = .ok (.iconst 0, 1) := by decide +kernel
theorem dL_law_94 : decode cL_law 94 = .ok (.iconst 0, 1) := by decide +kernel
theorem dL_law_95 : decode cL_law 95 = .ok (.iconst 0, 1) := by decide +kernel
theorem dL_law_96 : decode cL_law 96 = .ok (.iconst 0, 1) := by decide +kernel
theorem dL_law_97 : decode cL_law 97 = .ok (.iconst 0, 1) := by decide +kernel
theorem dL_law_98 : decode cL_law 98 = .ok (.invokestatic 117, 3) := by decide +kernel
theorem dL_law_101 : decode cL_law 101 = .ok (.ifCond .ne 57, 3) := by decide +kernel
theorem dL_law_104 : decode cL_law 104 = .ok (.aload_n 1, 1) := by decide +kernel
theorem dL_law_105 : decode cL_law 105 = .ok (.bipush 13, 2) := by decide +kernel
theorem dL_law_107 : decode cL_law 107 = .ok (.iconst 0, 1) := by decide +kernel
theorem dL_law_108 : decode cL_law 108 = .ok (.iconst 0, 1) := by decide +kernel
theorem dL_law_109 : decode cL_law 109 = .ok (.iconst 0, 1) := by decide +kernel
theorem dL_law_110 : decode cL_law 110 = .ok (.iconst 0, 1) := by decide +kernel
theorem dL_law_111 : decode cL_law 111 = .ok (.iconst 0, 1) := by decide +kernel
theorem dL_law_112 : decode cL_law 112 = .ok (.invokestatic 117, 3) := by decide +kernel
theorem dL_law_115 : decode cL_law 115 = .ok (.sipush (-3000), 3) := by decide +kernel
theorem dL_law_118 : decode cL_law 118 = .ok (.if_icmp .ne 40, 3) := by decide +kernel
theorem dL_law_121 : decode cL_law 121 = .ok (.aload_n 1, 1) := by decide +kernel
theorem dL_law_122 : decode cL_law 122 = .ok (.bipush 16, 2) := by decide +kernel
theorem dL_law_124 : decode cL_law 124 = .ok (.iconst 0, 1) := by decide +kernel
theorem dL_law_125 : decode cL_law 125 = .ok (.iconst 0, 1) := by decide +kernel
theorem dL_law_126 : decode cL_law 126 = .ok (.iconst 0, 1) := by decide +kernel
theorem dL_law_127 : decode cL_law 127 = .ok (.iconst 0, 1) := by decide +kernel
theorem dL_law_128 : decode cL_law 128 = .ok (.iconst 0, 1) := by decide +kernel
theorem dL_law_129 : decode cL_law 129 = .ok (.invokestatic 117, 3) := by decide +kernel
theorem dL_law_132 : decode cL_law 132 = .ok (.sipush (-3000), 3) := by decide +kernel
theorem dL_law_135 : decode cL_law 135 = .ok (.if_icmp .ne 23, 3) := by decide +kernel
theorem dL_law_138 : decode cL_law 138 = .ok (.aload_n 1, 1) := by decide +kernel
theorem dL_law_139 : decode cL_law 139 = .ok (.iconst 4, 1) := by decide +kernel
theorem dL_law_140 : decode cL_law 140 = .ok (.iconst 0, 1) := by decide +kernel
theorem dL_law_141 : decode cL_law 141 = .ok (.iconst 1, 1) := by decide +kernel
theorem dL_law_142 : decode cL_law 142 = .ok (.iconst 0, 1) := by decide +kernel
theorem dL_law_143 : decode cL_law 143 = .ok (.iconst 0, 1) := by decide +kernel
theorem dL_law_144 : decode cL_law 144 = .ok (.iconst 0, 1) := by decide +kernel
theorem dL_law_145 : decode cL_law 145 = .ok (.invokestatic 117, 3) := by decide +kernel
theorem dL_law_148 : decode cL_law 148 = .ok (.sipush (-2000), 3) := by decide +kernel
theorem dL_law_151 : decode cL_law 151 = .ok (.if_icmp .ne 7, 3) := by decide +kernel
theorem dL_law_154 : decode cL_law 154 = .ok (.iconst 1, 1) := by decide +kernel
theorem dL_law_155 : decode cL_law 155 = .ok (.goto 4, 3) := by decide +kernel
theorem dL_law_158 : decode cL_law 158 = .ok (.iconst 0, 1) := by decide +kernel
theorem dL_law_159 : decode cL_law 159 = .ok (.istore 7, 2) := by decide +kernel
theorem dL_law_161 : decode cL_law 161 = .ok (.iconst 0, 1) := by decide +kernel
theorem dL_law_162 : decode cL_law 162 = .ok (.istore 8, 2) := by decide +kernel
theorem dL_law_164 : decode cL_law 164 = .ok (.iload 8, 2) := by decide +kernel
theorem dL_law_166 : decode cL_law 166 = .ok (.bipush 24, 2) := by decide +kernel
theorem dL_law_168 : decode cL_law 168 = .ok (.if_icmp .ge 285, 3) := by decide +kernel
theorem dL_law_171 : decode cL_law 171 = .ok (.iload 7, 2) := by decide +kernel
theorem dL_law_173 : decode cL_law 173 = .ok (.ifCond .eq 280, 3) := by decide +kernel
theorem dL_law_176 : decode cL_law 176 = .ok (.iload 8, 2) := by decide +kernel
theorem dL_law_178 : decode cL_law 178 = .ok (.iconst 2, 1) := by decide +kernel
theorem dL_law_179 : decode cL_law 179 = .ok (.if_icmp .ge 7, 3) := by decide +kernel
theorem dL_law_182 : decode cL_law 182 = .ok (.iconst 0, 1) := by decide +kernel
theorem dL_law_183 : decode cL_law 183 = .ok (.goto 23, 3) := by decide +kernel
theorem dL_law_186 : decode cL_law 186 = .ok (.iload 8, 2) := by decide +kernel
theorem dL_law_188 : decode cL_law 188 = .ok (.iconst 5, 1) := by decide +kernel
theorem dL_law_189 : decode cL_law 189 = .ok (.if_icmp .ge 7, 3) := by decide +kernel
theorem dL_law_192 : decode cL_law 192 = .ok (.iconst 1, 1) := by decide +kernel
theorem dL_law_193 : decode cL_law 193 = .ok (.goto 13, 3) := by decide +kernel
theorem dL_law_196 : decode cL_law 196 = .ok (.aload_n 0, 1) := by decide +kernel
theorem dL_law_197 : decode cL_law 197 = .ok (.iconst 3, 1) := by decide +kernel
theorem dL_law_198 : decode cL_law 198 = .ok (.iload 8, 2) := by decide +kernel
theorem dL_law_200 : decode cL_law 200 = .ok (.imul, 1) := by decide +kernel
theorem dL_law_201 : decode cL_law 201 = .ok (.bipush 18, 2) := by decide +kernel
theorem dL_law_203 : decode cL_law 203 = .ok (.invokestatic 217, 3) := by decide +kernel
theorem dL_law_206 : decode cL_law 206 = .ok (.istore 9, 2) := by decide +kernel
theorem dL_law_208 : decode cL_law 208 = .ok (.aload_n 0, 1) := by decide +kernel
theorem dL_law_209 : decode cL_law 209 = .ok (.iconst 3, 1) := by decide +kernel
theorem dL_law_210 : decode cL_law 210 = .ok (.iload 8, 2) := by decide +kernel
theorem dL_law_212 : decode cL_law 212 = .ok (.imul, 1) := by decide +kernel
theorem dL_law_213 : decode cL_law 213 = .ok (.iconst 1, 1) := by decide +kernel
theorem dL_law_214 : decode cL_law 214 = .ok (.iadd, 1) := by decide +kernel
theorem dL_law_215 : decode cL_law 215 = .ok (.ldc 220, 2) := by decide +kernel
theorem dL_law_217 : decode cL_law 217 = .ok (.invokestatic 217, 3) := by decide +kernel
theorem dL_law_220 : decode cL_law 220 = .ok (.istore 10, 2) := by decide +kernel
theorem dL_law_222 : decode cL_law 222 = .ok (.aload_n 0, 1) := by decide +kernel
theorem dL_law_223 : decode cL_law 223 = .ok (.iconst 3, 1) := by decide +kernel
theorem dL_law_224 : decode cL_law 224 = .ok (.iload 8, 2) := by decide +kernel
theorem dL_law_226 : decode cL_law 226 = .ok (.imul, 1) := by decide +kernel
theorem dL_law_227 : decode cL_law 227 = .ok (.iconst 2, 1) := by decide +kernel
theorem dL_law_228 : decode cL_law 228 = .ok (.iadd, 1) := by decide +kernel
theorem dL_law_229 : decode cL_law 229 = .ok (.ldc 220, 2) := by decide +kernel
theorem dL_law_231 : decode cL_law 231 = .ok (.invokestatic 217, 3) := by decide +kernel
theorem dL_law_234 : decode cL_law 234 = .ok (.istore 11, 2) := by decide +kernel
theorem dL_law_236 : decode cL_law 236 = .ok (.iload 9, 2) := by decide +kernel
theorem dL_law_238 : decode cL_law 238 = .ok (.bipush 12, 2) := by decide +kernel
theorem dL_law_240 : decode cL_law 240 = .ok (.if_icmp .ge 24, 3) := by decide +kernel
theorem dL_law_243 : decode cL_law 243 = .ok (.aload_n 1, 1) := by decide +kernel
theorem dL_law_244 : decode cL_law 244 = .ok (.aload_n 2, 1) := by decide +kernel
theorem dL_law_245 : decode cL_law 245 = .ok (.aload_n 3, 1) := by decide +kernel
theorem dL_law_246 : decode cL_law 246 = .ok (.aload 4, 2) := by decide +kernel
theorem dL_law_248 : decode cL_law 248 = .ok (.aload 5, 2) := by decide +kernel
theorem dL_law_250 : decode cL_law 250 = .ok (.iload 9, 2) := by decide +kernel
theorem dL_law_252 : decode cL_law 252 = .ok (.iload 10, 2) := by decide +kernel
theorem dL_law_254 : decode cL_law 254 = .ok (.iload 11, 2) := by decide +kernel
theorem dL_law_256 : decode cL_law 256 = .ok (.invokestatic 221, 3) := by decide +kernel
theorem dL_law_259 : decode cL_law 259 = .ok (.istore 7, 2) := by decide +kernel
theorem dL_law_261 : decode cL_law 261 = .ok (.goto 38, 3) := by decide +kernel
theorem dL_law_264 : decode cL_law 264 = .ok (.iload 9, 2) := by decide +kernel
theorem dL_law_266 : decode cL_law 266 = .ok (.bipush 17, 2) := by decide +kernel
theorem dL_law_268 : decode cL_law 268 = .ok (.if_icmp .ge 31, 3) := by decide +kernel
theorem dL_law_271 : decode cL_law 271 = .ok (.aload_n 1, 1) := by decide +kernel
theorem dL_law_272 : decode cL_law 272 = .ok (.aload_n 2, 1) := by decide +kernel
theorem dL_law_273 : decode cL_law 273 = .ok (.aload_n 3, 1) := by decide +kernel
theorem dL_law_274 : decode cL_law 274 = .ok (.iload 9, 2) := by decide +kernel
theorem dL_law_276 : decode cL_law 276 = .ok (.bipush 16, 2) := by decide +kernel
theorem dL_law_278 : decode cL_law 278 = .ok (.if_icmp .ne 7, 3) := by decide +kernel
theorem dL_law_281 : decode cL_law 281 = .ok (.iconst 3, 1) := by decide +kernel
theorem dL_law_282 : decode cL_law 282 = .ok (.goto 8, 3) := by decide +kernel
theorem dL_law_285 : decode cL_law 285 = .ok (.iload 9, 2) := by decide +kernel
theorem dL_law_287 : decode cL_law 287 = .ok (.bipush 12, 2) := by decide +kernel
theorem dL_law_289 : decode cL_law 289 = .ok (.isub, 1) := by decide +kernel
theorem dL_law_290 : decode cL_law 290 = .ok (.iload 10, 2) := by decide +kernel
theorem dL_law_292 : decode cL_law 292 = .ok (.iload 11, 2) := by decide +kernel
theorem dL_law_294 : decode cL_law 294 = .ok (.invokestatic 225, 3) := by decide +kernel
theorem dL_law_297 : decode cL_law 297 = .ok (.istore 7, 2) := by decide +kernel
theorem dL_law_299 : decode cL_law 299 = .ok (.aload_n 2, 1) := by decide +kernel
theorem dL_law_300 : decode cL_law 300 = .ok (.aload_n 3, 1) := by decide +kernel
theorem dL_law_301 : decode cL_law 301 = .ok (.aload 5, 2) := by decide +kernel
theorem dL_law_303 : decode cL_law 303 = .ok (.invokestatic 206, 3) := by decide +kernel
theorem dL_law_306 : decode cL_law 306 = .ok (.aload_n 2, 1) := by decide +kernel
theorem dL_law_307 : decode cL_law 307 = .ok (.aload_n 3, 1) := by decide +kernel
theorem dL_law_308 : decode cL_law 308 = .ok (.aload 4, 2) := by decide +kernel
theorem dL_law_310 : decode cL_law 310 = .ok (.aload 5, 2) := by decide +kernel
theorem dL_law_312 : decode cL_law 312 = .ok (.aload 6, 2) := by decide +kernel
theorem dL_law_314 : decode cL_law 314 = .ok (.invokestatic 209, 3) := by decide +kernel
theorem dL_law_317 : decode cL_law 317 = .ok (.iload 9, 2) := by decide +kernel
theorem dL_law_319 : decode cL_law 319 = .ok (.bipush 17, 2) := by decide +kernel
theorem dL_law_321 : decode cL_law 321 = .ok (.if_icmp .ne 15, 3) := by decide +kernel
theorem dL_law_324 : decode cL_law 324 = .ok (.aload_n 1, 1) := by decide +kernel
theorem dL_law_325 : decode cL_law 325 = .ok (.aload_n 2, 1) := by decide +kernel
theorem dL_law_326 : decode cL_law 326 = .ok (.aload_n 3, 1) := by decide +kernel
theorem dL_law_327 : decode cL_law 327 = .ok (.aload 5, 2) := by decide +kernel
theorem dL_law_329 : decode cL_law 329 = .ok (.aload 6, 2) := by decide +kernel
theorem dL_law_331 : decode cL_law 331 = .ok (.invokestatic 229, 3) := by decide +kernel
theorem dL_law_334 : decode cL_law 334 = .ok (.istore 7, 2) := by decide +kernel
theorem dL_law_336 : decode cL_law 336 = .ok (.iload 11, 2) := by decide +kernel
theorem dL_law_338 : decode cL_law 338 = .ok (.bipush 7, 2) := by decide +kernel
theorem dL_law_340 : decode cL_law 340 = .ok (.idiv, 1) := by decide +kernel
theorem dL_law_341 : decode cL_law 341 = .ok (.iconst 4, 1) := by decide +kernel
theorem dL_law_342 : decode cL_law 342 = .ok (.irem, 1) := by decide +kernel
theorem dL_law_343 : decode cL_law 343 = .ok (.istore 12, 2) := by decide +kernel
theorem dL_law_345 : decode cL_law 345 = .ok (.iload 7, 2) := by decide +kernel
theorem dL_law_347 : decode cL_law 347 = .ok (.ifCond .eq 97, 3) := by decide +kernel
theorem dL_law_350 : decode cL_law 350 = .ok (.iload 12, 2) := by decide +kernel
theorem dL_law_352 : decode cL_law 352 = .ok (.ifCond .ne 22, 3) := by decide +kernel
theorem dL_law_355 : decode cL_law 355 = .ok (.aload_n 1, 1) := by decide +kernel
theorem dL_law_356 : decode cL_law 356 = .ok (.aload_n 2, 1) := by decide +kernel
theorem dL_law_357 : decode cL_law 357 = .ok (.aload_n 3, 1) := by decide +kernel
theorem dL_law_358 : decode cL_law 358 = .ok (.aload 4, 2) := by decide +kernel
theorem dL_law_360 : decode cL_law 360 = .ok (.aload 5, 2) := by decide +kernel
theorem dL_law_362 : decode cL_law 362 = .ok (.aload 6, 2) := by decide +kernel
theorem dL_law_364 : decode cL_law 364 = .ok (.iload 10, 2) := by decide +kernel
theorem dL_law_366 : decode cL_law 366 = .ok (.iload 11, 2) := by decide +kernel
theorem dL_law_368 : decode cL_law 368 = .ok (.invokestatic 233, 3) := by decide +kernel
theorem dL_law_371 : decode cL_law 371 = .ok (.ifCond .eq 73, 3) := by decide +kernel
theorem dL_law_374 : decode cL_law 374 = .ok (.iload 12, 2) := by decide +kernel
theorem dL_law_376 : decode cL_law 376 = .ok (.iconst 1, 1) := by decide +kernel
theorem dL_law_377 : decode cL_law 377 = .ok (.if_icmp .ne 18, 3) := by decide +kernel
theorem dL_law_380 : decode cL_law 380 = .ok (.aload_n 1, 1) := by decide +kernel
theorem dL_law_381 : decode cL_law 381 = .ok (.aload_n 2, 1) := by decide +kernel
theorem dL_law_382 : decode cL_law 382 = .ok (.aload_n 3, 1) := by decide +kernel
theorem dL_law_383 : decode cL_law 383 = .ok (.aload 5, 2) := by decide +kernel
theorem dL_law_385 : decode cL_law 385 = .ok (.aload 6, 2) := by decide +kernel
theorem dL_law_387 : decode cL_law 387 = .ok (.iload 10, 2) := by decide +kernel
theorem dL_law_389 : decode cL_law 389 = .ok (.invokestatic 237, 3) := by decide +kernel
theorem dL_law_392 : decode cL_law 392 = .ok (.ifCond .eq 52, 3) := by decide +kernel
theorem dL_law_395 : decode cL_law 395 = .ok (.iload 12, 2) := by decide +kernel
theorem dL_law_397 : decode cL_law 397 = .ok (.iconst 2, 1) := by decide +kernel
theorem dL_law_398 : decode cL_law 398 = .ok (.if_icmp .ne 18, 3) := by decide +kernel
theorem dL_law_401 : decode cL_law 401 = .ok (.aload_n 1, 1) := by decide +kernel
theorem dL_law_402 : decode cL_law 402 = .ok (.aload_n 2, 1) := by decide +kernel
theorem dL_law_403 : decode cL_law 403 = .ok (.aload_n 3, 1) := by decide +kernel
theorem dL_law_404 : decode cL_law 404 = .ok (.aload 4, 2) := by decide +kernel
theorem dL_law_406 : decode cL_law 406 = .ok (.aload 5, 2) := by decide +kernel
theorem dL_law_408 : decode cL_law 408 = .ok (.iload 10, 2) := by decide +kernel
theorem dL_law_410 : decode cL_law 410 = .ok (.invokestatic 241, 3) := by decide +kernel
theorem dL_law_413 : decode cL_law 413 = .ok (.ifCond .eq 31, 3) := by decide +kernel
theorem dL_law_416 : decode cL_law 416 = .ok (.iload 12, 2) := by decide +kernel
theorem dL_law_418 : decode cL_law 418 = .ok (.iconst 3, 1) := by decide +kernel
theorem dL_law_419 : decode cL_law 419 = .ok (.if_icmp .ne 21, 3) := by decide +kernel
theorem dL_law_422 : decode cL_law 422 = .ok (.iload 11, 2) := by decide +kernel
theorem dL_law_424 : decode cL_law 424 = .ok (.iconst 3, 1) := by decide +kernel
theorem dL_law_425 : decode cL_law 425 = .ok (.irem, 1) := by decide +kernel
theorem dL_law_426 : decode cL_law 426 = .ok (.ifCond .gt 14, 3) := by decide +kernel
theorem dL_law_429 : decode cL_law 429 = .ok (.aload_n 1, 1) := by decide +kernel
theorem dL_law_430 : decode cL_law 430 = .ok (.aload_n 2, 1) := by decide +kernel
theorem dL_law_431 : decode cL_law 431 = .ok (.aload_n 3, 1) := by decide +kernel
theorem dL_law_432 : decode cL_law 432 = .ok (.aload 4, 2) := by decide +kernel
theorem dL_law_434 : decode cL_law 434 = .ok (.invokestatic 244, 3) := by decide +kernel
theorem dL_law_437 : decode cL_law 437 = .ok (.ifCond .eq 7, 3) := by decide +kernel
theorem dL_law_440 : decode cL_law 440 = .ok (.iconst 1, 1) := by decide +kernel
theorem dL_law_441 : decode cL_law 441 = .ok (.goto 4, 3) := by decide +kernel
theorem dL_law_444 : decode cL_law 444 = .ok (.iconst 0, 1) := by decide +kernel
theorem dL_law_445 : decode cL_law 445 = .ok (.istore 7, 2) := by decide +kernel
theorem dL_law_447 : decode cL_law 447 = .ok (.iinc 8 1, 3) := by decide +kernel
theorem dL_law_450 : decode cL_law 450 = .ok (.goto (-286), 3) := by decide +kernel
theorem dL_law_453 : decode cL_law 453 = .ok (.iload 7, 2) := by decide +kernel
theorem dL_law_455 : decode cL_law 455 = .ok (.ifCond .eq 63, 3) := by decide +kernel
theorem dL_law_458 : decode cL_law 458 = .ok (.aload_n 1, 1) := by decide +kernel
theorem dL_law_459 : decode cL_law 459 = .ok (.aload_n 2, 1) := by decide +kernel
theorem dL_law_460 : decode cL_law 460 = .ok (.aload_n 3, 1) := by decide +kernel
theorem dL_law_461 : decode cL_law 461 = .ok (.aload 4, 2) := by decide +kernel
theorem dL_law_463 : decode cL_law 463 = .ok (.aload 5, 2) := by decide +kernel
theorem dL_law_465 : decode cL_law 465 = .ok (.aload 6, 2) := by decide +kernel
theorem dL_law_467 : decode cL_law 467 = .ok (.iconst 0, 1) := by decide +kernel
theorem dL_law_468 : decode cL_law 468 = .ok (.iconst 0, 1) := by decide +kernel
theorem dL_law_469 : decode cL_law 469 = .ok (.invokestatic 233, 3) := by decide +kernel
theorem dL_law_472 : decode cL_law 472 = .ok (.ifCond .eq 46, 3) := by decide +kernel
theorem dL_law_475 : decode cL_law 475 = .ok (.aload_n 1, 1) := by decide +kernel
theorem dL_law_476 : decode cL_law 476 = .ok (.aload_n 2, 1) := by decide +kernel
theorem dL_law_477 : decode cL_law 477 = .ok (.aload_n 3, 1) := by decide +kernel
theorem dL_law_478 : decode cL_law 478 = .ok (.aload 5, 2) := by decide +kernel
theorem dL_law_480 : decode cL_law 480 = .ok (.aload 6, 2) := by decide +kernel
theorem dL_law_482 : decode cL_law 482 = .ok (.iconst 1, 1) := by decide +kernel
theorem dL_law_483 : decode cL_law 483 = .ok (.invokestatic 237, 3) := by decide +kernel
theorem dL_law_486 : decode cL_law 486 = .ok (.ifCond .eq 32, 3) := by decide +kernel
theorem dL_law_489 : decode cL_law 489 = .ok (.aload_n 1, 1) := by decide +kernel
theorem dL_law_490 : decode cL_law 490 = .ok (.aload_n 2, 1) := by decide +kernel
theorem dL_law_491 : decode cL_law 491 = .ok (.aload_n 3, 1) := by decide +kernel
theorem dL_law_492 : decode cL_law 492 = .ok (.aload 4, 2) := by decide +kernel
theorem dL_law_494 : decode cL_law 494 = .ok (.aload 5, 2) := by decide +kernel
theorem dL_law_496 : decode cL_law 496 = .ok (.iconst 2, 1) := by decide +kernel
theorem dL_law_497 : decode cL_law 497 = .ok (.invokestatic 241, 3) := by decide +kernel
theorem dL_law_500 : decode cL_law 500 = .ok (.ifCond .eq 18, 3) := by decide +kernel
theorem dL_law_503 : decode cL_law 503 = .ok (.aload_n 1, 1) := by decide +kernel
theorem dL_law_504 : decode cL_law 504 = .ok (.aload_n 2, 1) := by decide +kernel
theorem dL_law_505 : decode cL_law 505 = .ok (.aload_n 3, 1) := by decide +kernel
theorem dL_law_506 : decode cL_law 506 = .ok (.aload 4, 2) := by decide +kernel
theorem dL_law_508 : decode cL_law 508 = .ok (.invokestatic 244, 3) := by decide +kernel
theorem dL_law_511 : decode cL_law 511 = .ok (.ifCond .eq 7, 3) := by decide +kernel
theorem dL_law_514 : decode cL_law 514 = .ok (.iconst 1, 1) := by decide +kernel
theorem dL_law_515 : decode cL_law 515 = .ok (.goto 4, 3) := by decide +kernel
theorem dL_law_518 : decode cL_law 518 = .ok (.iconst 0, 1) := by decide +kernel
theorem dL_law_519 : decode cL_law 519 = .ok (.ireturn, 1) := by decide +kernel
theorem dL_part_0 : decode cL_part 0 = .ok (.iload_n 1, 1) := by decide +kernel
theorem dL_part_1 : decode cL_part 1 = .ok (.aload_n 0, 1) := by decide +kernel
theorem dL_part_2 : decode cL_part 2 = .ok (.arraylength, 1) := by decide +kernel
theorem dL_part_3 : decode cL_part 3 = .ok (.if_icmp .ge 9, 3) := by decide +kernel
theorem dL_part_6 : decode cL_part 6 = .ok (.aload_n 0, 1) := by decide +kernel
theorem dL_part_7 : decode cL_part 7 = .ok (.iload_n 1, 1) := by decide +kernel
theorem dL_part_8 : decode cL_part 8 = .ok (.iaload, 1) := by decide +kernel
theorem dL_part_9 : decode cL_part 9 = .ok (.goto 16, 3) := by decide +kernel
theorem dL_part_12 : decode cL_part 12 = .ok (.sipush 881, 3) := by decide +kernel
theorem dL_part_15 : decode cL_part 15 = .ok (.iload_n 1, 1) := by decide +kernel
theorem dL_part_16 : decode cL_part 16 = .ok (.imul, 1) := by decide +kernel
theorem dL_part_17 : decode cL_part 17 = .ok (.sipush 751, 3) := by decide +kernel
theorem dL_part_20 : decode cL_part 20 = .ok (.iload_n 1, 1) := by decide +kernel
theorem dL_part_21 : decode cL_part 21 = .ok (.imul, 1) := by decide +kernel
theorem dL_part_22 : decode cL_part 22 = .ok (.iload_n 1, 1) := by decide +kernel
theorem dL_part_23 : decode cL_part 23 = .ok (.imul, 1) := by decide +kernel
theorem dL_part_24 : decode cL_part 24 = .ok (.iadd, 1) := by decide +kernel
theorem dL_part_25 : decode cL_part 25 = .ok (.istore_n 3, 1) := by decide +kernel
theorem dL_part_26 : decode cL_part 26 = .ok (.iload_n 3, 1) := by decide +kernel
theorem dL_part_27 : decode cL_part 27 = .ok (.ldc 7, 2) := by decide +kernel
theorem dL_part_29 : decode cL_part 29 = .ok (.iand, 1) := by decide +kernel
theorem dL_part_30 : decode cL_part 30 = .ok (.iload_n 2, 1) := by decide +kernel
theorem dL_part_31 : decode cL_part 31 = .ok (.irem, 1) := by decide +kernel
theorem dL_part_32 : decode cL_part 32 = .ok (.ireturn, 1) := by decide +kernel
theorem dL_does_0 : decode cL_does 0 = .ok (.iload_n 1, 1) := by decide +kernel
theorem dL_does_1 : decode cL_does 1 = .ok (.ifCond .ne 11, 3) := by decide +kernel
theorem dL_does_4 : decode cL_does 4 = .ok (.aload_n 0, 1) := by decide +kernel
theorem dL_does_5 : decode cL_does 5 = .ok (.iload_n 2, 1) := by decide +kernel
theorem dL_does_6 : decode cL_does 6 = .ok (.invokevirtual 8, 3) := by decide +kernel
theorem dL_does_9 : decode cL_does 9 = .ok (.goto 288, 3) := by decide +kernel
theorem dL_does_12 : decode cL_does 12 = .ok (.iload_n 1, 1) := by decide +kernel
theorem dL_does_13 : decode cL_does 13 = .ok (.iconst 1, 1) := by decide +kernel
theorem dL_does_14 : decode cL_does 14 = .ok (.if_icmp .ne 18, 3) := by decide +kernel
theorem dL_does_17 : decode cL_does 17 = .ok (.aload_n 0, 1) := by decide +kernel
theorem dL_does_18 : decode cL_does 18 = .ok (.iload_n 2, 1) := by decide +kernel
theorem dL_does_19 : decode cL_does 19 = .ok (.iload_n 3, 1) := by decide +kernel
theorem dL_does_20 : decode cL_does 20 = .ok (.iload 4, 2) := by decide +kernel
theorem dL_does_22 : decode cL_does 22 = .ok (.iload 5, 2) := by decide +kernel
theorem dL_does_24 : decode cL_does 24 = .ok (.iload 6, 2) := by decide +kernel
theorem dL_does_26 : decode cL_does 26 = .ok (.invokevirtual 14, 3) := by decide +kernel
theorem dL_does_29 : decode cL_does 29 = .ok (.goto 268, 3) := by decide +kernel
theorem dL_does_32 : decode cL_does 32 = .ok (.iload_n 1, 1) := by decide +kernel
theorem dL_does_33 : decode cL_does 33 = .ok (.iconst 2, 1) := by decide +kernel
theorem dL_does_34 : decode cL_does 34 = .ok (.if_icmp .ne 11, 3) := by decide +kernel
theorem dL_does_37 : decode cL_does 37 = .ok (.aload_n 0, 1) := by decide +kernel
theorem dL_does_38 : decode cL_does 38 = .ok (.iload_n 2, 1) := by decide +kernel
theorem dL_does_39 : decode cL_does 39 = .ok (.invokevirtual 18, 3) := by decide +kernel
theorem dL_does_42 : decode cL_does 42 = .ok (.goto 255, 3) := by decide +kernel
theorem dL_does_45 : decode cL_does 45 = .ok (.iload_n 1, 1) := by decide +kernel
theorem dL_does_46 : decode cL_does 46 = .ok (.iconst 3, 1) := by decide +kernel
theorem dL_does_47 : decode cL_does 47 = .ok (.if_icmp .ne 29, 3) := by decide +kernel
theorem dL_does_50 : decode cL_does 50 = .ok (.aload_n 0, 1) := by decide +kernel
theorem dL_does_51 : decode cL_does 51 = .ok (.iload_n 2, 1) := by decide +kernel
theorem dL_does_52 : decode cL_does 52 = .ok (.iload_n 3, 1) := by decide +kernel
theorem dL_does_53 : decode cL_does 53 = .ok (.iconst 1, 1) := by decide +kernel
theorem dL_does_54 : decode cL_does 54 = .ok (.if_icmp .ne 7, 3) := by decide +kernel
theorem dL_does_57 : decode cL_does 57 = .ok (.iconst 1, 1) := by decide +kernel
theorem dL_does_58 : decode cL_does 58 = .ok (.goto 4, 3) := by decide +kernel
theorem dL_does_61 : decode cL_does 61 = .ok (.iconst 0, 1) := by decide +kernel
theorem dL_does_62 : decode cL_does 62 = .ok (.invokevirtual 21, 3) := by decide +kernel
theorem dL_does_65 : decode cL_does 65 = .ok (.ifCond .eq 7, 3) := by decide +kernel
theorem dL_does_68 : decode cL_does 68 = .ok (.iconst 1, 1) := by decide +kernel
theorem dL_does_69 : decode cL_does 69 = .ok (.goto 228, 3) := by decide +kernel
theorem dL_does_72 : decode cL_does 72 = .ok (.iconst 0, 1) := by decide +kernel
theorem dL_does_73 : decode cL_does 73 = .ok (.goto 224, 3) := by decide +kernel
theorem dL_does_76 : decode cL_does 76 = .ok (.iload_n 1, 1) := by decide +kernel
theorem dL_does_77 : decode cL_does 77 = .ok (.iconst 4, 1) := by decide +kernel
theorem dL_does_78 : decode cL_does 78 = .ok (.if_icmp .ne 12, 3) := by decide +kernel
theorem dL_does_81 : decode cL_does 81 = .ok (.aload_n 0, 1) := by decide +kernel
theorem dL_does_82 : decode cL_does 82 = .ok (.iload_n 2, 1) := by decide +kernel
theorem dL_does_83 : decode cL_does 83 = .ok (.iload_n 3, 1) := by decide +kernel
theorem dL_does_84 : decode cL_does 84 = .ok (.invokevirtual 25, 3) := by decide +kernel
theorem dL_does_87 : decode cL_does 87 = .ok (.goto 210, 3) := by decide +kernel
theorem dL_does_90 : decode cL_does 90 = .ok (.iload_n 1, 1) := by decide +kernel
theorem dL_does_91 : decode cL_does 91 = .ok (.iconst 5, 1) := by decide +kernel
theorem dL_does_92 : decode cL_does 92 = .ok (.if_icmp .ne 20, 3) := by decide +kernel
theorem dL_does_95 : decode cL_does 95 = .ok (.aload_n 0, 1) := by decide +kernel
theorem dL_does_96 : decode cL_does 96 = .ok (.iload_n 2, 1) := by decide +kernel
theorem dL_does_97 : decode cL_does 97 = .ok (.iload_n 3, 1) := by decide +kernel
theorem dL_does_98 : decode cL_does 98 = .ok (.invokevirtual 29, 3) := by decide +kernel
theorem dL_does_101 : decode cL_does 101 = .ok (.ifCond .eq 7, 3) := by decide +kernel
theorem dL_does_104 : decode cL_does 104 = .ok (.iconst 1, 1) := by decide +kernel
theorem dL_does_105 : decode cL_does 105 = .ok (.goto 192, 3) := by decide +kernel
theorem dL_does_108 : decode cL_does 108 = .ok (.iconst 0, 1) := by decide +kernel
theorem dL_does_109 : decode cL_does 109 = .ok (.goto 188, 3) := by decide +kernel
theorem dL_does_112 : decode cL_does 112 = .ok (.iload_n 1, 1) := by decide +kernel
theorem dL_does_113 : decode cL_does 113 = .ok (.bipush 6, 2) := by decide +kernel
theorem dL_does_115 : decode cL_does 115 = .ok (.if_icmp .ne 20, 3) := by decide +kernel
theorem dL_does_118 : decode cL_does 118 = .ok (.aload_n 0, 1) := by decide +kernel
theorem dL_does_119 : decode cL_does 119 = .ok (.iload_n 2, 1) := by decide +kernel
theorem dL_does_120 : decode cL_does 120 = .ok (.iload_n 3, 1) := by decide +kernel
theorem dL_does_121 : decode cL_does 121 = .ok (.invokevirtual 33, 3) := by decide +kernel
theorem dL_does_124 : decode cL_does 124 = .ok (.ifCond .eq 7, 3) := by decide +kernel
theorem dL_does_127 : decode cL_does 127 = .ok (.iconst 1, 1) := by decide +kernel
theorem dL_does_128 : decode cL_does 128 = .ok (.goto 169, 3) := by decide +kernel
theorem dL_does_131 : decode cL_does 131 = .ok (.iconst 0, 1) := by decide +kernel
theorem dL_does_132 : decode cL_does 132 = .ok (.goto 165, 3) := by decide +kernel
theorem dL_does_135 : decode cL_does 135 = .ok (.iload_n 1, 1) := by decide +kernel
theorem dL_does_136 : decode cL_does 136 = .ok (.bipush 7, 2) := by decide +kernel
theorem dL_does_138 : decode cL_does 138 = .ok (.if_icmp .ne 12, 3) := by decide +kernel
theorem dL_does_141 : decode cL_does 141 = .ok (.aload_n 0, 1) := by decide +kernel
theorem dL_does_142 : decode cL_does 142 = .ok (.iload_n 2, 1) := by decide +kernel
theorem dL_does_143 : decode cL_does 143 = .ok (.iload_n 3, 1) := by decide +kernel
theorem dL_does_144 : decode cL_does 144 = .ok (.invokevirtual 36, 3) := by decide +kernel
theorem dL_does_147 : decode cL_does 147 = .ok (.goto 150, 3) := by decide +kernel
theorem dL_does_150 : decode cL_does 150 = .ok (.iload_n 1, 1) := by decide +kernel
theorem dL_does_151 : decode cL_does 151 = .ok (.bipush 8, 2) := by decide +kernel
theorem dL_does_153 : decode cL_does 153 = .ok (.if_icmp .ne 14, 3) := by decide +kernel
theorem dL_does_156 : decode cL_does 156 = .ok (.aload_n 0, 1) := by decide +kernel
theorem dL_does_157 : decode cL_does 157 = .ok (.iload_n 2, 1) := by decide +kernel
theorem dL_does_158 : decode cL_does 158 = .ok (.iload_n 3, 1) := by decide +kernel
theorem dL_does_159 : decode cL_does 159 = .ok (.iload 4, 2) := by decide +kernel
theorem dL_does_161 : decode cL_does 161 = .ok (.invokevirtual 39, 3) := by decide +kernel
theorem dL_does_164 : decode cL_does 164 = .ok (.goto 133, 3) := by decide +kernel
theorem dL_does_167 : decode cL_does 167 = .ok (.iload_n 1, 1) := by decide +kernel
theorem dL_does_168 : decode cL_does 168 = .ok (.bipush 9, 2) := by decide +kernel
theorem dL_does_170 : decode cL_does 170 = .ok (.if_icmp .ne 14, 3) := by decide +kernel
theorem dL_does_173 : decode cL_does 173 = .ok (.aload_n 0, 1) := by decide +kernel
theorem dL_does_174 : decode cL_does 174 = .ok (.iload_n 2, 1) := by decide +kernel
theorem dL_does_175 : decode cL_does 175 = .ok (.iload_n 3, 1) := by decide +kernel
theorem dL_does_176 : decode cL_does 176 = .ok (.iload 4, 2) := by decide +kernel
theorem dL_does_178 : decode cL_does 178 = .ok (.invokevirtual 43, 3) := by decide +kernel
theorem dL_does_181 : decode cL_does 181 = .ok (.goto 116, 3) := by decide +kernel
theorem dL_does_184 : decode cL_does 184 = .ok (.iload_n 1, 1) := by decide +kernel
theorem dL_does_185 : decode cL_does 185 = .ok (.bipush 10, 2) := by decide +kernel
theorem dL_does_187 : decode cL_does 187 = .ok (.if_icmp .ne 10, 3) := by decide +kernel
theorem dL_does_190 : decode cL_does 190 = .ok (.aload_n 0, 1) := by decide +kernel
theorem dL_does_191 : decode cL_does 191 = .ok (.invokevirtual 46, 3) := by decide +kernel
theorem dL_does_194 : decode cL_does 194 = .ok (.goto 103, 3) := by decide +kernel
theorem dL_does_197 : decode cL_does 197 = .ok (.iload_n 1, 1) := by decide +kernel
theorem dL_does_198 : decode cL_does 198 = .ok (.bipush 11, 2) := by decide +kernel
theorem dL_does_200 : decode cL_does 200 = .ok (.if_icmp .ne 10, 3) := by decide +kernel
theorem dL_does_203 : decode cL_does 203 = .ok (.aload_n 0, 1) := by decide +kernel
theorem dL_does_204 : decode cL_does 204 = .ok (.invokevirtual 50, 3) := by decide +kernel
theorem dL_does_207 : decode cL_does 207 = .ok (.goto 90, 3) := by decide +kernel
theorem dL_does_210 : decode cL_does 210 = .ok (.iload_n 1, 1) := by decide +kernel
theorem dL_does_211 : decode cL_does 211 = .ok (.bipush 12, 2) := by decide +kernel
theorem dL_does_213 : decode cL_does 213 = .ok (.if_icmp .ne 10, 3) := by decide +kernel
theorem dL_does_216 : decode cL_does 216 = .ok (.aload_n 0, 1) := by decide +kernel
theorem dL_does_217 : decode cL_does 217 = .ok (.invokevirtual 53, 3) := by decide +kernel
theorem dL_does_220 : decode cL_does 220 = .ok (.goto 77, 3) := by decide +kernel
theorem dL_does_223 : decode cL_does 223 = .ok (.iload_n 1, 1) := by decide +kernel
theorem dL_does_224 : decode cL_does 224 = .ok (.bipush 13, 2) := by decide +kernel
theorem dL_does_226 : decode cL_does 226 = .ok (.if_icmp .ne 14, 3) := by decide +kernel
theorem dL_does_229 : decode cL_does 229 = .ok (.aload_n 0, 1) := by decide +kernel
theorem dL_does_230 : decode cL_does 230 = .ok (.iload_n 2, 1) := by decide +kernel
theorem dL_does_231 : decode cL_does 231 = .ok (.iload_n 3, 1) := by decide +kernel
theorem dL_does_232 : decode cL_does 232 = .ok (.iload 4, 2) := by decide +kernel
theorem dL_does_234 : decode cL_does 234 = .ok (.invokevirtual 56, 3) := by decide +kernel
theorem dL_does_237 : decode cL_does 237 = .ok (.goto 60, 3) := by decide +kernel
theorem dL_does_240 : decode cL_does 240 = .ok (.iload_n 1, 1) := by decide +kernel
theorem dL_does_241 : decode cL_does 241 = .ok (.bipush 14, 2) := by decide +kernel
theorem dL_does_243 : decode cL_does 243 = .ok (.if_icmp .ne 20, 3) := by decide +kernel
theorem dL_does_246 : decode cL_does 246 = .ok (.aload_n 0, 1) := by decide +kernel
theorem dL_does_247 : decode cL_does 247 = .ok (.iload_n 2, 1) := by decide +kernel
theorem dL_does_248 : decode cL_does 248 = .ok (.iload_n 3, 1) := by decide +kernel
theorem dL_does_249 : decode cL_does 249 = .ok (.invokevirtual 59, 3) := by decide +kernel
theorem dL_does_252 : decode cL_does 252 = .ok (.ifCond .eq 7, 3) := by decide +kernel
theorem dL_does_255 : decode cL_does 255 = .ok (.iconst 1, 1) := by decide +kernel
theorem dL_does_256 : decode cL_does 256 = .ok (.goto 41, 3) := by decide +kernel
theorem dL_does_259 : decode cL_does 259 = .ok (.iconst 0, 1) := by decide +kernel
theorem dL_does_260 : decode cL_does 260 = .ok (.goto 37, 3) := by decide +kernel
theorem dL_does_263 : decode cL_does 263 = .ok (.iload_n 1, 1) := by decide +kernel
theorem dL_does_264 : decode cL_does 264 = .ok (.bipush 15, 2) := by decide +kernel
theorem dL_does_266 : decode cL_does 266 = .ok (.if_icmp .ne 11, 3) := by decide +kernel
theorem dL_does_269 : decode cL_does 269 = .ok (.aload_n 0, 1) := by decide +kernel
theorem dL_does_270 : decode cL_does 270 = .ok (.iload_n 2, 1) := by decide +kernel
theorem dL_does_271 : decode cL_does 271 = .ok (.invokevirtual 62, 3) := by decide +kernel
theorem dL_does_274 : decode cL_does 274 = .ok (.goto 23, 3) := by decide +kernel
theorem dL_does_277 : decode cL_does 277 = .ok (.iload_n 1, 1) := by decide +kernel
theorem dL_does_278 : decode cL_does 278 = .ok (.bipush 16, 2) := by decide +kernel
theorem dL_does_280 : decode cL_does 280 = .ok (.if_icmp .ne 12, 3) := by decide +kernel
theorem dL_does_283 : decode cL_does 283 = .ok (.aload_n 0, 1) := by decide +kernel
theorem dL_does_284 : decode cL_does 284 = .ok (.iload_n 2, 1) := by decide +kernel
theorem dL_does_285 : decode cL_does 285 = .ok (.iload_n 3, 1) := by decide +kernel
theorem dL_does_286 : decode cL_does 286 = .ok (.invokevirtual 65, 3) := by decide +kernel
theorem dL_does_289 : decode cL_does 289 = .ok (.goto 8, 3) := by decide +kernel
theorem dL_does_292 : decode cL_does 292 = .ok (.aload_n 0, 1) := by decide +kernel
theorem dL_does_293 : decode cL_does 293 = .ok (.iload_n 2, 1) := by decide +kernel
theorem dL_does_294 : decode cL_does 294 = .ok (.invokevirtual 68, 3) := by decide +kernel
theorem dL_does_297 : decode cL_does 297 = .ok (.ireturn, 1) := by decide +kernel
theorem dL_does_298 : decode cL_does 298 = .ok (.astore 7, 2) := by decide +kernel
theorem dL_does_300 : decode cL_does 300 = .ok (.sipush (-3000), 3) := by decide +kernel
theorem dL_does_303 : decode cL_does 303 = .ok (.ireturn, 1) := by decide +kernel
theorem dL_does_304 : decode cL_does 304 = .ok (.astore 7, 2) := by decide +kernel
theorem dL_does_306 : decode cL_does 306 = .ok (.sipush (-2000), 3) := by decide +kernel
theorem dL_does_309 : decode cL_does 309 = .ok (.ireturn, 1) := by decide +kernel
theorem dL_does_310 : decode cL_does 310 = .ok (.astore 7, 2) := by decide +kernel
theorem dL_does_312 : decode cL_does 312 = .ok (.sipush (-1000), 3) := by decide +kernel
theorem dL_does_315 : decode cL_does 315 = .ok (.ireturn, 1) := by decide +kernel
theorem dL_points_0 : decode cL_points 0 = .ok (.aload_n 0, 1) := by decide +kernel
theorem dL_points_1 : decode cL_points 1 = .ok (.iconst 0, 1) := by decide +kernel
theorem dL_points_2 : decode cL_points 2 = .ok (.iaload, 1) := by decide +kernel
theorem dL_points_3 : decode cL_points 3 = .ok (.aload_n 0, 1) := by decide +kernel
theorem dL_points_4 : decode cL_points 4 = .ok (.iconst 1, 1) := by decide +kernel
theorem dL_points_5 : decode cL_points 5 = .ok (.iaload, 1) := by decide +kernel
theorem dL_points_6 : decode cL_points 6 = .ok (.imul, 1) := by decide +kernel
theorem dL_points_7 : decode cL_points 7 = .ok (.ireturn, 1) := by decide +kernel
theorem dL_time_0 : decode cL_time 0 = .ok (.iload_n 2, 1) := by decide +kernel
theorem dL_time_1 : decode cL_time 1 = .ok (.aload_n 0, 1) := by decide +kernel
theorem dL_time_2 : decode cL_time 2 = .ok (.invokestatic 77, 3) := by decide +kernel
theorem dL_time_5 : decode cL_time 5 = .ok (.irem, 1) := by decide +kernel
theorem dL_time_6 : decode cL_time 6 = .ok (.istore_n 3, 1) := by decide +kernel
theorem dL_time_7 : decode cL_time 7 = .ok (.iload_n 3, 1) := by decide +kernel
theorem dL_time_8 : decode cL_time 8 = .ok (.aload_n 0, 1) := by decide +kernel
theorem dL_time_9 : decode cL_time 9 = .ok (.iconst 1, 1) := by decide +kernel
theorem dL_time_10 : decode cL_time 10 = .ok (.iaload, 1) := by decide +kernel
theorem dL_time_11 : decode cL_time 11 = .ok (.idiv, 1) := by decide +kernel
theorem dL_time_12 : decode cL_time 12 = .ok (.aload_n 0, 1) := by decide +kernel
theorem dL_time_13 : decode cL_time 13 = .ok (.iconst 3, 1) := by decide +kernel
theorem dL_time_14 : decode cL_time 14 = .ok (.iaload, 1) := by decide +kernel
theorem dL_time_15 : decode cL_time 15 = .ok (.imul, 1) := by decide +kernel
theorem dL_time_16 : decode cL_time 16 = .ok (.iload_n 3, 1) := by decide +kernel
theorem dL_time_17 : decode cL_time 17 = .ok (.aload_n 0, 1) := by decide +kernel
theorem dL_time_18 : decode cL_time 18 = .ok (.iconst 1, 1) := by decide +kernel
theorem dL_time_19 : decode cL_time 19 = .ok (.iaload, 1) := by decide +kernel
theorem dL_time_20 : decode cL_time 20 = .ok (.irem, 1) := by decide +kernel
theorem dL_time_21 : decode cL_time 21 = .ok (.aload_n 0, 1) := by decide +kernel
theorem dL_time_22 : decode cL_time 22 = .ok (.iconst 4, 1) := by decide +kernel
theorem dL_time_23 : decode cL_time 23 = .ok (.iaload, 1) := by decide +kernel
theorem dL_time_24 : decode cL_time 24 = .ok (.imul, 1) := by decide +kernel
theorem dL_time_25 : decode cL_time 25 = .ok (.iadd, 1) := by decide +kernel
theorem dL_time_26 : decode cL_time 26 = .ok (.aload_n 1, 1) := by decide +kernel
theorem dL_time_27 : decode cL_time 27 = .ok (.bipush 12, 2) := by decide +kernel
theorem dL_time_29 : decode cL_time 29 = .ok (.iload_n 2, 1) := by decide +kernel
theorem dL_time_30 : decode cL_time 30 = .ok (.aload_n 0, 1) := by decide +kernel
theorem dL_time_31 : decode cL_time 31 = .ok (.invokestatic 77, 3) := by decide +kernel
theorem dL_time_34 : decode cL_time 34 = .ok (.idiv, 1) := by decide +kernel
theorem dL_time_35 : decode cL_time 35 = .ok (.iadd, 1) := by decide +kernel
theorem dL_time_36 : decode cL_time 36 = .ok (.iaload, 1) := by decide +kernel
theorem dL_time_37 : decode cL_time 37 = .ok (.iadd, 1) := by decide +kernel
theorem dL_time_38 : decode cL_time 38 = .ok (.ireturn, 1) := by decide +kernel
theorem dL_steps_0 : decode cL_steps 0 = .ok (.aload_n 0, 1) := by decide +kernel
theorem dL_steps_1 : decode cL_steps 1 = .ok (.iconst 2, 1) := by decide +kernel
theorem dL_steps_2 : decode cL_steps 2 = .ok (.iaload, 1) := by decide +kernel
theorem dL_steps_3 : decode cL_steps 3 = .ok (.aload_n 0, 1) := by decide +kernel
theorem dL_steps_4 : decode cL_steps 4 = .ok (.invokestatic 77, 3) := by decide +kernel
theorem dL_steps_7 : decode cL_steps 7 = .ok (.imul, 1) := by decide +kernel
theorem dL_steps_8 : decode cL_steps 8 = .ok (.istore_n 3, 1) := by decide +kernel
theorem dL_steps_9 : decode cL_steps 9 = .ok (.iconst 0, 1) := by decide +kernel
theorem dL_steps_10 : decode cL_steps 10 = .ok (.istore 4, 2) := by decide +kernel
theorem dL_steps_12 : decode cL_steps 12 = .ok (.iload 4, 2) := by decide +kernel
theorem dL_steps_14 : decode cL_steps 14 = .ok (.iload_n 3, 1) := by decide +kernel
theorem dL_steps_15 : decode cL_steps 15 = .ok (.if_icmp .ge 75, 3) := by decide +kernel
theorem dL_steps_18 : decode cL_steps 18 = .ok (.aload_n 2, 1) := by decide +kernel
theorem dL_steps_19 : decode cL_steps 19 = .ok (.iload 4, 2) := by decide +kernel
theorem dL_steps_21 : decode cL_steps 21 = .ok (.iconst 0, 1) := by decide +kernel
theorem dL_steps_22 : decode cL_steps 22 = .ok (.iastore, 1) := by decide +kernel
theorem dL_steps_23 : decode cL_steps 23 = .ok (.iconst 0, 1) := by decide +kernel
theorem dL_steps_24 : decode cL_steps 24 = .ok (.istore 5, 2) := by decide +kernel
theorem dL_steps_26 : decode cL_steps 26 = .ok (.iload 5, 2) := by decide +kernel
theorem dL_steps_28 : decode cL_steps 28 = .ok (.iload_n 3, 1) := by decide +kernel
theorem dL_steps_29 : decode cL_steps 29 = .ok (.if_icmp .ge 55, 3) := by decide +kernel
theorem dL_steps_32 : decode cL_steps 32 = .ok (.aload_n 0, 1) := by decide +kernel
theorem dL_steps_33 : decode cL_steps 33 = .ok (.aload_n 1, 1) := by decide +kernel
theorem dL_steps_34 : decode cL_steps 34 = .ok (.iload 5, 2) := by decide +kernel
theorem dL_steps_36 : decode cL_steps 36 = .ok (.invokestatic 83, 3) := by decide +kernel
theorem dL_steps_39 : decode cL_steps 39 = .ok (.aload_n 0, 1) := by decide +kernel
theorem dL_steps_40 : decode cL_steps 40 = .ok (.aload_n 1, 1) := by decide +kernel
theorem dL_steps_41 : decode cL_steps 41 = .ok (.iload 4, 2) := by decide +kernel
theorem dL_steps_43 : decode cL_steps 43 = .ok (.invokestatic 83, 3) := by decide +kernel
theorem dL_steps_46 : decode cL_steps 46 = .ok (.isub, 1) := by decide +kernel
theorem dL_steps_47 : decode cL_steps 47 = .ok (.istore 6, 2) := by decide +kernel
theorem dL_steps_49 : decode cL_steps 49 = .ok (.aload_n 2, 1) := by decide +kernel
theorem dL_steps_50 : decode cL_steps 50 = .ok (.iload 4, 2) := by decide +kernel
theorem dL_steps_52 : decode cL_steps 52 = .ok (.dup2, 1) := by decide +kernel
theorem dL_steps_53 : decode cL_steps 53 = .ok (.iaload, 1) := by decide +kernel
theorem dL_steps_54 : decode cL_steps 54 = .ok (.iload 6, 2) := by decide +kernel
theorem dL_steps_56 : decode cL_steps 56 = .ok (.ifCond .lt 15, 3) := by decide +kernel
theorem dL_steps_59 : decode cL_steps 59 = .ok (.iload 6, 2) := by decide +kernel
theorem dL_steps_61 : decode cL_steps 61 = .ok (.ifCond .ne 14, 3) := by decide +kernel
theorem dL_steps_64 : decode cL_steps 64 = .ok (.iload 5, 2) := by decide +kernel
theorem dL_steps_66 : decode cL_steps 66 = .ok (.iload 4, 2) := by decide +kernel
theorem dL_steps_68 : decode cL_steps 68 = .ok (.if_icmp .ge 7, 3) := by decide +kernel
theorem dL_steps_71 : decode cL_steps 71 = .ok (.iconst 1, 1) := by decide +kernel
theorem dL_steps_72 : decode cL_steps 72 = .ok (.goto 4, 3) := by decide +kernel
theorem dL_steps_75 : decode cL_steps 75 = .ok (.iconst 0, 1) := by decide +kernel
theorem dL_steps_76 : decode cL_steps 76 = .ok (.iadd, 1) := by decide +kernel
theorem dL_steps_77 : decode cL_steps 77 = .ok (.iastore, 1) := by decide +kernel
theorem dL_steps_78 : decode cL_steps 78 = .ok (.iinc 5 1, 3) := by decide +kernel
theorem dL_steps_81 : decode cL_steps 81 = .ok (.goto (-55), 3) := by decide +kernel
theorem dL_steps_84 : decode cL_steps 84 = .ok (.iinc 4 1, 3) := by decide +kernel
theorem dL_steps_87 : decode cL_steps 87 = .ok (.goto (-75), 3) := by decide +kernel
theorem dL_steps_90 : decode cL_steps 90 = .ok (.return_, 1) := by decide +kernel
theorem dL_wanted_0 : decode cL_wanted 0 = .ok (.iload_n 2, 1) := by decide +kernel
theorem dL_wanted_1 : decode cL_wanted 1 = .ok (.aload_n 0, 1) := by decide +kernel
theorem dL_wanted_2 : decode cL_wanted 2 = .ok (.invokestatic 77, 3) := by decide +kernel
theorem dL_wanted_5 : decode cL_wanted 5 = .ok (.irem, 1) := by decide +kernel
theorem dL_wanted_6 : decode cL_wanted 6 = .ok (.istore_n 3, 1) := by decide +kernel
theorem dL_wanted_7 : decode cL_wanted 7 = .ok (.iload_n 3, 1) := by decide +kernel
theorem dL_wanted_8 : decode cL_wanted 8 = .ok (.aload_n 0, 1) := by decide +kernel
theorem dL_wanted_9 : decode cL_wanted 9 = .ok (.iconst 1, 1) := by decide +kernel
theorem dL_wanted_10 : decode cL_wanted 10 = .ok (.iaload, 1) := by decide +kernel
theorem dL_wanted_11 : decode cL_wanted 11 = .ok (.idiv, 1) := by decide +kernel
theorem dL_wanted_12 : decode cL_wanted 12 = .ok (.iload_n 1, 1) := by decide +kernel
theorem dL_wanted_13 : decode cL_wanted 13 = .ok (.sipush 128, 3) := by decide +kernel
theorem dL_wanted_16 : decode cL_wanted 16 = .ok (.idiv, 1) := by decide +kernel
theorem dL_wanted_17 : decode cL_wanted 17 = .ok (.bipush 8, 2) := by decide +kernel
theorem dL_wanted_19 : decode cL_wanted 19 = .ok (.irem, 1) := by decide +kernel
theorem dL_wanted_20 : decode cL_wanted 20 = .ok (.isub, 1) := by decide +kernel
theorem dL_wanted_21 : decode cL_wanted 21 = .ok (.istore 4, 2) := by decide +kernel
theorem dL_wanted_23 : decode cL_wanted 23 = .ok (.iload_n 3, 1) := by decide +kernel
theorem dL_wanted_24 : decode cL_wanted 24 = .ok (.aload_n 0, 1) := by decide +kernel
theorem dL_wanted_25 : decode cL_wanted 25 = .ok (.iconst 1, 1) := by decide +kernel
theorem dL_wanted_26 : decode cL_wanted 26 = .ok (.iaload, 1) := by decide +kernel
theorem dL_wanted_27 : decode cL_wanted 27 = .ok (.irem, 1) := by decide +kernel
theorem dL_wanted_28 : decode cL_wanted 28 = .ok (.iload_n 1, 1) := by decide +kernel
theorem dL_wanted_29 : decode cL_wanted 29 = .ok (.sipush 1024, 3) := by decide +kernel
theorem dL_wanted_32 : decode cL_wanted 32 = .ok (.idiv, 1) := by decide +kernel
theorem dL_wanted_33 : decode cL_wanted 33 = .ok (.iconst 3, 1) := by decide +kernel
theorem dL_wanted_34 : decode cL_wanted 34 = .ok (.isub, 1) := by decide +kernel
theorem dL_wanted_35 : decode cL_wanted 35 = .ok (.isub, 1) := by decide +kernel
theorem dL_wanted_36 : decode cL_wanted 36 = .ok (.istore 5, 2) := by decide +kernel
theorem dL_wanted_38 : decode cL_wanted 38 = .ok (.iload 4, 2) := by decide +kernel
theorem dL_wanted_40 : decode cL_wanted 40 = .ok (.ifCond .lt 16, 3) := by decide +kernel
theorem dL_wanted_43 : decode cL_wanted 43 = .ok (.iload 5, 2) := by decide +kernel
theorem dL_wanted_45 : decode cL_wanted 45 = .ok (.ifCond .lt 11, 3) := by decide +kernel
theorem dL_wanted_48 : decode cL_wanted 48 = .ok (.iload 5, 2) := by decide +kernel
theorem dL_wanted_50 : decode cL_wanted 50 = .ok (.aload_n 0, 1) := by decide +kernel
theorem dL_wanted_51 : decode cL_wanted 51 = .ok (.iconst 1, 1) := by decide +kernel
theorem dL_wanted_52 : decode cL_wanted 52 = .ok (.iaload, 1) := by decide +kernel
theorem dL_wanted_53 : decode cL_wanted 53 = .ok (.if_icmp .lt 7, 3) := by decide +kernel
theorem dL_wanted_56 : decode cL_wanted 56 = .ok (.iconst (-1), 1) := by decide +kernel
theorem dL_wanted_57 : decode cL_wanted 57 = .ok (.goto 22, 3) := by decide +kernel
theorem dL_wanted_60 : decode cL_wanted 60 = .ok (.iload_n 1, 1) := by decide +kernel
theorem dL_wanted_61 : decode cL_wanted 61 = .ok (.bipush 8, 2) := by decide +kernel
theorem dL_wanted_63 : decode cL_wanted 63 = .ok (.irem, 1) := by decide +kernel
theorem dL_wanted_64 : decode cL_wanted 64 = .ok (.aload_n 0, 1) := by decide +kernel
theorem dL_wanted_65 : decode cL_wanted 65 = .ok (.invokestatic 77, 3) := by decide +kernel
theorem dL_wanted_68 : decode cL_wanted 68 = .ok (.imul, 1) := by decide +kernel
theorem dL_wanted_69 : decode cL_wanted 69 = .ok (.iload 4, 2) := by decide +kernel
theorem dL_wanted_71 : decode cL_wanted 71 = .ok (.aload_n 0, 1) := by decide +kernel
theorem dL_wanted_72 : decode cL_wanted 72 = .ok (.iconst 1, 1) := by decide +kernel
theorem dL_wanted_73 : decode cL_wanted 73 = .ok (.iaload, 1) := by decide +kernel
theorem dL_wanted_74 : decode cL_wanted 74 = .ok (.imul, 1) := by decide +kernel
theorem dL_wanted_75 : decode cL_wanted 75 = .ok (.iadd, 1) := by decide +kernel
theorem dL_wanted_76 : decode cL_wanted 76 = .ok (.iload 5, 2) := by decide +kernel
theorem dL_wanted_78 : decode cL_wanted 78 = .ok (.iadd, 1) := by decide +kernel
theorem dL_wanted_79 : decode cL_wanted 79 = .ok (.ireturn, 1) := by decide +kernel
theorem dL_isInOrder_0 : decode cL_isInOrder 0 = .ok (.iconst 1, 1) := by decide +kernel
theorem dL_isInOrder_1 : decode cL_isInOrder 1 = .ok (.istore 5, 2) := by decide +kernel
theorem dL_isInOrder_3 : decode cL_isInOrder 3 = .ok (.iconst 0, 1) := by decide +kernel
theorem dL_isInOrder_4 : decode cL_isInOrder 4 = .ok (.istore 6, 2) := by decide +kernel
theorem dL_isInOrder_6 : decode cL_isInOrder 6 = .ok (.iload 6, 2) := by decide +kernel
theorem dL_isInOrder_8 : decode cL_isInOrder 8 = .ok (.aload_n 0, 1) := by decide +kernel
theorem dL_isInOrder_9 : decode cL_isInOrder 9 = .ok (.invokestatic 77, 3) := by decide +kernel
theorem dL_isInOrder_12 : decode cL_isInOrder 12 = .ok (.if_icmp .ge 64, 3) := by decide +kernel
theorem dL_isInOrder_15 : decode cL_isInOrder 15 = .ok (.iload_n 3, 1) := by decide +kernel
theorem dL_isInOrder_16 : decode cL_isInOrder 16 = .ok (.aload_n 0, 1) := by decide +kernel
theorem dL_isInOrder_17 : decode cL_isInOrder 17 = .ok (.invokestatic 77, 3) := by decide +kernel
theorem dL_isInOrder_20 : decode cL_isInOrder 20 = .ok (.imul, 1) := by decide +kernel
theorem dL_isInOrder_21 : decode cL_isInOrder 21 = .ok (.iload 6, 2) := by decide +kernel
theorem dL_isInOrder_23 : decode cL_isInOrder 23 = .ok (.iadd, 1) := by decide +kernel
theorem dL_isInOrder_24 : decode cL_isInOrder 24 = .ok (.istore 7, 2) := by decide +kernel
theorem dL_isInOrder_26 : decode cL_isInOrder 26 = .ok (.aload_n 0, 1) := by decide +kernel
theorem dL_isInOrder_27 : decode cL_isInOrder 27 = .ok (.aload_n 1, 1) := by decide +kernel
theorem dL_isInOrder_28 : decode cL_isInOrder 28 = .ok (.iconst 4, 1) := by decide +kernel
theorem dL_isInOrder_29 : decode cL_isInOrder 29 = .ok (.iload_n 3, 1) := by decide +kernel
theorem dL_isInOrder_30 : decode cL_isInOrder 30 = .ok (.imul, 1) := by decide +kernel
theorem dL_isInOrder_31 : decode cL_isInOrder 31 = .ok (.iload 4, 2) := by decide +kernel
theorem dL_isInOrder_33 : decode cL_isInOrder 33 = .ok (.iadd, 1) := by decide +kernel
theorem dL_isInOrder_34 : decode cL_isInOrder 34 = .ok (.iaload, 1) := by decide +kernel
theorem dL_isInOrder_35 : decode cL_isInOrder 35 = .ok (.iload 7, 2) := by decide +kernel
theorem dL_isInOrder_37 : decode cL_isInOrder 37 = .ok (.invokestatic 87, 3) := by decide +kernel
theorem dL_isInOrder_40 : decode cL_isInOrder 40 = .ok (.istore 8, 2) := by decide +kernel
theorem dL_isInOrder_42 : decode cL_isInOrder 42 = .ok (.iload 5, 2) := by decide +kernel
theorem dL_isInOrder_44 : decode cL_isInOrder 44 = .ok (.ifCond .eq 23, 3) := by decide +kernel
theorem dL_isInOrder_47 : decode cL_isInOrder 47 = .ok (.iload 8, 2) := by decide +kernel
theorem dL_isInOrder_49 : decode cL_isInOrder 49 = .ok (.ifCond .lt 14, 3) := by decide +kernel
theorem dL_isInOrder_52 : decode cL_isInOrder 52 = .ok (.aload_n 2, 1) := by decide +kernel
theorem dL_isInOrder_53 : decode cL_isInOrder 53 = .ok (.iload 8, 2) := by decide +kernel
theorem dL_isInOrder_55 : decode cL_isInOrder 55 = .ok (.iaload, 1) := by decide +kernel
theorem dL_isInOrder_56 : decode cL_isInOrder 56 = .ok (.aload_n 2, 1) := by decide +kernel
theorem dL_isInOrder_57 : decode cL_isInOrder 57 = .ok (.iload 7, 2) := by decide +kernel
theorem dL_isInOrder_59 : decode cL_isInOrder 59 = .ok (.iaload, 1) := by decide +kernel
theorem dL_isInOrder_60 : decode cL_isInOrder 60 = .ok (.if_icmp .ge 7, 3) := by decide +kernel
theorem dL_isInOrder_63 : decode cL_isInOrder 63 = .ok (.iconst 1, 1) := by decide +kernel
theorem dL_isInOrder_64 : decode cL_isInOrder 64 = .ok (.goto 4, 3) := by decide +kernel
theorem dL_isInOrder_67 : decode cL_isInOrder 67 = .ok (.iconst 0, 1) := by decide +kernel
theorem dL_isInOrder_68 : decode cL_isInOrder 68 = .ok (.istore 5, 2) := by decide +kernel
theorem dL_isInOrder_70 : decode cL_isInOrder 70 = .ok (.iinc 6 1, 3) := by decide +kernel
theorem dL_isInOrder_73 : decode cL_isInOrder 73 = .ok (.goto (-67), 3) := by decide +kernel
theorem dL_isInOrder_76 : decode cL_isInOrder 76 = .ok (.iload 5, 2) := by decide +kernel
theorem dL_isInOrder_78 : decode cL_isInOrder 78 = .ok (.ireturn, 1) := by decide +kernel
theorem dL_isAllowed_0 : decode cL_isAllowed 0 = .ok (.iconst 1, 1) := by decide +kernel
theorem dL_isAllowed_1 : decode cL_isAllowed 1 = .ok (.istore 4, 2) := by decide +kernel
theorem dL_isAllowed_3 : decode cL_isAllowed 3 = .ok (.iconst 0, 1) := by decide +kernel
theorem dL_isAllowed_4 : decode cL_isAllowed 4 = .ok (.istore 5, 2) := by decide +kernel
theorem dL_isAllowed_6 : decode cL_isAllowed 6 = .ok (.iload 5, 2) := by decide +kernel
theorem dL_isAllowed_8 : decode cL_isAllowed 8 = .ok (.aload_n 0, 1) := by decide +kernel
theorem dL_isAllowed_9 : decode cL_isAllowed 9 = .ok (.iconst 2, 1) := by decide +kernel
theorem dL_isAllowed_10 : decode cL_isAllowed 10 = .ok (.iaload, 1) := by decide +kernel
theorem dL_isAllowed_11 : decode cL_isAllowed 11 = .ok (.if_icmp .ge 54, 3) := by decide +kernel
theorem dL_isAllowed_14 : decode cL_isAllowed 14 = .ok (.iconst 0, 1) := by decide +kernel
theorem dL_isAllowed_15 : decode cL_isAllowed 15 = .ok (.istore 6, 2) := by decide +kernel
theorem dL_isAllowed_17 : decode cL_isAllowed 17 = .ok (.iload 6, 2) := by decide +kernel
theorem dL_isAllowed_19 : decode cL_isAllowed 19 = .ok (.aload_n 1, 1) := by decide +kernel
theorem dL_isAllowed_20 : decode cL_isAllowed 20 = .ok (.iconst 4, 1) := by decide +kernel
theorem dL_isAllowed_21 : decode cL_isAllowed 21 = .ok (.iload 5, 2) := by decide +kernel
theorem dL_isAllowed_23 : decode cL_isAllowed 23 = .ok (.iadd, 1) := by decide +kernel
theorem dL_isAllowed_24 : decode cL_isAllowed 24 = .ok (.iaload, 1) := by decide +kernel
theorem dL_isAllowed_25 : decode cL_isAllowed 25 = .ok (.if_icmp .ge 34, 3) := by decide +kernel
theorem dL_isAllowed_28 : decode cL_isAllowed 28 = .ok (.iload 4, 2) := by decide +kernel
theorem dL_isAllowed_30 : decode cL_isAllowed 30 = .ok (.ifCond .eq 20, 3) := by decide +kernel
theorem dL_isAllowed_33 : decode cL_isAllowed 33 = .ok (.aload_n 0, 1) := by decide +kernel
theorem dL_isAllowed_34 : decode cL_isAllowed 34 = .ok (.aload_n 2, 1) := by decide +kernel
theorem dL_isAllowed_35 : decode cL_isAllowed 35 = .ok (.aload_n 3, 1) := by decide +kernel
theorem dL_isAllowed_36 : decode cL_isAllowed 36 = .ok (.iload 5, 2) := by decide +kernel
theorem dL_isAllowed_38 : decode cL_isAllowed 38 = .ok (.iload 6, 2) := by decide +kernel
theorem dL_isAllowed_40 : decode cL_isAllowed 40 = .ok (.invokestatic 91, 3) := by decide +kernel
theorem dL_isAllowed_43 : decode cL_isAllowed 43 = .ok (.ifCond .eq 7, 3) := by decide +kernel
theorem dL_isAllowed_46 : decode cL_isAllowed 46 = .ok (.iconst 1, 1) := by decide +kernel
theorem dL_isAllowed_47 : decode cL_isAllowed 47 = .ok (.goto 4, 3) := by decide +kernel
theorem dL_isAllowed_50 : decode cL_isAllowed 50 = .ok (.iconst 0, 1) := by decide +kernel
theorem dL_isAllowed_51 : decode cL_isAllowed 51 = .ok (.istore 4, 2) := by decide +kernel
theorem dL_isAllowed_53 : decode cL_isAllowed 53 = .ok (.iinc 6 1, 3) := by decide +kernel
theorem dL_isAllowed_56 : decode cL_isAllowed 56 = .ok (.goto (-39), 3) := by decide +kernel
theorem dL_isAllowed_59 : decode cL_isAllowed 59 = .ok (.iinc 5 1, 3) := by decide +kernel
theorem dL_isAllowed_62 : decode cL_isAllowed 62 = .ok (.goto (-56), 3) := by decide +kernel
theorem dL_isAllowed_65 : decode cL_isAllowed 65 = .ok (.iload 4, 2) := by decide +kernel
theorem dL_isAllowed_67 : decode cL_isAllowed 67 = .ok (.ireturn, 1) := by decide +kernel
theorem dL_ends_0 : decode cL_ends 0 = .ok (.aload_n 0, 1) := by decide +kernel
theorem dL_ends_1 : decode cL_ends 1 = .ok (.iconst 2, 1) := by decide +kernel
theorem dL_ends_2 : decode cL_ends 2 = .ok (.iaload, 1) := by decide +kernel
theorem dL_ends_3 : decode cL_ends 3 = .ok (.aload_n 0, 1) := by decide +kernel
theorem dL_ends_4 : decode cL_ends 4 = .ok (.invokestatic 77, 3) := by decide +kernel
theorem dL_ends_7 : decode cL_ends 7 = .ok (.imul, 1) := by decide +kernel
theorem dL_ends_8 : decode cL_ends 8 = .ok (.istore 5, 2) := by decide +kernel
theorem dL_ends_10 : decode cL_ends 10 = .ok (.iconst 0, 1) := by decide +kernel
theorem dL_ends_11 : decode cL_ends 11 = .ok (.istore 6, 2) := by decide +kernel
theorem dL_ends_13 : decode cL_ends 13 = .ok (.iload 6, 2) := by decide +kernel
theorem dL_ends_15 : decode cL_ends 15 = .ok (.iload 5, 2) := by decide +kernel
theorem dL_ends_17 : decode cL_ends 17 = .ok (.if_icmp .ge 39, 3) := by decide +kernel
theorem dL_ends_20 : decode cL_ends 20 = .ok (.aload 4, 2) := by decide +kernel
theorem dL_ends_22 : decode cL_ends 22 = .ok (.iload 6, 2) := by decide +kernel
theorem dL_ends_24 : decode cL_ends 24 = .ok (.aload_n 1, 1) := by decide +kernel
theorem dL_ends_25 : decode cL_ends 25 = .ok (.bipush 8, 2) := by decide +kernel
theorem dL_ends_27 : decode cL_ends 27 = .ok (.iload 6, 2) := by decide +kernel
theorem dL_ends_29 : decode cL_ends 29 = .ok (.aload_n 0, 1) := by decide +kernel
theorem dL_ends_30 : decode cL_ends 30 = .ok (.invokestatic 77, 3) := by decide +kernel
theorem dL_ends_33 : decode cL_ends 33 = .ok (.idiv, 1) := by decide +kernel
theorem dL_ends_34 : decode cL_ends 34 = .ok (.iadd, 1) := by decide +kernel
theorem dL_ends_35 : decode cL_ends 35 = .ok (.iaload, 1) := by decide +kernel
theorem dL_ends_36 : decode cL_ends 36 = .ok (.iconst 1, 1) := by decide +kernel
theorem dL_ends_37 : decode cL_ends 37 = .ok (.if_icmp .ne 8, 3) := by decide +kernel
theorem dL_ends_40 : decode cL_ends 40 = .ok (.iload 5, 2) := by decide +kernel
theorem dL_ends_42 : decode cL_ends 42 = .ok (.goto 7, 3) := by decide +kernel
theorem dL_ends_45 : decode cL_ends 45 = .ok (.aload_n 3, 1) := by decide +kernel
theorem dL_ends_46 : decode cL_ends 46 = .ok (.iload 6, 2) := by decide +kernel
theorem dL_ends_48 : decode cL_ends 48 = .ok (.iaload, 1) := by decide +kernel
theorem dL_ends_49 : decode cL_ends 49 = .ok (.iastore, 1) := by decide +kernel
theorem dL_ends_50 : decode cL_ends 50 = .ok (.iinc 6 1, 3) := by decide +kernel
theorem dL_ends_53 : decode cL_ends 53 = .ok (.goto (-40), 3) := by decide +kernel
theorem dL_ends_56 : decode cL_ends 56 = .ok (.iconst 0, 1) := by decide +kernel
theorem dL_ends_57 : decode cL_ends 57 = .ok (.istore 6, 2) := by decide +kernel
theorem dL_ends_59 : decode cL_ends 59 = .ok (.iload 6, 2) := by decide +kernel
theorem dL_ends_61 : decode cL_ends 61 = .ok (.iload 5, 2) := by decide +kernel
theorem dL_ends_63 : decode cL_ends 63 = .ok (.if_icmp .ge 92, 3) := by decide +kernel
theorem dL_ends_66 : decode cL_ends 66 = .ok (.iload 6, 2) := by decide +kernel
theorem dL_ends_68 : decode cL_ends 68 = .ok (.aload_n 0, 1) := by decide +kernel
theorem dL_ends_69 : decode cL_ends 69 = .ok (.invokestatic 77, 3) := by decide +kernel
theorem dL_ends_72 : decode cL_ends 72 = .ok (.idiv, 1) := by decide +kernel
theorem dL_ends_73 : decode cL_ends 73 = .ok (.istore 7, 2) := by decide +kernel
theorem dL_ends_75 : decode cL_ends 75 = .ok (.iconst 0, 1) := by decide +kernel
theorem dL_ends_76 : decode cL_ends 76 = .ok (.istore 8, 2) := by decide +kernel
theorem dL_ends_78 : decode cL_ends 78 = .ok (.iload 8, 2) := by decide +kernel
theorem dL_ends_80 : decode cL_ends 80 = .ok (.aload_n 1, 1) := by decide +kernel
theorem dL_ends_81 : decode cL_ends 81 = .ok (.iconst 4, 1) := by decide +kernel
theorem dL_ends_82 : decode cL_ends 82 = .ok (.iload 7, 2) := by decide +kernel
theorem dL_ends_84 : decode cL_ends 84 = .ok (.iadd, 1) := by decide +kernel
theorem dL_ends_85 : decode cL_ends 85 = .ok (.iaload, 1) := by decide +kernel
theorem dL_ends_86 : decode cL_ends 86 = .ok (.if_icmp .ge 63, 3) := by decide +kernel
theorem dL_ends_89 : decode cL_ends 89 = .ok (.aload_n 0, 1) := by decide +kernel
theorem dL_ends_90 : decode cL_ends 90 = .ok (.aload_n 2, 1) := by decide +kernel
theorem dL_ends_91 : decode cL_ends 91 = .ok (.iconst 4, 1) := by decide +kernel
theorem dL_ends_92 : decode cL_ends 92 = .ok (.iload 7, 2) := by decide +kernel
theorem dL_ends_94 : decode cL_ends 94 = .ok (.imul, 1) := by decide +kernel
theorem dL_ends_95 : decode cL_ends 95 = .ok (.iload 8, 2) := by decide +kernel
theorem dL_ends_97 : decode cL_ends 97 = .ok (.iadd, 1) := by decide +kernel
theorem dL_ends_98 : decode cL_ends 98 = .ok (.iaload, 1) := by decide +kernel
theorem dL_ends_99 : decode cL_ends 99 = .ok (.iload 6, 2) := by decide +kernel
theorem dL_ends_101 : decode cL_ends 101 = .ok (.invokestatic 87, 3) := by decide +kernel
theorem dL_ends_104 : decode cL_ends 104 = .ok (.istore 9, 2) := by decide +kernel
theorem dL_ends_106 : decode cL_ends 106 = .ok (.iload 9, 2) := by decide +kernel
theorem dL_ends_108 : decode cL_ends 108 = .ok (.ifCond .lt 35, 3) := by decide +kernel
theorem dL_ends_111 : decode cL_ends 111 = .ok (.aload_n 3, 1) := by decide +kernel
theorem dL_ends_112 : decode cL_ends 112 = .ok (.iload 6, 2) := by decide +kernel
theorem dL_ends_114 : decode cL_ends 114 = .ok (.iaload, 1) := by decide +kernel
theorem dL_ends_115 : decode cL_ends 115 = .ok (.aload_n 3, 1) := by decide +kernel
theorem dL_ends_116 : decode cL_ends 116 = .ok (.iload 9, 2) := by decide +kernel
theorem dL_ends_118 : decode cL_ends 118 = .ok (.iaload, 1) := by decide +kernel
theorem dL_ends_119 : decode cL_ends 119 = .ok (.if_icmp .le 24, 3) := by decide +kernel
theorem dL_ends_122 : decode cL_ends 122 = .ok (.aload_n 3, 1) := by decide +kernel
theorem dL_ends_123 : decode cL_ends 123 = .ok (.iload 6, 2) := by decide +kernel
theorem dL_ends_125 : decode cL_ends 125 = .ok (.iaload, 1) := by decide +kernel
theorem dL_ends_126 : decode cL_ends 126 = .ok (.aload 4, 2) := by decide +kernel
theorem dL_ends_128 : decode cL_ends 128 = .ok (.iload 9, 2) := by decide +kernel
theorem dL_ends_130 : decode cL_ends 130 = .ok (.iaload, 1) := by decide +kernel
theorem dL_ends_131 : decode cL_ends 131 = .ok (.if_icmp .le 12, 3) := by decide +kernel
theorem dL_ends_134 : decode cL_ends 134 = .ok (.aload 4, 2) := by decide +kernel
theorem dL_ends_136 : decode cL_ends 136 = .ok (.iload 9, 2) := by decide +kernel
theorem dL_ends_138 : decode cL_ends 138 = .ok (.aload_n 3, 1) := by decide +kernel
theorem dL_ends_139 : decode cL_ends 139 = .ok (.iload 6, 2) := by decide +kernel
theorem dL_ends_141 : decode cL_ends 141 = .ok (.iaload, 1) := by decide +kernel
theorem dL_ends_142 : decode cL_ends 142 = .ok (.iastore, 1) := by decide +kernel
theorem dL_ends_143 : decode cL_ends 143 = .ok (.iinc 8 1, 3) := by decide +kernel
theorem dL_ends_146 : decode cL_ends 146 = .ok (.goto (-68), 3) := by decide +kernel
theorem dL_ends_149 : decode cL_ends 149 = .ok (.iinc 6 1, 3) := by decide +kernel
theorem dL_ends_152 : decode cL_ends 152 = .ok (.goto (-93), 3) := by decide +kernel
theorem dL_ends_155 : decode cL_ends 155 = .ok (.return_, 1) := by decide +kernel
theorem dL_inConflict_0 : decode cL_inConflict 0 = .ok (.aload_n 0, 1) := by decide +kernel
theorem dL_inConflict_1 : decode cL_inConflict 1 = .ok (.iload_n 2, 1) := by decide +kernel
theorem dL_inConflict_2 : decode cL_inConflict 2 = .ok (.iaload, 1) := by decide +kernel
theorem dL_inConflict_3 : decode cL_inConflict 3 = .ok (.aload_n 0, 1) := by decide +kernel
theorem dL_inConflict_4 : decode cL_inConflict 4 = .ok (.iload_n 3, 1) := by decide +kernel
theorem dL_inConflict_5 : decode cL_inConflict 5 = .ok (.iaload, 1) := by decide +kernel
theorem dL_inConflict_6 : decode cL_inConflict 6 = .ok (.if_icmp .ge 7, 3) := by decide +kernel
theorem dL_inConflict_9 : decode cL_inConflict 9 = .ok (.iload_n 2, 1) := by decide +kernel
theorem dL_inConflict_10 : decode cL_inConflict 10 = .ok (.goto 4, 3) := by decide +kernel
theorem dL_inConflict_13 : decode cL_inConflict 13 = .ok (.iload_n 3, 1) := by decide +kernel
theorem dL_inConflict_14 : decode cL_inConflict 14 = .ok (.istore 4, 2) := by decide +kernel
theorem dL_inConflict_16 : decode cL_inConflict 16 = .ok (.iload 4, 2) := by decide +kernel
theorem dL_inConflict_18 : decode cL_inConflict 18 = .ok (.iload_n 2, 1) := by decide +kernel
theorem dL_inConflict_19 : decode cL_inConflict 19 = .ok (.if_icmp .ne 7, 3) := by decide +kernel
theorem dL_inConflict_22 : decode cL_inConflict 22 = .ok (.iload_n 3, 1) := by decide +kernel
theorem dL_inConflict_23 : decode cL_inConflict 23 = .ok (.goto 4, 3) := by decide +kernel
theorem dL_inConflict_26 : decode cL_inConflict 26 = .ok (.iload_n 2, 1) := by decide +kernel
theorem dL_inConflict_27 : decode cL_inConflict 27 = .ok (.istore 5, 2) := by decide +kernel
theorem dL_inConflict_29 : decode cL_inConflict 29 = .ok (.aload_n 0, 1) := by decide +kernel
theorem dL_inConflict_30 : decode cL_inConflict 30 = .ok (.iload 4, 2) := by decide +kernel
theorem dL_inConflict_32 : decode cL_inConflict 32 = .ok (.iaload, 1) := by decide +kernel
theorem dL_inConflict_33 : decode cL_inConflict 33 = .ok (.aload_n 0, 1) := by decide +kernel
theorem dL_inConflict_34 : decode cL_inConflict 34 = .ok (.iload 5, 2) := by decide +kernel
theorem dL_inConflict_36 : decode cL_inConflict 36 = .ok (.iaload, 1) := by decide +kernel
theorem dL_inConflict_37 : decode cL_inConflict 37 = .ok (.if_icmp .ge 18, 3) := by decide +kernel
theorem dL_inConflict_40 : decode cL_inConflict 40 = .ok (.aload_n 0, 1) := by decide +kernel
theorem dL_inConflict_41 : decode cL_inConflict 41 = .ok (.iload 5, 2) := by decide +kernel
theorem dL_inConflict_43 : decode cL_inConflict 43 = .ok (.iaload, 1) := by decide +kernel
theorem dL_inConflict_44 : decode cL_inConflict 44 = .ok (.aload_n 1, 1) := by decide +kernel
theorem dL_inConflict_45 : decode cL_inConflict 45 = .ok (.iload 4, 2) := by decide +kernel
theorem dL_inConflict_47 : decode cL_inConflict 47 = .ok (.iaload, 1) := by decide +kernel
theorem dL_inConflict_48 : decode cL_inConflict 48 = .ok (.if_icmp .ge 7, 3) := by decide +kernel
theorem dL_inConflict_51 : decode cL_inConflict 51 = .ok (.iconst 1, 1) := by decide +kernel
theorem dL_inConflict_52 : decode cL_inConflict 52 = .ok (.goto 4, 3) := by decide +kernel
theorem dL_inConflict_55 : decode cL_inConflict 55 = .ok (.iconst 0, 1) := by decide +kernel
theorem dL_inConflict_56 : decode cL_inConflict 56 = .ok (.ireturn, 1) := by decide +kernel
theorem dL_place_0 : decode cL_place 0 = .ok (.iload 4, 2) := by decide +kernel
theorem dL_place_2 : decode cL_place 2 = .ok (.aload_n 0, 1) := by decide +kernel
theorem dL_place_3 : decode cL_place 3 = .ok (.invokestatic 77, 3) := by decide +kernel
theorem dL_place_6 : decode cL_place 6 = .ok (.irem, 1) := by decide +kernel
theorem dL_place_7 : decode cL_place 7 = .ok (.istore 5, 2) := by decide +kernel
theorem dL_place_9 : decode cL_place 9 = .ok (.iload 5, 2) := by decide +kernel
theorem dL_place_11 : decode cL_place 11 = .ok (.aload_n 0, 1) := by decide +kernel
theorem dL_place_12 : decode cL_place 12 = .ok (.iconst 1, 1) := by decide +kernel
theorem dL_place_13 : decode cL_place 13 = .ok (.iaload, 1) := by decide +kernel
theorem dL_place_14 : decode cL_place 14 = .ok (.idiv, 1) := by decide +kernel
theorem dL_place_15 : decode cL_place 15 = .ok (.istore 6, 2) := by decide +kernel
theorem dL_place_17 : decode cL_place 17 = .ok (.iload 5, 2) := by decide +kernel
theorem dL_place_19 : decode cL_place 19 = .ok (.aload_n 0, 1) := by decide +kernel
theorem dL_place_20 : decode cL_place 20 = .ok (.iconst 1, 1) := by decide +kernel
theorem dL_place_21 : decode cL_place 21 = .ok (.iaload, 1) := by decide +kernel
theorem dL_place_22 : decode cL_place 22 = .ok (.irem, 1) := by decide +kernel
theorem dL_place_23 : decode cL_place 23 = .ok (.istore 7, 2) := by decide +kernel
theorem dL_place_25 : decode cL_place 25 = .ok (.iload_n 1, 1) := by decide +kernel
theorem dL_place_26 : decode cL_place 26 = .ok (.ifCond .ne 8, 3) := by decide +kernel
theorem dL_place_29 : decode cL_place 29 = .ok (.iload 5, 2) := by decide +kernel
theorem dL_place_31 : decode cL_place 31 = .ok (.goto 43, 3) := by decide +kernel
theorem dL_place_34 : decode cL_place 34 = .ok (.iload_n 1, 1) := by decide +kernel
theorem dL_place_35 : decode cL_place 35 = .ok (.iconst 1, 1) := by decide +kernel
theorem dL_place_36 : decode cL_place 36 = .ok (.if_icmp .ne 10, 3) := by decide +kernel
theorem dL_place_39 : decode cL_place 39 = .ok (.iload 5, 2) := by decide +kernel
theorem dL_place_41 : decode cL_place 41 = .ok (.iload_n 2, 1) := by decide +kernel
theorem dL_place_42 : decode cL_place 42 = .ok (.irem, 1) := by decide +kernel
theorem dL_place_43 : decode cL_place 43 = .ok (.goto 31, 3) := by decide +kernel
theorem dL_place_46 : decode cL_place 46 = .ok (.iload_n 1, 1) := by decide +kernel
theorem dL_place_47 : decode cL_place 47 = .ok (.iconst 2, 1) := by decide +kernel
theorem dL_place_48 : decode cL_place 48 = .ok (.if_icmp .ne 17, 3) := by decide +kernel
theorem dL_place_51 : decode cL_place 51 = .ok (.iload 6, 2) := by decide +kernel
theorem dL_place_53 : decode cL_place 53 = .ok (.iload_n 2, 1) := by decide +kernel
theorem dL_place_54 : decode cL_place 54 = .ok (.irem, 1) := by decide +kernel
theorem dL_place_55 : decode cL_place 55 = .ok (.iload_n 3, 1) := by decide +kernel
theorem dL_place_56 : decode cL_place 56 = .ok (.imul, 1) := by decide +kernel
theorem dL_place_57 : decode cL_place 57 = .ok (.iload 7, 2) := by decide +kernel
theorem dL_place_59 : decode cL_place 59 = .ok (.iload_n 3, 1) := by decide +kernel
theorem dL_place_60 : decode cL_place 60 = .ok (.irem, 1) := by decide +kernel
theorem dL_place_61 : decode cL_place 61 = .ok (.iadd, 1) := by decide +kernel
theorem dL_place_62 : decode cL_place 62 = .ok (.goto 12, 3) := by decide +kernel
theorem dL_place_65 : decode cL_place 65 = .ok (.iload 6, 2) := by decide +kernel
theorem dL_place_67 : decode cL_place 67 = .ok (.iload 7, 2) := by decide +kernel
theorem dL_place_69 : decode cL_place 69 = .ok (.iload_n 2, 1) := by decide +kernel
theorem dL_place_70 : decode cL_place 70 = .ok (.imul, 1) := by decide +kernel
theorem dL_place_71 : decode cL_place 71 = .ok (.iadd, 1) := by decide +kernel
theorem dL_place_72 : decode cL_place 72 = .ok (.iload_n 3, 1) := by decide +kernel
theorem dL_place_73 : decode cL_place 73 = .ok (.irem, 1) := by decide +kernel
theorem dL_place_74 : decode cL_place 74 = .ok (.ireturn, 1) := by decide +kernel
theorem dL_isRight_0 : decode cL_isRight 0 = .ok (.aload_n 0, 1) := by decide +kernel
theorem dL_isRight_1 : decode cL_isRight 1 = .ok (.invokestatic 77, 3) := by decide +kernel
theorem dL_isRight_4 : decode cL_isRight 4 = .ok (.istore 8, 2) := by decide +kernel
theorem dL_isRight_6 : decode cL_isRight 6 = .ok (.iconst 0, 1) := by decide +kernel
theorem dL_isRight_7 : decode cL_isRight 7 = .ok (.istore 9, 2) := by decide +kernel
theorem dL_isRight_9 : decode cL_isRight 9 = .ok (.iload 9, 2) := by decide +kernel
theorem dL_isRight_11 : decode cL_isRight 11 = .ok (.iload 8, 2) := by decide +kernel
theorem dL_isRight_13 : decode cL_isRight 13 = .ok (.if_icmp .ge 100, 3) := by decide +kernel
theorem dL_isRight_16 : decode cL_isRight 16 = .ok (.iconst 0, 1) := by decide +kernel
theorem dL_isRight_17 : decode cL_isRight 17 = .ok (.istore 10, 2) := by decide +kernel
theorem dL_isRight_19 : decode cL_isRight 19 = .ok (.iload 10, 2) := by decide +kernel
theorem dL_isRight_21 : decode cL_isRight 21 = .ok (.iload 8, 2) := by decide +kernel
theorem dL_isRight_23 : decode cL_isRight 23 = .ok (.if_icmp .ge 84, 3) := by decide +kernel
theorem dL_isRight_26 : decode cL_isRight 26 = .ok (.aload_n 0, 1) := by decide +kernel
theorem dL_isRight_27 : decode cL_isRight 27 = .ok (.iload 5, 2) := by decide +kernel
theorem dL_isRight_29 : decode cL_isRight 29 = .ok (.iload 6, 2) := by decide +kernel
theorem dL_isRight_31 : decode cL_isRight 31 = .ok (.iload 7, 2) := by decide +kernel
theorem dL_isRight_33 : decode cL_isRight 33 = .ok (.iload_n 3, 1) := by decide +kernel
theorem dL_isRight_34 : decode cL_isRight 34 = .ok (.iload 8, 2) := by decide +kernel
theorem dL_isRight_36 : decode cL_isRight 36 = .ok (.imul, 1) := by decide +kernel
theorem dL_isRight_37 : decode cL_isRight 37 = .ok (.iload 9, 2) := by decide +kernel
theorem dL_isRight_39 : decode cL_isRight 39 = .ok (.iadd, 1) := by decide +kernel
theorem dL_isRight_40 : decode cL_isRight 40 = .ok (.invokestatic 95, 3) := by decide +kernel
theorem dL_isRight_43 : decode cL_isRight 43 = .ok (.aload_n 0, 1) := by decide +kernel
theorem dL_isRight_44 : decode cL_isRight 44 = .ok (.iload 5, 2) := by decide +kernel
theorem dL_isRight_46 : decode cL_isRight 46 = .ok (.iload 6, 2) := by decide +kernel
theorem dL_isRight_48 : decode cL_isRight 48 = .ok (.iload 7, 2) := by decide +kernel
theorem dL_isRight_50 : decode cL_isRight 50 = .ok (.iload 4, 2) := by decide +kernel
theorem dL_isRight_52 : decode cL_isRight 52 = .ok (.iload 8, 2) := by decide +kernel
theorem dL_isRight_54 : decode cL_isRight 54 = .ok (.imul, 1) := by decide +kernel
theorem dL_isRight_55 : decode cL_isRight 55 = .ok (.iload 10, 2) := by decide +kernel
theorem dL_isRight_57 : decode cL_isRight 57 = .ok (.iadd, 1) := by decide +kernel
theorem dL_isRight_58 : decode cL_isRight 58 = .ok (.invokestatic 95, 3) := by decide +kernel
theorem dL_isRight_61 : decode cL_isRight 61 = .ok (.if_icmp .ne 7, 3) := by decide +kernel
theorem dL_isRight_64 : decode cL_isRight 64 = .ok (.iconst 1, 1) := by decide +kernel
theorem dL_isRight_65 : decode cL_isRight 65 = .ok (.goto 4, 3) := by decide +kernel
theorem dL_isRight_68 : decode cL_isRight 68 = .ok (.iconst 0, 1) := by decide +kernel
theorem dL_isRight_69 : decode cL_isRight 69 = .ok (.istore 11, 2) := by decide +kernel
theorem dL_isRight_71 : decode cL_isRight 71 = .ok (.iload 11, 2) := by decide +kernel
theorem dL_isRight_73 : decode cL_isRight 73 = .ok (.ifCond .eq 28, 3) := by decide +kernel
theorem dL_isRight_76 : decode cL_isRight 76 = .ok (.aload_n 1, 1) := by decide +kernel
theorem dL_isRight_77 : decode cL_isRight 77 = .ok (.aload_n 2, 1) := by decide +kernel
theorem dL_isRight_78 : decode cL_isRight 78 = .ok (.iload_n 3, 1) := by decide +kernel
theorem dL_isRight_79 : decode cL_isRight 79 = .ok (.iload 8, 2) := by decide +kernel
theorem dL_isRight_81 : decode cL_isRight 81 = .ok (.imul, 1) := by decide +kernel
theorem dL_isRight_82 : decode cL_isRight 82 = .ok (.iload 9, 2) := by decide +kernel
theorem dL_isRight_84 : decode cL_isRight 84 = .ok (.iadd, 1) := by decide +kernel
theorem dL_isRight_85 : decode cL_isRight 85 = .ok (.iload 4, 2) := by decide +kernel
theorem dL_isRight_87 : decode cL_isRight 87 = .ok (.iload 8, 2) := by decide +kernel
theorem dL_isRight_89 : decode cL_isRight 89 = .ok (.imul, 1) := by decide +kernel
theorem dL_isRight_90 : decode cL_isRight 90 = .ok (.iload 10, 2) := by decide +kernel
theorem dL_isRight_92 : decode cL_isRight 92 = .ok (.iadd, 1) := by decide +kernel
theorem dL_isRight_93 : decode cL_isRight 93 = .ok (.invokestatic 99, 3) := by decide +kernel
theorem dL_isRight_96 : decode cL_isRight 96 = .ok (.ifCond .eq 5, 3) := by decide +kernel
theorem dL_isRight_99 : decode cL_isRight 99 = .ok (.iconst 0, 1) := by decide +kernel
theorem dL_isRight_100 : decode cL_isRight 100 = .ok (.ireturn, 1) := by decide +kernel
theorem dL_isRight_101 : decode cL_isRight 101 = .ok (.iinc 10 1, 3) := by decide +kernel
theorem dL_isRight_104 : decode cL_isRight 104 = .ok (.goto (-85), 3) := by decide +kernel
theorem dL_isRight_107 : decode cL_isRight 107 = .ok (.iinc 9 1, 3) := by decide +kernel
theorem dL_isRight_110 : decode cL_isRight 110 = .ok (.goto (-101), 3) := by decide +kernel
theorem dL_isRight_113 : decode cL_isRight 113 = .ok (.iconst 1, 1) := by decide +kernel
theorem dL_isRight_114 : decode cL_isRight 114 = .ok (.ireturn, 1) := by decide +kernel
theorem dL_rest_0 : decode cL_rest 0 = .ok (.iconst 1, 1) := by decide +kernel
theorem dL_rest_1 : decode cL_rest 1 = .ok (.istore 4, 2) := by decide +kernel
theorem dL_rest_3 : decode cL_rest 3 = .ok (.aload_n 0, 1) := by decide +kernel
theorem dL_rest_4 : decode cL_rest 4 = .ok (.aload_n 1, 1) := by decide +kernel
theorem dL_rest_5 : decode cL_rest 5 = .ok (.aload_n 2, 1) := by decide +kernel
theorem dL_rest_6 : decode cL_rest 6 = .ok (.iload_n 3, 1) := by decide +kernel
theorem dL_rest_7 : decode cL_rest 7 = .ok (.iload_n 3, 1) := by decide +kernel
theorem dL_rest_8 : decode cL_rest 8 = .ok (.iconst 1, 1) := by decide +kernel
theorem dL_rest_9 : decode cL_rest 9 = .ok (.iload 4, 2) := by decide +kernel
theorem dL_rest_11 : decode cL_rest 11 = .ok (.iconst 0, 1) := by decide +kernel
theorem dL_rest_12 : decode cL_rest 12 = .ok (.invokestatic 103, 3) := by decide +kernel
theorem dL_rest_15 : decode cL_rest 15 = .ok (.ifCond .ne 9, 3) := by decide +kernel
theorem dL_rest_18 : decode cL_rest 18 = .ok (.iinc 4 1, 3) := by decide +kernel
theorem dL_rest_21 : decode cL_rest 21 = .ok (.goto (-18), 3) := by decide +kernel
theorem dL_rest_24 : decode cL_rest 24 = .ok (.iload 4, 2) := by decide +kernel
theorem dL_rest_26 : decode cL_rest 26 = .ok (.ireturn, 1) := by decide +kernel
theorem dL_joint_0 : decode cL_joint 0 = .ok (.iconst 1, 1) := by decide +kernel
theorem dL_joint_1 : decode cL_joint 1 = .ok (.istore 5, 2) := by decide +kernel
theorem dL_joint_3 : decode cL_joint 3 = .ok (.iload 5, 2) := by decide +kernel
theorem dL_joint_5 : decode cL_joint 5 = .ok (.bipush 100, 2) := by decide +kernel
theorem dL_joint_7 : decode cL_joint 7 = .ok (.if_icmp .ge 60, 3) := by decide +kernel
theorem dL_joint_10 : decode cL_joint 10 = .ok (.aload_n 0, 1) := by decide +kernel
theorem dL_joint_11 : decode cL_joint 11 = .ok (.aload_n 1, 1) := by decide +kernel
theorem dL_joint_12 : decode cL_joint 12 = .ok (.aload_n 2, 1) := by decide +kernel
theorem dL_joint_13 : decode cL_joint 13 = .ok (.iload_n 3, 1) := by decide +kernel
theorem dL_joint_14 : decode cL_joint 14 = .ok (.iload_n 3, 1) := by decide +kernel
theorem dL_joint_15 : decode cL_joint 15 = .ok (.iconst 1, 1) := by decide +kernel
theorem dL_joint_16 : decode cL_joint 16 = .ok (.iload 5, 2) := by decide +kernel
theorem dL_joint_18 : decode cL_joint 18 = .ok (.iconst 0, 1) := by decide +kernel
theorem dL_joint_19 : decode cL_joint 19 = .ok (.invokestatic 103, 3) := by decide +kernel
theorem dL_joint_22 : decode cL_joint 22 = .ok (.ifCond .eq 39, 3) := by decide +kernel
theorem dL_joint_25 : decode cL_joint 25 = .ok (.aload_n 0, 1) := by decide +kernel
theorem dL_joint_26 : decode cL_joint 26 = .ok (.aload_n 1, 1) := by decide +kernel
theorem dL_joint_27 : decode cL_joint 27 = .ok (.aload_n 2, 1) := by decide +kernel
theorem dL_joint_28 : decode cL_joint 28 = .ok (.iload 4, 2) := by decide +kernel
theorem dL_joint_30 : decode cL_joint 30 = .ok (.iload 4, 2) := by decide +kernel
theorem dL_joint_32 : decode cL_joint 32 = .ok (.iconst 1, 1) := by decide +kernel
theorem dL_joint_33 : decode cL_joint 33 = .ok (.iload 5, 2) := by decide +kernel
theorem dL_joint_35 : decode cL_joint 35 = .ok (.iconst 0, 1) := by decide +kernel
theorem dL_joint_36 : decode cL_joint 36 = .ok (.invokestatic 103, 3) := by decide +kernel
theorem dL_joint_39 : decode cL_joint 39 = .ok (.ifCond .eq 22, 3) := by decide +kernel
theorem dL_joint_42 : decode cL_joint 42 = .ok (.aload_n 0, 1) := by decide +kernel
theorem dL_joint_43 : decode cL_joint 43 = .ok (.aload_n 1, 1) := by decide +kernel
theorem dL_joint_44 : decode cL_joint 44 = .ok (.aload_n 2, 1) := by decide +kernel
theorem dL_joint_45 : decode cL_joint 45 = .ok (.iload_n 3, 1) := by decide +kernel
theorem dL_joint_46 : decode cL_joint 46 = .ok (.iload 4, 2) := by decide +kernel
theorem dL_joint_48 : decode cL_joint 48 = .ok (.iconst 1, 1) := by decide +kernel
theorem dL_joint_49 : decode cL_joint 49 = .ok (.iload 5, 2) := by decide +kernel
theorem dL_joint_51 : decode cL_joint 51 = .ok (.iconst 0, 1) := by decide +kernel
theorem dL_joint_52 : decode cL_joint 52 = .ok (.invokestatic 103, 3) := by decide +kernel
theorem dL_joint_55 : decode cL_joint 55 = .ok (.ifCond .eq 6, 3) := by decide +kernel
theorem dL_joint_58 : decode cL_joint 58 = .ok (.iload 5, 2) := by decide +kernel
theorem dL_joint_60 : decode cL_joint 60 = .ok (.ireturn, 1) := by decide +kernel
theorem dL_joint_61 : decode cL_joint 61 = .ok (.iinc 5 1, 3) := by decide +kernel
theorem dL_joint_64 : decode cL_joint 64 = .ok (.goto (-61), 3) := by decide +kernel
theorem dL_joint_67 : decode cL_joint 67 = .ok (.iconst (-1), 1) := by decide +kernel
theorem dL_joint_68 : decode cL_joint 68 = .ok (.ireturn, 1) := by decide +kernel
theorem dL_two_0 : decode cL_two 0 = .ok (.iconst 1, 1) := by decide +kernel
theorem dL_two_1 : decode cL_two 1 = .ok (.istore 4, 2) := by decide +kernel
theorem dL_two_3 : decode cL_two 3 = .ok (.iload 4, 2) := by decide +kernel
theorem dL_two_5 : decode cL_two 5 = .ok (.aload_n 0, 1) := by decide +kernel
theorem dL_two_6 : decode cL_two 6 = .ok (.invokestatic 77, 3) := by decide +kernel
theorem dL_two_9 : decode cL_two 9 = .ok (.if_icmp .ge 76, 3) := by decide +kernel
theorem dL_two_12 : decode cL_two 12 = .ok (.iconst 1, 1) := by decide +kernel
theorem dL_two_13 : decode cL_two 13 = .ok (.istore 5, 2) := by decide +kernel
theorem dL_two_15 : decode cL_two 15 = .ok (.iload 5, 2) := by decide +kernel
theorem dL_two_17 : decode cL_two 17 = .ok (.aload_n 0, 1) := by decide +kernel
theorem dL_two_18 : decode cL_two 18 = .ok (.iconst 0, 1) := by decide +kernel
theorem dL_two_19 : decode cL_two 19 = .ok (.iaload, 1) := by decide +kernel
theorem dL_two_20 : decode cL_two 20 = .ok (.if_icmp .gt 59, 3) := by decide +kernel
theorem dL_two_23 : decode cL_two 23 = .ok (.iload 4, 2) := by decide +kernel
theorem dL_two_25 : decode cL_two 25 = .ok (.iload 5, 2) := by decide +kernel
theorem dL_two_27 : decode cL_two 27 = .ok (.irem, 1) := by decide +kernel
theorem dL_two_28 : decode cL_two 28 = .ok (.ifCond .ne 45, 3) := by decide +kernel
theorem dL_two_31 : decode cL_two 31 = .ok (.iload 4, 2) := by decide +kernel
theorem dL_two_33 : decode cL_two 33 = .ok (.iload 5, 2) := by decide +kernel
theorem dL_two_35 : decode cL_two 35 = .ok (.idiv, 1) := by decide +kernel
theorem dL_two_36 : decode cL_two 36 = .ok (.aload_n 0, 1) := by decide +kernel
theorem dL_two_37 : decode cL_two 37 = .ok (.iconst 1, 1) := by decide +kernel
theorem dL_two_38 : decode cL_two 38 = .ok (.iaload, 1) := by decide +kernel
theorem dL_two_39 : decode cL_two 39 = .ok (.if_icmp .gt 34, 3) := by decide +kernel
theorem dL_two_42 : decode cL_two 42 = .ok (.aload_n 0, 1) := by decide +kernel
theorem dL_two_43 : decode cL_two 43 = .ok (.aload_n 1, 1) := by decide +kernel
theorem dL_two_44 : decode cL_two 44 = .ok (.aload_n 2, 1) := by decide +kernel
theorem dL_two_45 : decode cL_two 45 = .ok (.iload_n 3, 1) := by decide +kernel
theorem dL_two_46 : decode cL_two 46 = .ok (.iload_n 3, 1) := by decide +kernel
theorem dL_two_47 : decode cL_two 47 = .ok (.iconst 2, 1) := by decide +kernel
theorem dL_two_48 : decode cL_two 48 = .ok (.iload 5, 2) := by decide +kernel
theorem dL_two_50 : decode cL_two 50 = .ok (.iload 4, 2) := by decide +kernel
theorem dL_two_52 : decode cL_two 52 = .ok (.iload 5, 2) := by decide +kernel
theorem dL_two_54 : decode cL_two 54 = .ok (.idiv, 1) := by decide +kernel
theorem dL_two_55 : decode cL_two 55 = .ok (.invokestatic 103, 3) := by decide +kernel
theorem dL_two_58 : decode cL_two 58 = .ok (.ifCond .eq 15, 3) := by decide +kernel
theorem dL_two_61 : decode cL_two 61 = .ok (.bipush 100, 2) := by decide +kernel
theorem dL_two_63 : decode cL_two 63 = .ok (.iload 5, 2) := by decide +kernel
theorem dL_two_65 : decode cL_two 65 = .ok (.imul, 1) := by decide +kernel
theorem dL_two_66 : decode cL_two 66 = .ok (.iload 4, 2) := by decide +kernel
theorem dL_two_68 : decode cL_two 68 = .ok (.iload 5, 2) := by decide +kernel
theorem dL_two_70 : decode cL_two 70 = .ok (.idiv, 1) := by decide +kernel
theorem dL_two_71 : decode cL_two 71 = .ok (.iadd, 1) := by decide +kernel
theorem dL_two_72 : decode cL_two 72 = .ok (.ireturn, 1) := by decide +kernel
theorem dL_two_73 : decode cL_two 73 = .ok (.iinc 5 1, 3) := by decide +kernel
theorem dL_two_76 : decode cL_two 76 = .ok (.goto (-61), 3) := by decide +kernel
theorem dL_two_79 : decode cL_two 79 = .ok (.iinc 4 1, 3) := by decide +kernel
theorem dL_two_82 : decode cL_two 82 = .ok (.goto (-79), 3) := by decide +kernel
theorem dL_two_85 : decode cL_two 85 = .ok (.bipush 100, 2) := by decide +kernel
theorem dL_two_87 : decode cL_two 87 = .ok (.aload_n 0, 1) := by decide +kernel
theorem dL_two_88 : decode cL_two 88 = .ok (.iconst 0, 1) := by decide +kernel
theorem dL_two_89 : decode cL_two 89 = .ok (.iaload, 1) := by decide +kernel
theorem dL_two_90 : decode cL_two 90 = .ok (.imul, 1) := by decide +kernel
theorem dL_two_91 : decode cL_two 91 = .ok (.aload_n 0, 1) := by decide +kernel
theorem dL_two_92 : decode cL_two 92 = .ok (.iconst 1, 1) := by decide +kernel
theorem dL_two_93 : decode cL_two 93 = .ok (.iaload, 1) := by decide +kernel
theorem dL_two_94 : decode cL_two 94 = .ok (.iadd, 1) := by decide +kernel
theorem dL_two_95 : decode cL_two 95 = .ok (.ireturn, 1) := by decide +kernel
theorem dL_slant_0 : decode cL_slant 0 = .ok (.iconst 1, 1) := by decide +kernel
theorem dL_slant_1 : decode cL_slant 1 = .ok (.istore 4, 2) := by decide +kernel
theorem dL_slant_3 : decode cL_slant 3 = .ok (.iconst 0, 1) := by decide +kernel
theorem dL_slant_4 : decode cL_slant 4 = .ok (.istore 5, 2) := by decide +kernel
theorem dL_slant_6 : decode cL_slant 6 = .ok (.iload 5, 2) := by decide +kernel
theorem dL_slant_8 : decode cL_slant 8 = .ok (.bipush 10, 2) := by decide +kernel
theorem dL_slant_10 : decode cL_slant 10 = .ok (.if_icmp .ge 34, 3) := by decide +kernel
theorem dL_slant_13 : decode cL_slant 13 = .ok (.aload_n 0, 1) := by decide +kernel
theorem dL_slant_14 : decode cL_slant 14 = .ok (.aload_n 1, 1) := by decide +kernel
theorem dL_slant_15 : decode cL_slant 15 = .ok (.aload_n 2, 1) := by decide +kernel
theorem dL_slant_16 : decode cL_slant 16 = .ok (.iload_n 3, 1) := by decide +kernel
theorem dL_slant_17 : decode cL_slant 17 = .ok (.iload_n 3, 1) := by decide +kernel
theorem dL_slant_18 : decode cL_slant 18 = .ok (.iconst 3, 1) := by decide +kernel
theorem dL_slant_19 : decode cL_slant 19 = .ok (.iload 5, 2) := by decide +kernel
theorem dL_slant_21 : decode cL_slant 21 = .ok (.iload 4, 2) := by decide +kernel
theorem dL_slant_23 : decode cL_slant 23 = .ok (.invokestatic 103, 3) := by decide +kernel
theorem dL_slant_26 : decode cL_slant 26 = .ok (.ifCond .eq 12, 3) := by decide +kernel
theorem dL_slant_29 : decode cL_slant 29 = .ok (.bipush 10, 2) := by decide +kernel
theorem dL_slant_31 : decode cL_slant 31 = .ok (.iload 4, 2) := by decide +kernel
theorem dL_slant_33 : decode cL_slant 33 = .ok (.imul, 1) := by decide +kernel
theorem dL_slant_34 : decode cL_slant 34 = .ok (.iload 5, 2) := by decide +kernel
theorem dL_slant_36 : decode cL_slant 36 = .ok (.iadd, 1) := by decide +kernel
theorem dL_slant_37 : decode cL_slant 37 = .ok (.ireturn, 1) := by decide +kernel
theorem dL_slant_38 : decode cL_slant 38 = .ok (.iinc 5 1, 3) := by decide +kernel
theorem dL_slant_41 : decode cL_slant 41 = .ok (.goto (-35), 3) := by decide +kernel
theorem dL_slant_44 : decode cL_slant 44 = .ok (.iinc 4 1, 3) := by decide +kernel
theorem dL_slant_47 : decode cL_slant 47 = .ok (.goto (-44), 3) := by decide +kernel
theorem dL_areLives_0 : decode cL_areLives 0 = .ok (.aload_n 1, 1) := by decide +kernel
theorem dL_areLives_1 : decode cL_areLives 1 = .ok (.invokestatic 77, 3) := by decide +kernel
theorem dL_areLives_4 : decode cL_areLives 4 = .ok (.istore 8, 2) := by decide +kernel
theorem dL_areLives_6 : decode cL_areLives 6 = .ok (.aload_n 1, 1) := by decide +kernel
theorem dL_areLives_7 : decode cL_areLives 7 = .ok (.iconst 2, 1) := by decide +kernel
theorem dL_areLives_8 : decode cL_areLives 8 = .ok (.iaload, 1) := by decide +kernel
theorem dL_areLives_9 : decode cL_areLives 9 = .ok (.iload 8, 2) := by decide +kernel
theorem dL_areLives_11 : decode cL_areLives 11 = .ok (.imul, 1) := by decide +kernel
theorem dL_areLives_12 : decode cL_areLives 12 = .ok (.istore 9, 2) := by decide +kernel
theorem dL_areLives_14 : decode cL_areLives 14 = .ok (.aload_n 0, 1) := by decide +kernel
theorem dL_areLives_15 : decode cL_areLives 15 = .ok (.invokevirtual 107, 3) := by decide +kernel
theorem dL_areLives_18 : decode cL_areLives 18 = .ok (.iload 9, 2) := by decide +kernel
theorem dL_areLives_20 : decode cL_areLives 20 = .ok (.if_icmp .ne 40, 3) := by decide +kernel
theorem dL_areLives_23 : decode cL_areLives 23 = .ok (.aload_n 0, 1) := by decide +kernel
theorem dL_areLives_24 : decode cL_areLives 24 = .ok (.invokevirtual 110, 3) := by decide +kernel
