theorem dL_areLives_27 : decode cL_areLives 27 = .ok (.aload_n 1, 1) := by decide +kernel
theorem dL_areLives_28 : decode cL_areLives 28 = .ok (.aload_n 2, 1) := by decide +kernel
theorem dL_areLives_29 : decode cL_areLives 29 = .ok (.aload_n 3, 1) := by decide +kernel
theorem dL_areLives_30 : decode cL_areLives 30 = .ok (.aload 4, 2) := by decide +kernel
theorem dL_areLives_32 : decode cL_areLives 32 = .ok (.invokestatic 114, 3) := by decide +kernel
theorem dL_areLives_35 : decode cL_areLives 35 = .ok (.if_icmp .ne 25, 3) := by decide +kernel
theorem dL_areLives_38 : decode cL_areLives 38 = .ok (.aload_n 0, 1) := by decide +kernel
theorem dL_areLives_39 : decode cL_areLives 39 = .ok (.bipush 15, 2) := by decide +kernel
theorem dL_areLives_41 : decode cL_areLives 41 = .ok (.iload 9, 2) := by decide +kernel
theorem dL_areLives_43 : decode cL_areLives 43 = .ok (.iconst 0, 1) := by decide +kernel
theorem dL_areLives_44 : decode cL_areLives 44 = .ok (.iconst 0, 1) := by decide +kernel
theorem dL_areLives_45 : decode cL_areLives 45 = .ok (.iconst 0, 1) := by decide +kernel
theorem dL_areLives_46 : decode cL_areLives 46 = .ok (.iconst 0, 1) := by decide +kernel
theorem dL_areLives_47 : decode cL_areLives 47 = .ok (.invokestatic 117, 3) := by decide +kernel
theorem dL_areLives_50 : decode cL_areLives 50 = .ok (.sipush (-3000), 3) := by decide +kernel
theorem dL_areLives_53 : decode cL_areLives 53 = .ok (.if_icmp .ne 7, 3) := by decide +kernel
theorem dL_areLives_56 : decode cL_areLives 56 = .ok (.iconst 1, 1) := by decide +kernel
theorem dL_areLives_57 : decode cL_areLives 57 = .ok (.goto 4, 3) := by decide +kernel
theorem dL_areLives_60 : decode cL_areLives 60 = .ok (.iconst 0, 1) := by decide +kernel
theorem dL_areLives_61 : decode cL_areLives 61 = .ok (.istore 10, 2) := by decide +kernel
theorem dL_areLives_63 : decode cL_areLives 63 = .ok (.iconst 0, 1) := by decide +kernel
theorem dL_areLives_64 : decode cL_areLives 64 = .ok (.istore 11, 2) := by decide +kernel
theorem dL_areLives_66 : decode cL_areLives 66 = .ok (.iconst 4, 1) := by decide +kernel
theorem dL_areLives_67 : decode cL_areLives 67 = .ok (.newarray .int, 2) := by decide +kernel
theorem dL_areLives_69 : decode cL_areLives 69 = .ok (.astore 12, 2) := by decide +kernel
theorem dL_areLives_71 : decode cL_areLives 71 = .ok (.iconst 0, 1) := by decide +kernel
theorem dL_areLives_72 : decode cL_areLives 72 = .ok (.istore 13, 2) := by decide +kernel
theorem dL_areLives_74 : decode cL_areLives 74 = .ok (.iload 13, 2) := by decide +kernel
theorem dL_areLives_76 : decode cL_areLives 76 = .ok (.iload 9, 2) := by decide +kernel
theorem dL_areLives_78 : decode cL_areLives 78 = .ok (.if_icmp .ge 192, 3) := by decide +kernel
theorem dL_areLives_81 : decode cL_areLives 81 = .ok (.iload 10, 2) := by decide +kernel
theorem dL_areLives_83 : decode cL_areLives 83 = .ok (.ifCond .eq 187, 3) := by decide +kernel
theorem dL_areLives_86 : decode cL_areLives 86 = .ok (.iconst 0, 1) := by decide +kernel
theorem dL_areLives_87 : decode cL_areLives 87 = .ok (.istore 14, 2) := by decide +kernel
theorem dL_areLives_89 : decode cL_areLives 89 = .ok (.iconst 4, 1) := by decide +kernel
theorem dL_areLives_90 : decode cL_areLives 90 = .ok (.newarray .int, 2) := by decide +kernel
theorem dL_areLives_92 : decode cL_areLives 92 = .ok (.astore 15, 2) := by decide +kernel
theorem dL_areLives_94 : decode cL_areLives 94 = .ok (.iconst 0, 1) := by decide +kernel
theorem dL_areLives_95 : decode cL_areLives 95 = .ok (.istore 16, 2) := by decide +kernel
theorem dL_areLives_97 : decode cL_areLives 97 = .ok (.iload 16, 2) := by decide +kernel
theorem dL_areLives_99 : decode cL_areLives 99 = .ok (.iload 9, 2) := by decide +kernel
theorem dL_areLives_101 : decode cL_areLives 101 = .ok (.if_icmp .ge 72, 3) := by decide +kernel
theorem dL_areLives_104 : decode cL_areLives 104 = .ok (.aload 4, 2) := by decide +kernel
theorem dL_areLives_106 : decode cL_areLives 106 = .ok (.iload 16, 2) := by decide +kernel
theorem dL_areLives_108 : decode cL_areLives 108 = .ok (.iaload, 1) := by decide +kernel
theorem dL_areLives_109 : decode cL_areLives 109 = .ok (.iload 13, 2) := by decide +kernel
theorem dL_areLives_111 : decode cL_areLives 111 = .ok (.if_icmp .ge 17, 3) := by decide +kernel
theorem dL_areLives_114 : decode cL_areLives 114 = .ok (.iload 13, 2) := by decide +kernel
theorem dL_areLives_116 : decode cL_areLives 116 = .ok (.aload 5, 2) := by decide +kernel
theorem dL_areLives_118 : decode cL_areLives 118 = .ok (.iload 16, 2) := by decide +kernel
theorem dL_areLives_120 : decode cL_areLives 120 = .ok (.iaload, 1) := by decide +kernel
theorem dL_areLives_121 : decode cL_areLives 121 = .ok (.if_icmp .gt 7, 3) := by decide +kernel
theorem dL_areLives_124 : decode cL_areLives 124 = .ok (.iconst 1, 1) := by decide +kernel
theorem dL_areLives_125 : decode cL_areLives 125 = .ok (.goto 4, 3) := by decide +kernel
theorem dL_areLives_128 : decode cL_areLives 128 = .ok (.iconst 0, 1) := by decide +kernel
theorem dL_areLives_129 : decode cL_areLives 129 = .ok (.istore 17, 2) := by decide +kernel
theorem dL_areLives_131 : decode cL_areLives 131 = .ok (.iload 14, 2) := by decide +kernel
theorem dL_areLives_133 : decode cL_areLives 133 = .ok (.iload 17, 2) := by decide +kernel
theorem dL_areLives_135 : decode cL_areLives 135 = .ok (.ifCond .eq 7, 3) := by decide +kernel
theorem dL_areLives_138 : decode cL_areLives 138 = .ok (.iconst 1, 1) := by decide +kernel
theorem dL_areLives_139 : decode cL_areLives 139 = .ok (.goto 4, 3) := by decide +kernel
theorem dL_areLives_142 : decode cL_areLives 142 = .ok (.iconst 0, 1) := by decide +kernel
theorem dL_areLives_143 : decode cL_areLives 143 = .ok (.iadd, 1) := by decide +kernel
theorem dL_areLives_144 : decode cL_areLives 144 = .ok (.istore 14, 2) := by decide +kernel
theorem dL_areLives_146 : decode cL_areLives 146 = .ok (.aload 15, 2) := by decide +kernel
theorem dL_areLives_148 : decode cL_areLives 148 = .ok (.iload 16, 2) := by decide +kernel
theorem dL_areLives_150 : decode cL_areLives 150 = .ok (.iload 8, 2) := by decide +kernel
theorem dL_areLives_152 : decode cL_areLives 152 = .ok (.idiv, 1) := by decide +kernel
theorem dL_areLives_153 : decode cL_areLives 153 = .ok (.dup2, 1) := by decide +kernel
theorem dL_areLives_154 : decode cL_areLives 154 = .ok (.iaload, 1) := by decide +kernel
theorem dL_areLives_155 : decode cL_areLives 155 = .ok (.iload 17, 2) := by decide +kernel
theorem dL_areLives_157 : decode cL_areLives 157 = .ok (.ifCond .eq 7, 3) := by decide +kernel
theorem dL_areLives_160 : decode cL_areLives 160 = .ok (.iconst 1, 1) := by decide +kernel
theorem dL_areLives_161 : decode cL_areLives 161 = .ok (.goto 4, 3) := by decide +kernel
theorem dL_areLives_164 : decode cL_areLives 164 = .ok (.iconst 0, 1) := by decide +kernel
theorem dL_areLives_165 : decode cL_areLives 165 = .ok (.iadd, 1) := by decide +kernel
theorem dL_areLives_166 : decode cL_areLives 166 = .ok (.iastore, 1) := by decide +kernel
theorem dL_areLives_167 : decode cL_areLives 167 = .ok (.iinc 16 1, 3) := by decide +kernel
theorem dL_areLives_170 : decode cL_areLives 170 = .ok (.goto (-73), 3) := by decide +kernel
theorem dL_areLives_173 : decode cL_areLives 173 = .ok (.iconst 0, 1) := by decide +kernel
theorem dL_areLives_174 : decode cL_areLives 174 = .ok (.istore 16, 2) := by decide +kernel
theorem dL_areLives_176 : decode cL_areLives 176 = .ok (.iload 16, 2) := by decide +kernel
theorem dL_areLives_178 : decode cL_areLives 178 = .ok (.iconst 4, 1) := by decide +kernel
theorem dL_areLives_179 : decode cL_areLives 179 = .ok (.if_icmp .ge 40, 3) := by decide +kernel
theorem dL_areLives_182 : decode cL_areLives 182 = .ok (.aload 12, 2) := by decide +kernel
theorem dL_areLives_184 : decode cL_areLives 184 = .ok (.iload 16, 2) := by decide +kernel
theorem dL_areLives_186 : decode cL_areLives 186 = .ok (.aload 15, 2) := by decide +kernel
theorem dL_areLives_188 : decode cL_areLives 188 = .ok (.iload 16, 2) := by decide +kernel
theorem dL_areLives_190 : decode cL_areLives 190 = .ok (.iaload, 1) := by decide +kernel
theorem dL_areLives_191 : decode cL_areLives 191 = .ok (.aload 12, 2) := by decide +kernel
theorem dL_areLives_193 : decode cL_areLives 193 = .ok (.iload 16, 2) := by decide +kernel
theorem dL_areLives_195 : decode cL_areLives 195 = .ok (.iaload, 1) := by decide +kernel
theorem dL_areLives_196 : decode cL_areLives 196 = .ok (.if_icmp .le 11, 3) := by decide +kernel
theorem dL_areLives_199 : decode cL_areLives 199 = .ok (.aload 15, 2) := by decide +kernel
theorem dL_areLives_201 : decode cL_areLives 201 = .ok (.iload 16, 2) := by decide +kernel
theorem dL_areLives_203 : decode cL_areLives 203 = .ok (.iaload, 1) := by decide +kernel
theorem dL_areLives_204 : decode cL_areLives 204 = .ok (.goto 8, 3) := by decide +kernel
theorem dL_areLives_207 : decode cL_areLives 207 = .ok (.aload 12, 2) := by decide +kernel
theorem dL_areLives_209 : decode cL_areLives 209 = .ok (.iload 16, 2) := by decide +kernel
theorem dL_areLives_211 : decode cL_areLives 211 = .ok (.iaload, 1) := by decide +kernel
theorem dL_areLives_212 : decode cL_areLives 212 = .ok (.iastore, 1) := by decide +kernel
theorem dL_areLives_213 : decode cL_areLives 213 = .ok (.iinc 16 1, 3) := by decide +kernel
theorem dL_areLives_216 : decode cL_areLives 216 = .ok (.goto (-40), 3) := by decide +kernel
theorem dL_areLives_219 : decode cL_areLives 219 = .ok (.iload 14, 2) := by decide +kernel
theorem dL_areLives_221 : decode cL_areLives 221 = .ok (.iload 11, 2) := by decide +kernel
theorem dL_areLives_223 : decode cL_areLives 223 = .ok (.if_icmp .le 8, 3) := by decide +kernel
theorem dL_areLives_226 : decode cL_areLives 226 = .ok (.iload 14, 2) := by decide +kernel
theorem dL_areLives_228 : decode cL_areLives 228 = .ok (.goto 5, 3) := by decide +kernel
theorem dL_areLives_231 : decode cL_areLives 231 = .ok (.iload 11, 2) := by decide +kernel
theorem dL_areLives_233 : decode cL_areLives 233 = .ok (.istore 11, 2) := by decide +kernel
theorem dL_areLives_235 : decode cL_areLives 235 = .ok (.iload 13, 2) := by decide +kernel
theorem dL_areLives_237 : decode cL_areLives 237 = .ok (.iconst 5, 1) := by decide +kernel
theorem dL_areLives_238 : decode cL_areLives 238 = .ok (.irem, 1) := by decide +kernel
theorem dL_areLives_239 : decode cL_areLives 239 = .ok (.iload 6, 2) := by decide +kernel
theorem dL_areLives_241 : decode cL_areLives 241 = .ok (.iconst 5, 1) := by decide +kernel
theorem dL_areLives_242 : decode cL_areLives 242 = .ok (.irem, 1) := by decide +kernel
theorem dL_areLives_243 : decode cL_areLives 243 = .ok (.if_icmp .ne 14, 3) := by decide +kernel
theorem dL_areLives_246 : decode cL_areLives 246 = .ok (.aload_n 0, 1) := by decide +kernel
theorem dL_areLives_247 : decode cL_areLives 247 = .ok (.iload 13, 2) := by decide +kernel
theorem dL_areLives_249 : decode cL_areLives 249 = .ok (.invokevirtual 62, 3) := by decide +kernel
theorem dL_areLives_252 : decode cL_areLives 252 = .ok (.iload 14, 2) := by decide +kernel
theorem dL_areLives_254 : decode cL_areLives 254 = .ok (.if_icmp .ne 7, 3) := by decide +kernel
theorem dL_areLives_257 : decode cL_areLives 257 = .ok (.iconst 1, 1) := by decide +kernel
theorem dL_areLives_258 : decode cL_areLives 258 = .ok (.goto 4, 3) := by decide +kernel
theorem dL_areLives_261 : decode cL_areLives 261 = .ok (.iconst 0, 1) := by decide +kernel
theorem dL_areLives_262 : decode cL_areLives 262 = .ok (.istore 10, 2) := by decide +kernel
theorem dL_areLives_264 : decode cL_areLives 264 = .ok (.iinc 13 1, 3) := by decide +kernel
theorem dL_areLives_267 : decode cL_areLives 267 = .ok (.goto (-193), 3) := by decide +kernel
theorem dL_areLives_270 : decode cL_areLives 270 = .ok (.iload 10, 2) := by decide +kernel
theorem dL_areLives_272 : decode cL_areLives 272 = .ok (.ifCond .eq 16, 3) := by decide +kernel
theorem dL_areLives_275 : decode cL_areLives 275 = .ok (.aload_n 0, 1) := by decide +kernel
theorem dL_areLives_276 : decode cL_areLives 276 = .ok (.invokevirtual 121, 3) := by decide +kernel
theorem dL_areLives_279 : decode cL_areLives 279 = .ok (.iload 11, 2) := by decide +kernel
theorem dL_areLives_281 : decode cL_areLives 281 = .ok (.if_icmp .ne 7, 3) := by decide +kernel
theorem dL_areLives_284 : decode cL_areLives 284 = .ok (.iconst 1, 1) := by decide +kernel
theorem dL_areLives_285 : decode cL_areLives 285 = .ok (.goto 4, 3) := by decide +kernel
theorem dL_areLives_288 : decode cL_areLives 288 = .ok (.iconst 0, 1) := by decide +kernel
theorem dL_areLives_289 : decode cL_areLives 289 = .ok (.istore 10, 2) := by decide +kernel
theorem dL_areLives_291 : decode cL_areLives 291 = .ok (.iload 9, 2) := by decide +kernel
theorem dL_areLives_293 : decode cL_areLives 293 = .ok (.ifCond .ne 7, 3) := by decide +kernel
theorem dL_areLives_296 : decode cL_areLives 296 = .ok (.iconst 0, 1) := by decide +kernel
theorem dL_areLives_297 : decode cL_areLives 297 = .ok (.goto 8, 3) := by decide +kernel
theorem dL_areLives_300 : decode cL_areLives 300 = .ok (.iload 7, 2) := by decide +kernel
theorem dL_areLives_302 : decode cL_areLives 302 = .ok (.iload 9, 2) := by decide +kernel
theorem dL_areLives_304 : decode cL_areLives 304 = .ok (.irem, 1) := by decide +kernel
theorem dL_areLives_305 : decode cL_areLives 305 = .ok (.istore 13, 2) := by decide +kernel
theorem dL_areLives_307 : decode cL_areLives 307 = .ok (.iconst 0, 1) := by decide +kernel
theorem dL_areLives_308 : decode cL_areLives 308 = .ok (.istore 14, 2) := by decide +kernel
theorem dL_areLives_310 : decode cL_areLives 310 = .ok (.iload 14, 2) := by decide +kernel
theorem dL_areLives_312 : decode cL_areLives 312 = .ok (.aload_n 1, 1) := by decide +kernel
theorem dL_areLives_313 : decode cL_areLives 313 = .ok (.iconst 2, 1) := by decide +kernel
theorem dL_areLives_314 : decode cL_areLives 314 = .ok (.iaload, 1) := by decide +kernel
theorem dL_areLives_315 : decode cL_areLives 315 = .ok (.if_icmp .ge 184, 3) := by decide +kernel
theorem dL_areLives_318 : decode cL_areLives 318 = .ok (.iload 10, 2) := by decide +kernel
theorem dL_areLives_320 : decode cL_areLives 320 = .ok (.ifCond .eq 179, 3) := by decide +kernel
theorem dL_areLives_323 : decode cL_areLives 323 = .ok (.iconst 0, 1) := by decide +kernel
theorem dL_areLives_324 : decode cL_areLives 324 = .ok (.istore 15, 2) := by decide +kernel
theorem dL_areLives_326 : decode cL_areLives 326 = .ok (.iconst 0, 1) := by decide +kernel
theorem dL_areLives_327 : decode cL_areLives 327 = .ok (.istore 16, 2) := by decide +kernel
theorem dL_areLives_329 : decode cL_areLives 329 = .ok (.iconst 0, 1) := by decide +kernel
theorem dL_areLives_330 : decode cL_areLives 330 = .ok (.istore 17, 2) := by decide +kernel
theorem dL_areLives_332 : decode cL_areLives 332 = .ok (.iload 17, 2) := by decide +kernel
theorem dL_areLives_334 : decode cL_areLives 334 = .ok (.iload 8, 2) := by decide +kernel
theorem dL_areLives_336 : decode cL_areLives 336 = .ok (.if_icmp .ge 91, 3) := by decide +kernel
theorem dL_areLives_339 : decode cL_areLives 339 = .ok (.iload 15, 2) := by decide +kernel
theorem dL_areLives_341 : decode cL_areLives 341 = .ok (.aload 4, 2) := by decide +kernel
theorem dL_areLives_343 : decode cL_areLives 343 = .ok (.aload 5, 2) := by decide +kernel
theorem dL_areLives_345 : decode cL_areLives 345 = .ok (.iload 13, 2) := by decide +kernel
theorem dL_areLives_347 : decode cL_areLives 347 = .ok (.iload 14, 2) := by decide +kernel
theorem dL_areLives_349 : decode cL_areLives 349 = .ok (.iload 8, 2) := by decide +kernel
theorem dL_areLives_351 : decode cL_areLives 351 = .ok (.imul, 1) := by decide +kernel
theorem dL_areLives_352 : decode cL_areLives 352 = .ok (.iload 17, 2) := by decide +kernel
theorem dL_areLives_354 : decode cL_areLives 354 = .ok (.iadd, 1) := by decide +kernel
theorem dL_areLives_355 : decode cL_areLives 355 = .ok (.invokestatic 99, 3) := by decide +kernel
theorem dL_areLives_358 : decode cL_areLives 358 = .ok (.ifCond .eq 7, 3) := by decide +kernel
theorem dL_areLives_361 : decode cL_areLives 361 = .ok (.iconst 1, 1) := by decide +kernel
theorem dL_areLives_362 : decode cL_areLives 362 = .ok (.goto 4, 3) := by decide +kernel
theorem dL_areLives_365 : decode cL_areLives 365 = .ok (.iconst 0, 1) := by decide +kernel
theorem dL_areLives_366 : decode cL_areLives 366 = .ok (.iadd, 1) := by decide +kernel
theorem dL_areLives_367 : decode cL_areLives 367 = .ok (.istore 15, 2) := by decide +kernel
theorem dL_areLives_369 : decode cL_areLives 369 = .ok (.iconst 0, 1) := by decide +kernel
theorem dL_areLives_370 : decode cL_areLives 370 = .ok (.istore 18, 2) := by decide +kernel
theorem dL_areLives_372 : decode cL_areLives 372 = .ok (.iload 18, 2) := by decide +kernel
theorem dL_areLives_374 : decode cL_areLives 374 = .ok (.iload 17, 2) := by decide +kernel
theorem dL_areLives_376 : decode cL_areLives 376 = .ok (.if_icmp .ge 45, 3) := by decide +kernel
theorem dL_areLives_379 : decode cL_areLives 379 = .ok (.iload 16, 2) := by decide +kernel
theorem dL_areLives_381 : decode cL_areLives 381 = .ok (.aload 4, 2) := by decide +kernel
theorem dL_areLives_383 : decode cL_areLives 383 = .ok (.aload 5, 2) := by decide +kernel
theorem dL_areLives_385 : decode cL_areLives 385 = .ok (.iload 14, 2) := by decide +kernel
theorem dL_areLives_387 : decode cL_areLives 387 = .ok (.iload 8, 2) := by decide +kernel
theorem dL_areLives_389 : decode cL_areLives 389 = .ok (.imul, 1) := by decide +kernel
theorem dL_areLives_390 : decode cL_areLives 390 = .ok (.iload 18, 2) := by decide +kernel
theorem dL_areLives_392 : decode cL_areLives 392 = .ok (.iadd, 1) := by decide +kernel
theorem dL_areLives_393 : decode cL_areLives 393 = .ok (.iload 14, 2) := by decide +kernel
theorem dL_areLives_395 : decode cL_areLives 395 = .ok (.iload 8, 2) := by decide +kernel
theorem dL_areLives_397 : decode cL_areLives 397 = .ok (.imul, 1) := by decide +kernel
theorem dL_areLives_398 : decode cL_areLives 398 = .ok (.iload 17, 2) := by decide +kernel
theorem dL_areLives_400 : decode cL_areLives 400 = .ok (.iadd, 1) := by decide +kernel
theorem dL_areLives_401 : decode cL_areLives 401 = .ok (.invokestatic 99, 3) := by decide +kernel
theorem dL_areLives_404 : decode cL_areLives 404 = .ok (.ifCond .eq 7, 3) := by decide +kernel
theorem dL_areLives_407 : decode cL_areLives 407 = .ok (.iconst 1, 1) := by decide +kernel
theorem dL_areLives_408 : decode cL_areLives 408 = .ok (.goto 4, 3) := by decide +kernel
theorem dL_areLives_411 : decode cL_areLives 411 = .ok (.iconst 0, 1) := by decide +kernel
theorem dL_areLives_412 : decode cL_areLives 412 = .ok (.iadd, 1) := by decide +kernel
theorem dL_areLives_413 : decode cL_areLives 413 = .ok (.istore 16, 2) := by decide +kernel
theorem dL_areLives_415 : decode cL_areLives 415 = .ok (.iinc 18 1, 3) := by decide +kernel
theorem dL_areLives_418 : decode cL_areLives 418 = .ok (.goto (-46), 3) := by decide +kernel
theorem dL_areLives_421 : decode cL_areLives 421 = .ok (.iinc 17 1, 3) := by decide +kernel
theorem dL_areLives_424 : decode cL_areLives 424 = .ok (.goto (-92), 3) := by decide +kernel
theorem dL_areLives_427 : decode cL_areLives 427 = .ok (.aload_n 0, 1) := by decide +kernel
theorem dL_areLives_428 : decode cL_areLives 428 = .ok (.iload 14, 2) := by decide +kernel
theorem dL_areLives_430 : decode cL_areLives 430 = .ok (.invokevirtual 124, 3) := by decide +kernel
theorem dL_areLives_433 : decode cL_areLives 433 = .ok (.aload 12, 2) := by decide +kernel
theorem dL_areLives_435 : decode cL_areLives 435 = .ok (.iload 14, 2) := by decide +kernel
theorem dL_areLives_437 : decode cL_areLives 437 = .ok (.iaload, 1) := by decide +kernel
theorem dL_areLives_438 : decode cL_areLives 438 = .ok (.if_icmp .ne 52, 3) := by decide +kernel
theorem dL_areLives_441 : decode cL_areLives 441 = .ok (.aload_n 0, 1) := by decide +kernel
theorem dL_areLives_442 : decode cL_areLives 442 = .ok (.iload 14, 2) := by decide +kernel
theorem dL_areLives_444 : decode cL_areLives 444 = .ok (.invokevirtual 127, 3) := by decide +kernel
theorem dL_areLives_447 : decode cL_areLives 447 = .ok (.iload 16, 2) := by decide +kernel
theorem dL_areLives_449 : decode cL_areLives 449 = .ok (.if_icmp .ne 41, 3) := by decide +kernel
theorem dL_areLives_452 : decode cL_areLives 452 = .ok (.aload_n 0, 1) := by decide +kernel
theorem dL_areLives_453 : decode cL_areLives 453 = .ok (.iload 13, 2) := by decide +kernel
theorem dL_areLives_455 : decode cL_areLives 455 = .ok (.iload 8, 2) := by decide +kernel
theorem dL_areLives_457 : decode cL_areLives 457 = .ok (.idiv, 1) := by decide +kernel
theorem dL_areLives_458 : decode cL_areLives 458 = .ok (.iload 13, 2) := by decide +kernel
theorem dL_areLives_460 : decode cL_areLives 460 = .ok (.iload 8, 2) := by decide +kernel
theorem dL_areLives_462 : decode cL_areLives 462 = .ok (.irem, 1) := by decide +kernel
theorem dL_areLives_463 : decode cL_areLives 463 = .ok (.aload_n 1, 1) := by decide +kernel
theorem dL_areLives_464 : decode cL_areLives 464 = .ok (.iconst 1, 1) := by decide +kernel
theorem dL_areLives_465 : decode cL_areLives 465 = .ok (.iaload, 1) := by decide +kernel
theorem dL_areLives_466 : decode cL_areLives 466 = .ok (.idiv, 1) := by decide +kernel
theorem dL_areLives_467 : decode cL_areLives 467 = .ok (.iload 13, 2) := by decide +kernel
theorem dL_areLives_469 : decode cL_areLives 469 = .ok (.iload 8, 2) := by decide +kernel
theorem dL_areLives_471 : decode cL_areLives 471 = .ok (.irem, 1) := by decide +kernel
theorem dL_areLives_472 : decode cL_areLives 472 = .ok (.aload_n 1, 1) := by decide +kernel
theorem dL_areLives_473 : decode cL_areLives 473 = .ok (.iconst 1, 1) := by decide +kernel
theorem dL_areLives_474 : decode cL_areLives 474 = .ok (.iaload, 1) := by decide +kernel
theorem dL_areLives_475 : decode cL_areLives 475 = .ok (.irem, 1) := by decide +kernel
theorem dL_areLives_476 : decode cL_areLives 476 = .ok (.iload 14, 2) := by decide +kernel
theorem dL_areLives_478 : decode cL_areLives 478 = .ok (.invokevirtual 130, 3) := by decide +kernel
theorem dL_areLives_481 : decode cL_areLives 481 = .ok (.iload 15, 2) := by decide +kernel
theorem dL_areLives_483 : decode cL_areLives 483 = .ok (.if_icmp .ne 7, 3) := by decide +kernel
theorem dL_areLives_486 : decode cL_areLives 486 = .ok (.iconst 1, 1) := by decide +kernel
theorem dL_areLives_487 : decode cL_areLives 487 = .ok (.goto 4, 3) := by decide +kernel
theorem dL_areLives_490 : decode cL_areLives 490 = .ok (.iconst 0, 1) := by decide +kernel
theorem dL_areLives_491 : decode cL_areLives 491 = .ok (.istore 10, 2) := by decide +kernel
theorem dL_areLives_493 : decode cL_areLives 493 = .ok (.iinc 14 1, 3) := by decide +kernel
theorem dL_areLives_496 : decode cL_areLives 496 = .ok (.goto (-186), 3) := by decide +kernel
theorem dL_areLives_499 : decode cL_areLives 499 = .ok (.iload 6, 2) := by decide +kernel
theorem dL_areLives_501 : decode cL_areLives 501 = .ok (.iconst 3, 1) := by decide +kernel
theorem dL_areLives_502 : decode cL_areLives 502 = .ok (.irem, 1) := by decide +kernel
theorem dL_areLives_503 : decode cL_areLives 503 = .ok (.istore 14, 2) := by decide +kernel
theorem dL_areLives_505 : decode cL_areLives 505 = .ok (.iload 14, 2) := by decide +kernel
theorem dL_areLives_507 : decode cL_areLives 507 = .ok (.iload 9, 2) := by decide +kernel
theorem dL_areLives_509 : decode cL_areLives 509 = .ok (.if_icmp .ge 125, 3) := by decide +kernel
theorem dL_areLives_512 : decode cL_areLives 512 = .ok (.iload 10, 2) := by decide +kernel
theorem dL_areLives_514 : decode cL_areLives 514 = .ok (.ifCond .eq 120, 3) := by decide +kernel
theorem dL_areLives_517 : decode cL_areLives 517 = .ok (.aload_n 0, 1) := by decide +kernel
theorem dL_areLives_518 : decode cL_areLives 518 = .ok (.iload 14, 2) := by decide +kernel
theorem dL_areLives_520 : decode cL_areLives 520 = .ok (.iload 8, 2) := by decide +kernel
theorem dL_areLives_522 : decode cL_areLives 522 = .ok (.idiv, 1) := by decide +kernel
theorem dL_areLives_523 : decode cL_areLives 523 = .ok (.iload 14, 2) := by decide +kernel
theorem dL_areLives_525 : decode cL_areLives 525 = .ok (.iload 8, 2) := by decide +kernel
theorem dL_areLives_527 : decode cL_areLives 527 = .ok (.irem, 1) := by decide +kernel
theorem dL_areLives_528 : decode cL_areLives 528 = .ok (.aload_n 1, 1) := by decide +kernel
theorem dL_areLives_529 : decode cL_areLives 529 = .ok (.iconst 1, 1) := by decide +kernel
theorem dL_areLives_530 : decode cL_areLives 530 = .ok (.iaload, 1) := by decide +kernel
theorem dL_areLives_531 : decode cL_areLives 531 = .ok (.idiv, 1) := by decide +kernel
theorem dL_areLives_532 : decode cL_areLives 532 = .ok (.iload 14, 2) := by decide +kernel
theorem dL_areLives_534 : decode cL_areLives 534 = .ok (.iload 8, 2) := by decide +kernel
theorem dL_areLives_536 : decode cL_areLives 536 = .ok (.irem, 1) := by decide +kernel
theorem dL_areLives_537 : decode cL_areLives 537 = .ok (.aload_n 1, 1) := by decide +kernel
theorem dL_areLives_538 : decode cL_areLives 538 = .ok (.iconst 1, 1) := by decide +kernel
theorem dL_areLives_539 : decode cL_areLives 539 = .ok (.iaload, 1) := by decide +kernel
theorem dL_areLives_540 : decode cL_areLives 540 = .ok (.irem, 1) := by decide +kernel
theorem dL_areLives_541 : decode cL_areLives 541 = .ok (.invokevirtual 56, 3) := by decide +kernel
theorem dL_areLives_544 : decode cL_areLives 544 = .ok (.aload 4, 2) := by decide +kernel
theorem dL_areLives_546 : decode cL_areLives 546 = .ok (.iload 14, 2) := by decide +kernel
theorem dL_areLives_548 : decode cL_areLives 548 = .ok (.iaload, 1) := by decide +kernel
theorem dL_areLives_549 : decode cL_areLives 549 = .ok (.if_icmp .ne 76, 3) := by decide +kernel
theorem dL_areLives_552 : decode cL_areLives 552 = .ok (.aload_n 0, 1) := by decide +kernel
theorem dL_areLives_553 : decode cL_areLives 553 = .ok (.aload 4, 2) := by decide +kernel
theorem dL_areLives_555 : decode cL_areLives 555 = .ok (.iload 14, 2) := by decide +kernel
theorem dL_areLives_557 : decode cL_areLives 557 = .ok (.iaload, 1) := by decide +kernel
theorem dL_areLives_558 : decode cL_areLives 558 = .ok (.invokevirtual 134, 3) := by decide +kernel
theorem dL_areLives_561 : decode cL_areLives 561 = .ok (.iload 14, 2) := by decide +kernel
theorem dL_areLives_563 : decode cL_areLives 563 = .ok (.iload 8, 2) := by decide +kernel
theorem dL_areLives_565 : decode cL_areLives 565 = .ok (.idiv, 1) := by decide +kernel
theorem dL_areLives_566 : decode cL_areLives 566 = .ok (.if_icmp .ne 59, 3) := by decide +kernel
theorem dL_areLives_569 : decode cL_areLives 569 = .ok (.aload_n 0, 1) := by decide +kernel
theorem dL_areLives_570 : decode cL_areLives 570 = .ok (.aload 4, 2) := by decide +kernel
theorem dL_areLives_572 : decode cL_areLives 572 = .ok (.iload 14, 2) := by decide +kernel
theorem dL_areLives_574 : decode cL_areLives 574 = .ok (.iaload, 1) := by decide +kernel
theorem dL_areLives_575 : decode cL_areLives 575 = .ok (.invokevirtual 137, 3) := by decide +kernel
theorem dL_areLives_578 : decode cL_areLives 578 = .ok (.iload 14, 2) := by decide +kernel
theorem dL_areLives_580 : decode cL_areLives 580 = .ok (.iload 8, 2) := by decide +kernel
theorem dL_areLives_582 : decode cL_areLives 582 = .ok (.irem, 1) := by decide +kernel
theorem dL_areLives_583 : decode cL_areLives 583 = .ok (.if_icmp .ne 42, 3) := by decide +kernel
theorem dL_areLives_586 : decode cL_areLives 586 = .ok (.aload_n 0, 1) := by decide +kernel
theorem dL_areLives_587 : decode cL_areLives 587 = .ok (.iload 14, 2) := by decide +kernel
theorem dL_areLives_589 : decode cL_areLives 589 = .ok (.iload 8, 2) := by decide +kernel
theorem dL_areLives_591 : decode cL_areLives 591 = .ok (.idiv, 1) := by decide +kernel
theorem dL_areLives_592 : decode cL_areLives 592 = .ok (.iload 14, 2) := by decide +kernel
theorem dL_areLives_594 : decode cL_areLives 594 = .ok (.iload 8, 2) := by decide +kernel
theorem dL_areLives_596 : decode cL_areLives 596 = .ok (.irem, 1) := by decide +kernel
theorem dL_areLives_597 : decode cL_areLives 597 = .ok (.aload_n 1, 1) := by decide +kernel
theorem dL_areLives_598 : decode cL_areLives 598 = .ok (.iconst 1, 1) := by decide +kernel
theorem dL_areLives_599 : decode cL_areLives 599 = .ok (.iaload, 1) := by decide +kernel
theorem dL_areLives_600 : decode cL_areLives 600 = .ok (.idiv, 1) := by decide +kernel
theorem dL_areLives_601 : decode cL_areLives 601 = .ok (.iload 14, 2) := by decide +kernel
theorem dL_areLives_603 : decode cL_areLives 603 = .ok (.iload 8, 2) := by decide +kernel
theorem dL_areLives_605 : decode cL_areLives 605 = .ok (.irem, 1) := by decide +kernel
theorem dL_areLives_606 : decode cL_areLives 606 = .ok (.aload_n 1, 1) := by decide +kernel
theorem dL_areLives_607 : decode cL_areLives 607 = .ok (.iconst 1, 1) := by decide +kernel
theorem dL_areLives_608 : decode cL_areLives 608 = .ok (.iaload, 1) := by decide +kernel
theorem dL_areLives_609 : decode cL_areLives 609 = .ok (.irem, 1) := by decide +kernel
theorem dL_areLives_610 : decode cL_areLives 610 = .ok (.invokevirtual 140, 3) := by decide +kernel
theorem dL_areLives_613 : decode cL_areLives 613 = .ok (.aload 5, 2) := by decide +kernel
theorem dL_areLives_615 : decode cL_areLives 615 = .ok (.iload 14, 2) := by decide +kernel
theorem dL_areLives_617 : decode cL_areLives 617 = .ok (.iaload, 1) := by decide +kernel
theorem dL_areLives_618 : decode cL_areLives 618 = .ok (.if_icmp .ne 7, 3) := by decide +kernel
theorem dL_areLives_621 : decode cL_areLives 621 = .ok (.iconst 1, 1) := by decide +kernel
theorem dL_areLives_622 : decode cL_areLives 622 = .ok (.goto 4, 3) := by decide +kernel
theorem dL_areLives_625 : decode cL_areLives 625 = .ok (.iconst 0, 1) := by decide +kernel
theorem dL_areLives_626 : decode cL_areLives 626 = .ok (.istore 10, 2) := by decide +kernel
theorem dL_areLives_628 : decode cL_areLives 628 = .ok (.iinc 14 3, 3) := by decide +kernel
theorem dL_areLives_631 : decode cL_areLives 631 = .ok (.goto (-126), 3) := by decide +kernel
theorem dL_areLives_634 : decode cL_areLives 634 = .ok (.iconst 0, 1) := by decide +kernel
theorem dL_areLives_635 : decode cL_areLives 635 = .ok (.istore 14, 2) := by decide +kernel
theorem dL_areLives_637 : decode cL_areLives 637 = .ok (.iload 14, 2) := by decide +kernel
theorem dL_areLives_639 : decode cL_areLives 639 = .ok (.aload_n 1, 1) := by decide +kernel
theorem dL_areLives_640 : decode cL_areLives 640 = .ok (.iconst 2, 1) := by decide +kernel
theorem dL_areLives_641 : decode cL_areLives 641 = .ok (.iaload, 1) := by decide +kernel
theorem dL_areLives_642 : decode cL_areLives 642 = .ok (.if_icmp .ge 103, 3) := by decide +kernel
theorem dL_areLives_645 : decode cL_areLives 645 = .ok (.iload 10, 2) := by decide +kernel
theorem dL_areLives_647 : decode cL_areLives 647 = .ok (.ifCond .eq 98, 3) := by decide +kernel
theorem dL_areLives_650 : decode cL_areLives 650 = .ok (.iconst 0, 1) := by decide +kernel
theorem dL_areLives_651 : decode cL_areLives 651 = .ok (.istore 15, 2) := by decide +kernel
theorem dL_areLives_653 : decode cL_areLives 653 = .ok (.iload 15, 2) := by decide +kernel
theorem dL_areLives_655 : decode cL_areLives 655 = .ok (.aload_n 2, 1) := by decide +kernel
theorem dL_areLives_656 : decode cL_areLives 656 = .ok (.iconst 4, 1) := by decide +kernel
theorem dL_areLives_657 : decode cL_areLives 657 = .ok (.iload 14, 2) := by decide +kernel
theorem dL_areLives_659 : decode cL_areLives 659 = .ok (.iadd, 1) := by decide +kernel
theorem dL_areLives_660 : decode cL_areLives 660 = .ok (.iaload, 1) := by decide +kernel
theorem dL_areLives_661 : decode cL_areLives 661 = .ok (.if_icmp .ge 43, 3) := by decide +kernel
theorem dL_areLives_664 : decode cL_areLives 664 = .ok (.iload 10, 2) := by decide +kernel
theorem dL_areLives_666 : decode cL_areLives 666 = .ok (.ifCond .eq 38, 3) := by decide +kernel
theorem dL_areLives_669 : decode cL_areLives 669 = .ok (.aload_n 0, 1) := by decide +kernel
theorem dL_areLives_670 : decode cL_areLives 670 = .ok (.iload 14, 2) := by decide +kernel
theorem dL_areLives_672 : decode cL_areLives 672 = .ok (.iload 15, 2) := by decide +kernel
theorem dL_areLives_674 : decode cL_areLives 674 = .ok (.invokevirtual 59, 3) := by decide +kernel
theorem dL_areLives_677 : decode cL_areLives 677 = .ok (.aload_n 1, 1) := by decide +kernel
theorem dL_areLives_678 : decode cL_areLives 678 = .ok (.aload_n 3, 1) := by decide +kernel
theorem dL_areLives_679 : decode cL_areLives 679 = .ok (.aload 4, 2) := by decide +kernel
theorem dL_areLives_681 : decode cL_areLives 681 = .ok (.iload 14, 2) := by decide +kernel
theorem dL_areLives_683 : decode cL_areLives 683 = .ok (.iload 15, 2) := by decide +kernel
theorem dL_areLives_685 : decode cL_areLives 685 = .ok (.invokestatic 91, 3) := by decide +kernel
theorem dL_areLives_688 : decode cL_areLives 688 = .ok (.if_icmp .ne 7, 3) := by decide +kernel
theorem dL_areLives_691 : decode cL_areLives 691 = .ok (.iconst 1, 1) := by decide +kernel
theorem dL_areLives_692 : decode cL_areLives 692 = .ok (.goto 4, 3) := by decide +kernel
theorem dL_areLives_695 : decode cL_areLives 695 = .ok (.iconst 0, 1) := by decide +kernel
theorem dL_areLives_696 : decode cL_areLives 696 = .ok (.istore 10, 2) := by decide +kernel
theorem dL_areLives_698 : decode cL_areLives 698 = .ok (.iinc 15 1, 3) := by decide +kernel
theorem dL_areLives_701 : decode cL_areLives 701 = .ok (.goto (-48), 3) := by decide +kernel
theorem dL_areLives_704 : decode cL_areLives 704 = .ok (.iload 10, 2) := by decide +kernel
theorem dL_areLives_706 : decode cL_areLives 706 = .ok (.ifCond .eq 30, 3) := by decide +kernel
theorem dL_areLives_709 : decode cL_areLives 709 = .ok (.aload_n 0, 1) := by decide +kernel
theorem dL_areLives_710 : decode cL_areLives 710 = .ok (.bipush 14, 2) := by decide +kernel
theorem dL_areLives_712 : decode cL_areLives 712 = .ok (.iload 14, 2) := by decide +kernel
theorem dL_areLives_714 : decode cL_areLives 714 = .ok (.aload_n 2, 1) := by decide +kernel
theorem dL_areLives_715 : decode cL_areLives 715 = .ok (.iconst 4, 1) := by decide +kernel
theorem dL_areLives_716 : decode cL_areLives 716 = .ok (.iload 14, 2) := by decide +kernel
theorem dL_areLives_718 : decode cL_areLives 718 = .ok (.iadd, 1) := by decide +kernel
theorem dL_areLives_719 : decode cL_areLives 719 = .ok (.iaload, 1) := by decide +kernel
theorem dL_areLives_720 : decode cL_areLives 720 = .ok (.iconst 0, 1) := by decide +kernel
theorem dL_areLives_721 : decode cL_areLives 721 = .ok (.iconst 0, 1) := by decide +kernel
theorem dL_areLives_722 : decode cL_areLives 722 = .ok (.iconst 0, 1) := by decide +kernel
theorem dL_areLives_723 : decode cL_areLives 723 = .ok (.invokestatic 117, 3) := by decide +kernel
theorem dL_areLives_726 : decode cL_areLives 726 = .ok (.sipush (-3000), 3) := by decide +kernel
theorem dL_areLives_729 : decode cL_areLives 729 = .ok (.if_icmp .ne 7, 3) := by decide +kernel
theorem dL_areLives_732 : decode cL_areLives 732 = .ok (.iconst 1, 1) := by decide +kernel
theorem dL_areLives_733 : decode cL_areLives 733 = .ok (.goto 4, 3) := by decide +kernel
theorem dL_areLives_736 : decode cL_areLives 736 = .ok (.iconst 0, 1) := by decide +kernel
theorem dL_areLives_737 : decode cL_areLives 737 = .ok (.istore 10, 2) := by decide +kernel
theorem dL_areLives_739 : decode cL_areLives 739 = .ok (.iinc 14 1, 3) := by decide +kernel
theorem dL_areLives_742 : decode cL_areLives 742 = .ok (.goto (-105), 3) := by decide +kernel
theorem dL_areLives_745 : decode cL_areLives 745 = .ok (.iload 10, 2) := by decide +kernel
theorem dL_areLives_747 : decode cL_areLives 747 = .ok (.ireturn, 1) := by decide +kernel
theorem dL_areWindows_0 : decode cL_areWindows 0 = .ok (.iconst 1, 1) := by decide +kernel
theorem dL_areWindows_1 : decode cL_areWindows 1 = .ok (.istore 6, 2) := by decide +kernel
theorem dL_areWindows_3 : decode cL_areWindows 3 = .ok (.aload_n 1, 1) := by decide +kernel
theorem dL_areWindows_4 : decode cL_areWindows 4 = .ok (.invokestatic 77, 3) := by decide +kernel
theorem dL_areWindows_7 : decode cL_areWindows 7 = .ok (.istore 7, 2) := by decide +kernel
theorem dL_areWindows_9 : decode cL_areWindows 9 = .ok (.iconst 0, 1) := by decide +kernel
theorem dL_areWindows_10 : decode cL_areWindows 10 = .ok (.istore 8, 2) := by decide +kernel
theorem dL_areWindows_12 : decode cL_areWindows 12 = .ok (.iconst 0, 1) := by decide +kernel
theorem dL_areWindows_13 : decode cL_areWindows 13 = .ok (.istore 9, 2) := by decide +kernel
theorem dL_areWindows_15 : decode cL_areWindows 15 = .ok (.iload 9, 2) := by decide +kernel
theorem dL_areWindows_17 : decode cL_areWindows 17 = .ok (.aload_n 1, 1) := by decide +kernel
theorem dL_areWindows_18 : decode cL_areWindows 18 = .ok (.iconst 2, 1) := by decide +kernel
theorem dL_areWindows_19 : decode cL_areWindows 19 = .ok (.iaload, 1) := by decide +kernel
theorem dL_areWindows_20 : decode cL_areWindows 20 = .ok (.if_icmp .ge 193, 3) := by decide +kernel
theorem dL_areWindows_23 : decode cL_areWindows 23 = .ok (.iload 6, 2) := by decide +kernel
theorem dL_areWindows_25 : decode cL_areWindows 25 = .ok (.ifCond .eq 188, 3) := by decide +kernel
theorem dL_areWindows_28 : decode cL_areWindows 28 = .ok (.aload_n 2, 1) := by decide +kernel
theorem dL_areWindows_29 : decode cL_areWindows 29 = .ok (.bipush 16, 2) := by decide +kernel
theorem dL_areWindows_31 : decode cL_areWindows 31 = .ok (.iload 9, 2) := by decide +kernel
theorem dL_areWindows_33 : decode cL_areWindows 33 = .ok (.iadd, 1) := by decide +kernel
theorem dL_areWindows_34 : decode cL_areWindows 34 = .ok (.iaload, 1) := by decide +kernel
theorem dL_areWindows_35 : decode cL_areWindows 35 = .ok (.istore 10, 2) := by decide +kernel
theorem dL_areWindows_37 : decode cL_areWindows 37 = .ok (.iload 10, 2) := by decide +kernel
theorem dL_areWindows_39 : decode cL_areWindows 39 = .ok (.ifCond .ne 8, 3) := by decide +kernel
theorem dL_areWindows_42 : decode cL_areWindows 42 = .ok (.iload 7, 2) := by decide +kernel
theorem dL_areWindows_44 : decode cL_areWindows 44 = .ok (.goto 50, 3) := by decide +kernel
theorem dL_areWindows_47 : decode cL_areWindows 47 = .ok (.iload 10, 2) := by decide +kernel
theorem dL_areWindows_49 : decode cL_areWindows 49 = .ok (.iconst 1, 1) := by decide +kernel
theorem dL_areWindows_50 : decode cL_areWindows 50 = .ok (.if_icmp .ne 13, 3) := by decide +kernel
theorem dL_areWindows_53 : decode cL_areWindows 53 = .ok (.aload_n 2, 1) := by decide +kernel
theorem dL_areWindows_54 : decode cL_areWindows 54 = .ok (.bipush 20, 2) := by decide +kernel
theorem dL_areWindows_56 : decode cL_areWindows 56 = .ok (.iload 9, 2) := by decide +kernel
theorem dL_areWindows_58 : decode cL_areWindows 58 = .ok (.iadd, 1) := by decide +kernel
theorem dL_areWindows_59 : decode cL_areWindows 59 = .ok (.iaload, 1) := by decide +kernel
theorem dL_areWindows_60 : decode cL_areWindows 60 = .ok (.goto 34, 3) := by decide +kernel
theorem dL_areWindows_63 : decode cL_areWindows 63 = .ok (.iload 10, 2) := by decide +kernel
theorem dL_areWindows_65 : decode cL_areWindows 65 = .ok (.iconst 2, 1) := by decide +kernel
theorem dL_areWindows_66 : decode cL_areWindows 66 = .ok (.if_icmp .ne 21, 3) := by decide +kernel
theorem dL_areWindows_69 : decode cL_areWindows 69 = .ok (.aload_n 2, 1) := by decide +kernel
theorem dL_areWindows_70 : decode cL_areWindows 70 = .ok (.bipush 20, 2) := by decide +kernel
theorem dL_areWindows_72 : decode cL_areWindows 72 = .ok (.iload 9, 2) := by decide +kernel
theorem dL_areWindows_74 : decode cL_areWindows 74 = .ok (.iadd, 1) := by decide +kernel
theorem dL_areWindows_75 : decode cL_areWindows 75 = .ok (.iaload, 1) := by decide +kernel
theorem dL_areWindows_76 : decode cL_areWindows 76 = .ok (.aload_n 2, 1) := by decide +kernel
theorem dL_areWindows_77 : decode cL_areWindows 77 = .ok (.bipush 24, 2) := by decide +kernel
theorem dL_areWindows_79 : decode cL_areWindows 79 = .ok (.iload 9, 2) := by decide +kernel
theorem dL_areWindows_81 : decode cL_areWindows 81 = .ok (.iadd, 1) := by decide +kernel
theorem dL_areWindows_82 : decode cL_areWindows 82 = .ok (.iaload, 1) := by decide +kernel
theorem dL_areWindows_83 : decode cL_areWindows 83 = .ok (.imul, 1) := by decide +kernel
theorem dL_areWindows_84 : decode cL_areWindows 84 = .ok (.goto 10, 3) := by decide +kernel
theorem dL_areWindows_87 : decode cL_areWindows 87 = .ok (.aload_n 2, 1) := by decide +kernel
theorem dL_areWindows_88 : decode cL_areWindows 88 = .ok (.bipush 24, 2) := by decide +kernel
theorem dL_areWindows_90 : decode cL_areWindows 90 = .ok (.iload 9, 2) := by decide +kernel
theorem dL_areWindows_92 : decode cL_areWindows 92 = .ok (.iadd, 1) := by decide +kernel
theorem dL_areWindows_93 : decode cL_areWindows 93 = .ok (.iaload, 1) := by decide +kernel
theorem dL_areWindows_94 : decode cL_areWindows 94 = .ok (.istore 11, 2) := by decide +kernel
theorem dL_areWindows_96 : decode cL_areWindows 96 = .ok (.iload 8, 2) := by decide +kernel
theorem dL_areWindows_98 : decode cL_areWindows 98 = .ok (.iload 11, 2) := by decide +kernel
theorem dL_areWindows_100 : decode cL_areWindows 100 = .ok (.iadd, 1) := by decide +kernel
theorem dL_areWindows_101 : decode cL_areWindows 101 = .ok (.istore 8, 2) := by decide +kernel
theorem dL_areWindows_103 : decode cL_areWindows 103 = .ok (.iload 5, 2) := by decide +kernel
theorem dL_areWindows_105 : decode cL_areWindows 105 = .ok (.iload 7, 2) := by decide +kernel
theorem dL_areWindows_107 : decode cL_areWindows 107 = .ok (.irem, 1) := by decide +kernel
theorem dL_areWindows_108 : decode cL_areWindows 108 = .ok (.istore 12, 2) := by decide +kernel
theorem dL_areWindows_110 : decode cL_areWindows 110 = .ok (.aload_n 0, 1) := by decide +kernel
theorem dL_areWindows_111 : decode cL_areWindows 111 = .ok (.iload 9, 2) := by decide +kernel
theorem dL_areWindows_113 : decode cL_areWindows 113 = .ok (.invokevirtual 143, 3) := by decide +kernel
theorem dL_areWindows_116 : decode cL_areWindows 116 = .ok (.iload 11, 2) := by decide +kernel
theorem dL_areWindows_118 : decode cL_areWindows 118 = .ok (.if_icmp .ne 86, 3) := by decide +kernel
theorem dL_areWindows_121 : decode cL_areWindows 121 = .ok (.aload_n 0, 1) := by decide +kernel
theorem dL_areWindows_122 : decode cL_areWindows 122 = .ok (.iload 9, 2) := by decide +kernel
theorem dL_areWindows_124 : decode cL_areWindows 124 = .ok (.iload 12, 2) := by decide +kernel
theorem dL_areWindows_126 : decode cL_areWindows 126 = .ok (.aload_n 1, 1) := by decide +kernel
theorem dL_areWindows_127 : decode cL_areWindows 127 = .ok (.iconst 1, 1) := by decide +kernel
theorem dL_areWindows_128 : decode cL_areWindows 128 = .ok (.iaload, 1) := by decide +kernel
theorem dL_areWindows_129 : decode cL_areWindows 129 = .ok (.idiv, 1) := by decide +kernel
theorem dL_areWindows_130 : decode cL_areWindows 130 = .ok (.iload 12, 2) := by decide +kernel
theorem dL_areWindows_132 : decode cL_areWindows 132 = .ok (.aload_n 1, 1) := by decide +kernel
theorem dL_areWindows_133 : decode cL_areWindows 133 = .ok (.iconst 1, 1) := by decide +kernel
theorem dL_areWindows_134 : decode cL_areWindows 134 = .ok (.iaload, 1) := by decide +kernel
theorem dL_areWindows_135 : decode cL_areWindows 135 = .ok (.irem, 1) := by decide +kernel
theorem dL_areWindows_136 : decode cL_areWindows 136 = .ok (.invokevirtual 146, 3) := by decide +kernel
theorem dL_areWindows_139 : decode cL_areWindows 139 = .ok (.aload_n 1, 1) := by decide +kernel
theorem dL_areWindows_140 : decode cL_areWindows 140 = .ok (.iload 10, 2) := by decide +kernel
theorem dL_areWindows_142 : decode cL_areWindows 142 = .ok (.aload_n 2, 1) := by decide +kernel
theorem dL_areWindows_143 : decode cL_areWindows 143 = .ok (.bipush 20, 2) := by decide +kernel
theorem dL_areWindows_145 : decode cL_areWindows 145 = .ok (.iload 9, 2) := by decide +kernel
theorem dL_areWindows_147 : decode cL_areWindows 147 = .ok (.iadd, 1) := by decide +kernel
theorem dL_areWindows_148 : decode cL_areWindows 148 = .ok (.iaload, 1) := by decide +kernel
theorem dL_areWindows_149 : decode cL_areWindows 149 = .ok (.aload_n 2, 1) := by decide +kernel
theorem dL_areWindows_150 : decode cL_areWindows 150 = .ok (.bipush 24, 2) := by decide +kernel
theorem dL_areWindows_152 : decode cL_areWindows 152 = .ok (.iload 9, 2) := by decide +kernel
theorem dL_areWindows_154 : decode cL_areWindows 154 = .ok (.iadd, 1) := by decide +kernel
theorem dL_areWindows_155 : decode cL_areWindows 155 = .ok (.iaload, 1) := by decide +kernel
theorem dL_areWindows_156 : decode cL_areWindows 156 = .ok (.iload 12, 2) := by decide +kernel
theorem dL_areWindows_158 : decode cL_areWindows 158 = .ok (.invokestatic 95, 3) := by decide +kernel
theorem dL_areWindows_161 : decode cL_areWindows 161 = .ok (.if_icmp .ne 43, 3) := by decide +kernel
theorem dL_areWindows_164 : decode cL_areWindows 164 = .ok (.aload_n 0, 1) := by decide +kernel
theorem dL_areWindows_165 : decode cL_areWindows 165 = .ok (.iload 9, 2) := by decide +kernel
theorem dL_areWindows_167 : decode cL_areWindows 167 = .ok (.invokevirtual 149, 3) := by decide +kernel
theorem dL_areWindows_170 : decode cL_areWindows 170 = .ok (.aload_n 1, 1) := by decide +kernel
theorem dL_areWindows_171 : decode cL_areWindows 171 = .ok (.aload_n 3, 1) := by decide +kernel
theorem dL_areWindows_172 : decode cL_areWindows 172 = .ok (.aload 4, 2) := by decide +kernel
theorem dL_areWindows_174 : decode cL_areWindows 174 = .ok (.iload 9, 2) := by decide +kernel
theorem dL_areWindows_176 : decode cL_areWindows 176 = .ok (.iload 9, 2) := by decide +kernel
theorem dL_areWindows_178 : decode cL_areWindows 178 = .ok (.iload 10, 2) := by decide +kernel
theorem dL_areWindows_180 : decode cL_areWindows 180 = .ok (.aload_n 2, 1) := by decide +kernel
theorem dL_areWindows_181 : decode cL_areWindows 181 = .ok (.bipush 20, 2) := by decide +kernel
theorem dL_areWindows_183 : decode cL_areWindows 183 = .ok (.iload 9, 2) := by decide +kernel
theorem dL_areWindows_185 : decode cL_areWindows 185 = .ok (.iadd, 1) := by decide +kernel
theorem dL_areWindows_186 : decode cL_areWindows 186 = .ok (.iaload, 1) := by decide +kernel
theorem dL_areWindows_187 : decode cL_areWindows 187 = .ok (.aload_n 2, 1) := by decide +kernel
theorem dL_areWindows_188 : decode cL_areWindows 188 = .ok (.bipush 24, 2) := by decide +kernel
theorem dL_areWindows_190 : decode cL_areWindows 190 = .ok (.iload 9, 2) := by decide +kernel
theorem dL_areWindows_192 : decode cL_areWindows 192 = .ok (.iadd, 1) := by decide +kernel
theorem dL_areWindows_193 : decode cL_areWindows 193 = .ok (.iaload, 1) := by decide +kernel
theorem dL_areWindows_194 : decode cL_areWindows 194 = .ok (.invokestatic 103, 3) := by decide +kernel
theorem dL_areWindows_197 : decode cL_areWindows 197 = .ok (.if_icmp .ne 7, 3) := by decide +kernel
theorem dL_areWindows_200 : decode cL_areWindows 200 = .ok (.iconst 1, 1) := by decide +kernel
theorem dL_areWindows_201 : decode cL_areWindows 201 = .ok (.goto 4, 3) := by decide +kernel
theorem dL_areWindows_204 : decode cL_areWindows 204 = .ok (.iconst 0, 1) := by decide +kernel
theorem dL_areWindows_205 : decode cL_areWindows 205 = .ok (.istore 6, 2) := by decide +kernel
theorem dL_areWindows_207 : decode cL_areWindows 207 = .ok (.iinc 9 1, 3) := by decide +kernel
theorem dL_areWindows_210 : decode cL_areWindows 210 = .ok (.goto (-195), 3) := by decide +kernel
theorem dL_areWindows_213 : decode cL_areWindows 213 = .ok (.iload 6, 2) := by decide +kernel
theorem dL_areWindows_215 : decode cL_areWindows 215 = .ok (.ifCond .eq 16, 3) := by decide +kernel
theorem dL_areWindows_218 : decode cL_areWindows 218 = .ok (.aload_n 0, 1) := by decide +kernel
theorem dL_areWindows_219 : decode cL_areWindows 219 = .ok (.invokevirtual 152, 3) := by decide +kernel
theorem dL_areWindows_222 : decode cL_areWindows 222 = .ok (.iload 8, 2) := by decide +kernel
theorem dL_areWindows_224 : decode cL_areWindows 224 = .ok (.if_icmp .ne 7, 3) := by decide +kernel
theorem dL_areWindows_227 : decode cL_areWindows 227 = .ok (.iconst 1, 1) := by decide +kernel
theorem dL_areWindows_228 : decode cL_areWindows 228 = .ok (.goto 4, 3) := by decide +kernel
theorem dL_areWindows_231 : decode cL_areWindows 231 = .ok (.iconst 0, 1) := by decide +kernel
theorem dL_areWindows_232 : decode cL_areWindows 232 = .ok (.istore 6, 2) := by decide +kernel
theorem dL_areWindows_234 : decode cL_areWindows 234 = .ok (.aload_n 1, 1) := by decide +kernel
theorem dL_areWindows_235 : decode cL_areWindows 235 = .ok (.iconst 2, 1) := by decide +kernel
theorem dL_areWindows_236 : decode cL_areWindows 236 = .ok (.iaload, 1) := by decide +kernel
theorem dL_areWindows_237 : decode cL_areWindows 237 = .ok (.ifCond .le 166, 3) := by decide +kernel
theorem dL_areWindows_240 : decode cL_areWindows 240 = .ok (.iload 6, 2) := by decide +kernel
theorem dL_areWindows_242 : decode cL_areWindows 242 = .ok (.ifCond .eq 161, 3) := by decide +kernel
theorem dL_areWindows_245 : decode cL_areWindows 245 = .ok (.iload 5, 2) := by decide +kernel
theorem dL_areWindows_247 : decode cL_areWindows 247 = .ok (.aload_n 1, 1) := by decide +kernel
theorem dL_areWindows_248 : decode cL_areWindows 248 = .ok (.iconst 2, 1) := by decide +kernel
theorem dL_areWindows_249 : decode cL_areWindows 249 = .ok (.iaload, 1) := by decide +kernel
theorem dL_areWindows_250 : decode cL_areWindows 250 = .ok (.irem, 1) := by decide +kernel
theorem dL_areWindows_251 : decode cL_areWindows 251 = .ok (.istore 9, 2) := by decide +kernel
theorem dL_areWindows_253 : decode cL_areWindows 253 = .ok (.aload_n 1, 1) := by decide +kernel
theorem dL_areWindows_254 : decode cL_areWindows 254 = .ok (.aload_n 3, 1) := by decide +kernel
theorem dL_areWindows_255 : decode cL_areWindows 255 = .ok (.aload 4, 2) := by decide +kernel
theorem dL_areWindows_257 : decode cL_areWindows 257 = .ok (.iload 9, 2) := by decide +kernel
theorem dL_areWindows_259 : decode cL_areWindows 259 = .ok (.invokestatic 155, 3) := by decide +kernel
theorem dL_areWindows_262 : decode cL_areWindows 262 = .ok (.istore 10, 2) := by decide +kernel
theorem dL_areWindows_264 : decode cL_areWindows 264 = .ok (.aload_n 1, 1) := by decide +kernel
theorem dL_areWindows_265 : decode cL_areWindows 265 = .ok (.aload_n 3, 1) := by decide +kernel
theorem dL_areWindows_266 : decode cL_areWindows 266 = .ok (.aload 4, 2) := by decide +kernel
theorem dL_areWindows_268 : decode cL_areWindows 268 = .ok (.iload 9, 2) := by decide +kernel
theorem dL_areWindows_270 : decode cL_areWindows 270 = .ok (.invokestatic 159, 3) := by decide +kernel
theorem dL_areWindows_273 : decode cL_areWindows 273 = .ok (.istore 11, 2) := by decide +kernel
theorem dL_areWindows_275 : decode cL_areWindows 275 = .ok (.aload_n 1, 1) := by decide +kernel
theorem dL_areWindows_276 : decode cL_areWindows 276 = .ok (.aload_n 3, 1) := by decide +kernel
theorem dL_areWindows_277 : decode cL_areWindows 277 = .ok (.aload 4, 2) := by decide +kernel
theorem dL_areWindows_279 : decode cL_areWindows 279 = .ok (.iload 9, 2) := by decide +kernel
theorem dL_areWindows_281 : decode cL_areWindows 281 = .ok (.invokestatic 162, 3) := by decide +kernel
theorem dL_areWindows_284 : decode cL_areWindows 284 = .ok (.istore 12, 2) := by decide +kernel
theorem dL_areWindows_286 : decode cL_areWindows 286 = .ok (.iload 5, 2) := by decide +kernel
theorem dL_areWindows_288 : decode cL_areWindows 288 = .ok (.iconst 4, 1) := by decide +kernel
theorem dL_areWindows_289 : decode cL_areWindows 289 = .ok (.idiv, 1) := by decide +kernel
theorem dL_areWindows_290 : decode cL_areWindows 290 = .ok (.aload_n 1, 1) := by decide +kernel
theorem dL_areWindows_291 : decode cL_areWindows 291 = .ok (.iconst 2, 1) := by decide +kernel
theorem dL_areWindows_292 : decode cL_areWindows 292 = .ok (.iaload, 1) := by decide +kernel
theorem dL_areWindows_293 : decode cL_areWindows 293 = .ok (.irem, 1) := by decide +kernel
theorem dL_areWindows_294 : decode cL_areWindows 294 = .ok (.istore 13, 2) := by decide +kernel
theorem dL_areWindows_296 : decode cL_areWindows 296 = .ok (.aload_n 0, 1) := by decide +kernel
theorem dL_areWindows_297 : decode cL_areWindows 297 = .ok (.iload 9, 2) := by decide +kernel
theorem dL_areWindows_299 : decode cL_areWindows 299 = .ok (.invokevirtual 165, 3) := by decide +kernel
theorem dL_areWindows_302 : decode cL_areWindows 302 = .ok (.iload 10, 2) := by decide +kernel
theorem dL_areWindows_304 : decode cL_areWindows 304 = .ok (.if_icmp .ne 96, 3) := by decide +kernel
theorem dL_areWindows_307 : decode cL_areWindows 307 = .ok (.aload_n 0, 1) := by decide +kernel
theorem dL_areWindows_308 : decode cL_areWindows 308 = .ok (.iload 9, 2) := by decide +kernel
theorem dL_areWindows_310 : decode cL_areWindows 310 = .ok (.invokevirtual 168, 3) := by decide +kernel
theorem dL_areWindows_313 : decode cL_areWindows 313 = .ok (.iload 10, 2) := by decide +kernel
theorem dL_areWindows_315 : decode cL_areWindows 315 = .ok (.if_icmp .ne 85, 3) := by decide +kernel
theorem dL_areWindows_318 : decode cL_areWindows 318 = .ok (.aload_n 0, 1) := by decide +kernel
theorem dL_areWindows_319 : decode cL_areWindows 319 = .ok (.iload 9, 2) := by decide +kernel
theorem dL_areWindows_321 : decode cL_areWindows 321 = .ok (.invokevirtual 171, 3) := by decide +kernel
theorem dL_areWindows_324 : decode cL_areWindows 324 = .ok (.iload 11, 2) := by decide +kernel
theorem dL_areWindows_326 : decode cL_areWindows 326 = .ok (.bipush 100, 2) := by decide +kernel
theorem dL_areWindows_328 : decode cL_areWindows 328 = .ok (.idiv, 1) := by decide +kernel
theorem dL_areWindows_329 : decode cL_areWindows 329 = .ok (.if_icmp .ne 71, 3) := by decide +kernel
theorem dL_areWindows_332 : decode cL_areWindows 332 = .ok (.aload_n 0, 1) := by decide +kernel
theorem dL_areWindows_333 : decode cL_areWindows 333 = .ok (.iload 9, 2) := by decide +kernel
theorem dL_areWindows_335 : decode cL_areWindows 335 = .ok (.invokevirtual 174, 3) := by decide +kernel
theorem dL_areWindows_338 : decode cL_areWindows 338 = .ok (.iload 11, 2) := by decide +kernel
theorem dL_areWindows_340 : decode cL_areWindows 340 = .ok (.bipush 100, 2) := by decide +kernel
theorem dL_areWindows_342 : decode cL_areWindows 342 = .ok (.irem, 1) := by decide +kernel
theorem dL_areWindows_343 : decode cL_areWindows 343 = .ok (.if_icmp .ne 57, 3) := by decide +kernel
theorem dL_areWindows_346 : decode cL_areWindows 346 = .ok (.aload_n 0, 1) := by decide +kernel
theorem dL_areWindows_347 : decode cL_areWindows 347 = .ok (.iload 9, 2) := by decide +kernel
theorem dL_areWindows_349 : decode cL_areWindows 349 = .ok (.invokevirtual 177, 3) := by decide +kernel
theorem dL_areWindows_352 : decode cL_areWindows 352 = .ok (.iload 12, 2) := by decide +kernel
theorem dL_areWindows_354 : decode cL_areWindows 354 = .ok (.bipush 10, 2) := by decide +kernel
theorem dL_areWindows_356 : decode cL_areWindows 356 = .ok (.idiv, 1) := by decide +kernel
theorem dL_areWindows_357 : decode cL_areWindows 357 = .ok (.if_icmp .ne 43, 3) := by decide +kernel
theorem dL_areWindows_360 : decode cL_areWindows 360 = .ok (.aload_n 0, 1) := by decide +kernel
theorem dL_areWindows_361 : decode cL_areWindows 361 = .ok (.iload 9, 2) := by decide +kernel
theorem dL_areWindows_363 : decode cL_areWindows 363 = .ok (.invokevirtual 180, 3) := by decide +kernel
theorem dL_areWindows_366 : decode cL_areWindows 366 = .ok (.iload 12, 2) := by decide +kernel
theorem dL_areWindows_368 : decode cL_areWindows 368 = .ok (.bipush 10, 2) := by decide +kernel
theorem dL_areWindows_370 : decode cL_areWindows 370 = .ok (.irem, 1) := by decide +kernel
theorem dL_areWindows_371 : decode cL_areWindows 371 = .ok (.if_icmp .ne 29, 3) := by decide +kernel
theorem dL_areWindows_374 : decode cL_areWindows 374 = .ok (.aload_n 0, 1) := by decide +kernel
theorem dL_areWindows_375 : decode cL_areWindows 375 = .ok (.iload 9, 2) := by decide +kernel
theorem dL_areWindows_377 : decode cL_areWindows 377 = .ok (.iload 13, 2) := by decide +kernel
theorem dL_areWindows_379 : decode cL_areWindows 379 = .ok (.invokevirtual 65, 3) := by decide +kernel
theorem dL_areWindows_382 : decode cL_areWindows 382 = .ok (.aload_n 1, 1) := by decide +kernel
theorem dL_areWindows_383 : decode cL_areWindows 383 = .ok (.aload_n 3, 1) := by decide +kernel
theorem dL_areWindows_384 : decode cL_areWindows 384 = .ok (.aload 4, 2) := by decide +kernel
theorem dL_areWindows_386 : decode cL_areWindows 386 = .ok (.iload 9, 2) := by decide +kernel
theorem dL_areWindows_388 : decode cL_areWindows 388 = .ok (.iload 13, 2) := by decide +kernel
theorem dL_areWindows_390 : decode cL_areWindows 390 = .ok (.invokestatic 183, 3) := by decide +kernel
theorem dL_areWindows_393 : decode cL_areWindows 393 = .ok (.if_icmp .ne 7, 3) := by decide +kernel
theorem dL_areWindows_396 : decode cL_areWindows 396 = .ok (.iconst 1, 1) := by decide +kernel
theorem dL_areWindows_397 : decode cL_areWindows 397 = .ok (.goto 4, 3) := by decide +kernel
theorem dL_areWindows_400 : decode cL_areWindows 400 = .ok (.iconst 0, 1) := by decide +kernel
theorem dL_areWindows_401 : decode cL_areWindows 401 = .ok (.istore 6, 2) := by decide +kernel
theorem dL_areWindows_403 : decode cL_areWindows 403 = .ok (.iload 6, 2) := by decide +kernel
theorem dL_areWindows_405 : decode cL_areWindows 405 = .ok (.ireturn, 1) := by decide +kernel
theorem dL_border_0 : decode cL_border 0 = .ok (.iconst 5, 1) := by decide +kernel
theorem dL_border_1 : decode cL_border 1 = .ok (.iload_n 0, 1) := by decide +kernel
theorem dL_border_2 : decode cL_border 2 = .ok (.imul, 1) := by decide +kernel
theorem dL_border_3 : decode cL_border 3 = .ok (.bipush 7, 2) := by decide +kernel
theorem dL_border_5 : decode cL_border 5 = .ok (.iload_n 1, 1) := by decide +kernel
theorem dL_border_6 : decode cL_border 6 = .ok (.imul, 1) := by decide +kernel
theorem dL_border_7 : decode cL_border 7 = .ok (.iadd, 1) := by decide +kernel
theorem dL_border_8 : decode cL_border 8 = .ok (.iload_n 2, 1) := by decide +kernel
theorem dL_border_9 : decode cL_border 9 = .ok (.iadd, 1) := by decide +kernel
theorem dL_border_10 : decode cL_border 10 = .ok (.bipush 100, 2) := by decide +kernel
theorem dL_border_12 : decode cL_border 12 = .ok (.irem, 1) := by decide +kernel
theorem dL_border_13 : decode cL_border 13 = .ok (.istore_n 3, 1) := by decide +kernel
theorem dL_border_14 : decode cL_border 14 = .ok (.iload_n 3, 1) := by decide +kernel
theorem dL_border_15 : decode cL_border 15 = .ok (.ifCond .ge 10, 3) := by decide +kernel
theorem dL_border_18 : decode cL_border 18 = .ok (.iload_n 3, 1) := by decide +kernel
theorem dL_border_19 : decode cL_border 19 = .ok (.bipush 100, 2) := by decide +kernel
theorem dL_border_21 : decode cL_border 21 = .ok (.iadd, 1) := by decide +kernel
theorem dL_border_22 : decode cL_border 22 = .ok (.goto 4, 3) := by decide +kernel
theorem dL_border_25 : decode cL_border 25 = .ok (.iload_n 3, 1) := by decide +kernel
theorem dL_border_26 : decode cL_border 26 = .ok (.ireturn, 1) := by decide +kernel
theorem dL_cellAt_0 : decode cL_cellAt 0 = .ok (.iconst 0, 1) := by decide +kernel
theorem dL_cellAt_1 : decode cL_cellAt 1 = .ok (.istore_n 3, 1) := by decide +kernel
theorem dL_cellAt_2 : decode cL_cellAt 2 = .ok (.iload_n 3, 1) := by decide +kernel
theorem dL_cellAt_3 : decode cL_cellAt 3 = .ok (.aload_n 0, 1) := by decide +kernel
theorem dL_cellAt_4 : decode cL_cellAt 4 = .ok (.iconst 2, 1) := by decide +kernel
theorem dL_cellAt_5 : decode cL_cellAt 5 = .ok (.iaload, 1) := by decide +kernel
theorem dL_cellAt_6 : decode cL_cellAt 6 = .ok (.aload_n 0, 1) := by decide +kernel
theorem dL_cellAt_7 : decode cL_cellAt 7 = .ok (.invokestatic 77, 3) := by decide +kernel
theorem dL_cellAt_10 : decode cL_cellAt 10 = .ok (.imul, 1) := by decide +kernel
theorem dL_cellAt_11 : decode cL_cellAt 11 = .ok (.if_icmp .ge 18, 3) := by decide +kernel
theorem dL_cellAt_14 : decode cL_cellAt 14 = .ok (.aload_n 1, 1) := by decide +kernel
theorem dL_cellAt_15 : decode cL_cellAt 15 = .ok (.iload_n 3, 1) := by decide +kernel
theorem dL_cellAt_16 : decode cL_cellAt 16 = .ok (.iaload, 1) := by decide +kernel
theorem dL_cellAt_17 : decode cL_cellAt 17 = .ok (.iload_n 2, 1) := by decide +kernel
theorem dL_cellAt_18 : decode cL_cellAt 18 = .ok (.if_icmp .ne 5, 3) := by decide +kernel
theorem dL_cellAt_21 : decode cL_cellAt 21 = .ok (.iload_n 3, 1) := by decide +kernel
theorem dL_cellAt_22 : decode cL_cellAt 22 = .ok (.ireturn, 1) := by decide +kernel
theorem dL_cellAt_23 : decode cL_cellAt 23 = .ok (.iinc 3 1, 3) := by decide +kernel
theorem dL_cellAt_26 : decode cL_cellAt 26 = .ok (.goto (-24), 3) := by decide +kernel
theorem dL_cellAt_29 : decode cL_cellAt 29 = .ok (.iconst 0, 1) := by decide +kernel
theorem dL_cellAt_30 : decode cL_cellAt 30 = .ok (.ireturn, 1) := by decide +kernel
theorem dL_lies_0 : decode cL_lies 0 = .ok (.aload_n 0, 1) := by decide +kernel
theorem dL_lies_1 : decode cL_lies 1 = .ok (.invokestatic 77, 3) := by decide +kernel
theorem dL_lies_4 : decode cL_lies 4 = .ok (.istore 6, 2) := by decide +kernel
theorem dL_lies_6 : decode cL_lies 6 = .ok (.iload 4, 2) := by decide +kernel
theorem dL_lies_8 : decode cL_lies 8 = .ok (.iload 6, 2) := by decide +kernel
theorem dL_lies_10 : decode cL_lies 10 = .ok (.idiv, 1) := by decide +kernel
theorem dL_lies_11 : decode cL_lies 11 = .ok (.istore 7, 2) := by decide +kernel
theorem dL_lies_13 : decode cL_lies 13 = .ok (.iconst (-1), 1) := by decide +kernel
theorem dL_lies_14 : decode cL_lies 14 = .ok (.istore 8, 2) := by decide +kernel
theorem dL_lies_16 : decode cL_lies 16 = .ok (.iload 7, 2) := by decide +kernel
theorem dL_lies_18 : decode cL_lies 18 = .ok (.iload 6, 2) := by decide +kernel
theorem dL_lies_20 : decode cL_lies 20 = .ok (.imul, 1) := by decide +kernel
theorem dL_lies_21 : decode cL_lies 21 = .ok (.istore 9, 2) := by decide +kernel
theorem dL_lies_23 : decode cL_lies 23 = .ok (.iload 9, 2) := by decide +kernel
theorem dL_lies_25 : decode cL_lies 25 = .ok (.iload 7, 2) := by decide +kernel
theorem dL_lies_27 : decode cL_lies 27 = .ok (.iload 6, 2) := by decide +kernel
theorem dL_lies_29 : decode cL_lies 29 = .ok (.imul, 1) := by decide +kernel
theorem dL_lies_30 : decode cL_lies 30 = .ok (.iload 6, 2) := by decide +kernel
theorem dL_lies_32 : decode cL_lies 32 = .ok (.iadd, 1) := by decide +kernel
theorem dL_lies_33 : decode cL_lies 33 = .ok (.if_icmp .ge 112, 3) := by decide +kernel
theorem dL_lies_36 : decode cL_lies 36 = .ok (.aload_n 0, 1) := by decide +kernel
theorem dL_lies_37 : decode cL_lies 37 = .ok (.aload_n 1, 1) := by decide +kernel
theorem dL_lies_38 : decode cL_lies 38 = .ok (.bipush 16, 2) := by decide +kernel
theorem dL_lies_40 : decode cL_lies 40 = .ok (.iload 7, 2) := by decide +kernel
theorem dL_lies_42 : decode cL_lies 42 = .ok (.iadd, 1) := by decide +kernel
theorem dL_lies_43 : decode cL_lies 43 = .ok (.iaload, 1) := by decide +kernel
theorem dL_lies_44 : decode cL_lies 44 = .ok (.aload_n 1, 1) := by decide +kernel
theorem dL_lies_45 : decode cL_lies 45 = .ok (.bipush 20, 2) := by decide +kernel
theorem dL_lies_47 : decode cL_lies 47 = .ok (.iload 7, 2) := by decide +kernel
theorem dL_lies_49 : decode cL_lies 49 = .ok (.iadd, 1) := by decide +kernel
theorem dL_lies_50 : decode cL_lies 50 = .ok (.iaload, 1) := by decide +kernel
theorem dL_lies_51 : decode cL_lies 51 = .ok (.aload_n 1, 1) := by decide +kernel
theorem dL_lies_52 : decode cL_lies 52 = .ok (.bipush 24, 2) := by decide +kernel
theorem dL_lies_54 : decode cL_lies 54 = .ok (.iload 7, 2) := by decide +kernel
theorem dL_lies_56 : decode cL_lies 56 = .ok (.iadd, 1) := by decide +kernel
theorem dL_lies_57 : decode cL_lies 57 = .ok (.iaload, 1) := by decide +kernel
theorem dL_lies_58 : decode cL_lies 58 = .ok (.iload 9, 2) := by decide +kernel
theorem dL_lies_60 : decode cL_lies 60 = .ok (.invokestatic 95, 3) := by decide +kernel
theorem dL_lies_63 : decode cL_lies 63 = .ok (.aload_n 0, 1) := by decide +kernel
theorem dL_lies_64 : decode cL_lies 64 = .ok (.aload_n 1, 1) := by decide +kernel
theorem dL_lies_65 : decode cL_lies 65 = .ok (.bipush 16, 2) := by decide +kernel
theorem dL_lies_67 : decode cL_lies 67 = .ok (.iload 7, 2) := by decide +kernel
theorem dL_lies_69 : decode cL_lies 69 = .ok (.iadd, 1) := by decide +kernel
theorem dL_lies_70 : decode cL_lies 70 = .ok (.iaload, 1) := by decide +kernel
theorem dL_lies_71 : decode cL_lies 71 = .ok (.aload_n 1, 1) := by decide +kernel
theorem dL_lies_72 : decode cL_lies 72 = .ok (.bipush 20, 2) := by decide +kernel
theorem dL_lies_74 : decode cL_lies 74 = .ok (.iload 7, 2) := by decide +kernel
theorem dL_lies_76 : decode cL_lies 76 = .ok (.iadd, 1) := by decide +kernel
theorem dL_lies_77 : decode cL_lies 77 = .ok (.iaload, 1) := by decide +kernel
theorem dL_lies_78 : decode cL_lies 78 = .ok (.aload_n 1, 1) := by decide +kernel
theorem dL_lies_79 : decode cL_lies 79 = .ok (.bipush 24, 2) := by decide +kernel
theorem dL_lies_81 : decode cL_lies 81 = .ok (.iload 7, 2) := by decide +kernel
theorem dL_lies_83 : decode cL_lies 83 = .ok (.iadd, 1) := by decide +kernel
theorem dL_lies_84 : decode cL_lies 84 = .ok (.iaload, 1) := by decide +kernel
theorem dL_lies_85 : decode cL_lies 85 = .ok (.iload 4, 2) := by decide +kernel
theorem dL_lies_87 : decode cL_lies 87 = .ok (.invokestatic 95, 3) := by decide +kernel
theorem dL_lies_90 : decode cL_lies 90 = .ok (.if_icmp .ne 7, 3) := by decide +kernel
theorem dL_lies_93 : decode cL_lies 93 = .ok (.iconst 1, 1) := by decide +kernel
theorem dL_lies_94 : decode cL_lies 94 = .ok (.goto 4, 3) := by decide +kernel
theorem dL_lies_97 : decode cL_lies 97 = .ok (.iconst 0, 1) := by decide +kernel
theorem dL_lies_98 : decode cL_lies 98 = .ok (.istore 10, 2) := by decide +kernel
theorem dL_lies_100 : decode cL_lies 100 = .ok (.iload 10, 2) := by decide +kernel
theorem dL_lies_102 : decode cL_lies 102 = .ok (.ifCond .eq 33, 3) := by decide +kernel
theorem dL_lies_105 : decode cL_lies 105 = .ok (.aload_n 2, 1) := by decide +kernel
theorem dL_lies_106 : decode cL_lies 106 = .ok (.iload 9, 2) := by decide +kernel
theorem dL_lies_108 : decode cL_lies 108 = .ok (.iaload, 1) := by decide +kernel
theorem dL_lies_109 : decode cL_lies 109 = .ok (.iload 5, 2) := by decide +kernel
theorem dL_lies_111 : decode cL_lies 111 = .ok (.if_icmp .ge 24, 3) := by decide +kernel
theorem dL_lies_114 : decode cL_lies 114 = .ok (.iload 8, 2) := by decide +kernel
theorem dL_lies_116 : decode cL_lies 116 = .ok (.ifCond .lt 14, 3) := by decide +kernel
theorem dL_lies_119 : decode cL_lies 119 = .ok (.aload_n 2, 1) := by decide +kernel
theorem dL_lies_120 : decode cL_lies 120 = .ok (.iload 9, 2) := by decide +kernel
theorem dL_lies_122 : decode cL_lies 122 = .ok (.iaload, 1) := by decide +kernel
theorem dL_lies_123 : decode cL_lies 123 = .ok (.aload_n 2, 1) := by decide +kernel
theorem dL_lies_124 : decode cL_lies 124 = .ok (.iload 8, 2) := by decide +kernel
theorem dL_lies_126 : decode cL_lies 126 = .ok (.iaload, 1) := by decide +kernel
theorem dL_lies_127 : decode cL_lies 127 = .ok (.if_icmp .le 8, 3) := by decide +kernel
theorem dL_lies_130 : decode cL_lies 130 = .ok (.iload 9, 2) := by decide +kernel
theorem dL_lies_132 : decode cL_lies 132 = .ok (.goto 5, 3) := by decide +kernel
theorem dL_lies_135 : decode cL_lies 135 = .ok (.iload 8, 2) := by decide +kernel
theorem dL_lies_137 : decode cL_lies 137 = .ok (.istore 8, 2) := by decide +kernel
theorem dL_lies_139 : decode cL_lies 139 = .ok (.iinc 9 1, 3) := by decide +kernel
theorem dL_lies_142 : decode cL_lies 142 = .ok (.goto (-119), 3) := by decide +kernel
theorem dL_lies_145 : decode cL_lies 145 = .ok (.iload 8, 2) := by decide +kernel
theorem dL_lies_147 : decode cL_lies 147 = .ok (.ifCond .ge 7, 3) := by decide +kernel
theorem dL_lies_150 : decode cL_lies 150 = .ok (.iconst 0, 1) := by decide +kernel
theorem dL_lies_151 : decode cL_lies 151 = .ok (.goto 7, 3) := by decide +kernel
theorem dL_lies_154 : decode cL_lies 154 = .ok (.aload_n 3, 1) := by decide +kernel
theorem dL_lies_155 : decode cL_lies 155 = .ok (.iload 8, 2) := by decide +kernel
theorem dL_lies_157 : decode cL_lies 157 = .ok (.iaload, 1) := by decide +kernel
theorem dL_lies_158 : decode cL_lies 158 = .ok (.ireturn, 1) := by decide +kernel
theorem dL_areValues_0 : decode cL_areValues 0 = .ok (.aload_n 1, 1) := by decide +kernel
theorem dL_areValues_1 : decode cL_areValues 1 = .ok (.invokestatic 77, 3) := by decide +kernel
theorem dL_areValues_4 : decode cL_areValues 4 = .ok (.istore 6, 2) := by decide +kernel
theorem dL_areValues_6 : decode cL_areValues 6 = .ok (.bipush 64, 2) := by decide +kernel
theorem dL_areValues_8 : decode cL_areValues 8 = .ok (.newarray .int, 2) := by decide +kernel
theorem dL_areValues_10 : decode cL_areValues 10 = .ok (.astore 7, 2) := by decide +kernel
theorem dL_areValues_12 : decode cL_areValues 12 = .ok (.bipush 64, 2) := by decide +kernel
theorem dL_areValues_14 : decode cL_areValues 14 = .ok (.newarray .int, 2) := by decide +kernel
theorem dL_areValues_16 : decode cL_areValues 16 = .ok (.astore 8, 2) := by decide +kernel
theorem dL_areValues_18 : decode cL_areValues 18 = .ok (.iconst (-1), 1) := by decide +kernel
theorem dL_areValues_19 : decode cL_areValues 19 = .ok (.istore 9, 2) := by decide +kernel
theorem dL_areValues_21 : decode cL_areValues 21 = .ok (.iconst 1, 1) := by decide +kernel
theorem dL_areValues_22 : decode cL_areValues 22 = .ok (.istore 10, 2) := by decide +kernel
theorem dL_areValues_24 : decode cL_areValues 24 = .ok (.iconst 0, 1) := by decide +kernel
theorem dL_areValues_25 : decode cL_areValues 25 = .ok (.istore 11, 2) := by decide +kernel
theorem dL_areValues_27 : decode cL_areValues 27 = .ok (.iload 11, 2) := by decide +kernel
theorem dL_areValues_29 : decode cL_areValues 29 = .ok (.aload_n 1, 1) := by decide +kernel
theorem dL_areValues_30 : decode cL_areValues 30 = .ok (.iconst 2, 1) := by decide +kernel
theorem dL_areValues_31 : decode cL_areValues 31 = .ok (.iaload, 1) := by decide +kernel
theorem dL_areValues_32 : decode cL_areValues 32 = .ok (.iload 6, 2) := by decide +kernel
theorem dL_areValues_34 : decode cL_areValues 34 = .ok (.imul, 1) := by decide +kernel
theorem dL_areValues_35 : decode cL_areValues 35 = .ok (.if_icmp .ge 362, 3) := by decide +kernel
theorem dL_areValues_38 : decode cL_areValues 38 = .ok (.aload_n 1, 1) := by decide +kernel
theorem dL_areValues_39 : decode cL_areValues 39 = .ok (.aload 4, 2) := by decide +kernel
theorem dL_areValues_41 : decode cL_areValues 41 = .ok (.iload 11, 2) := by decide +kernel
theorem dL_areValues_43 : decode cL_areValues 43 = .ok (.invokestatic 187, 3) := by decide +kernel
theorem dL_areValues_46 : decode cL_areValues 46 = .ok (.istore 12, 2) := by decide +kernel
theorem dL_areValues_48 : decode cL_areValues 48 = .ok (.iload 12, 2) := by decide +kernel
theorem dL_areValues_50 : decode cL_areValues 50 = .ok (.iload 6, 2) := by decide +kernel
theorem dL_areValues_52 : decode cL_areValues 52 = .ok (.idiv, 1) := by decide +kernel
theorem dL_areValues_53 : decode cL_areValues 53 = .ok (.istore 13, 2) := by decide +kernel
theorem dL_areValues_55 : decode cL_areValues 55 = .ok (.aload 7, 2) := by decide +kernel
theorem dL_areValues_57 : decode cL_areValues 57 = .ok (.iload 12, 2) := by decide +kernel
theorem dL_areValues_59 : decode cL_areValues 59 = .ok (.aload_n 2, 1) := by decide +kernel
theorem dL_areValues_60 : decode cL_areValues 60 = .ok (.iload 13, 2) := by decide +kernel
theorem dL_areValues_62 : decode cL_areValues 62 = .ok (.iaload, 1) := by decide +kernel
theorem dL_areValues_63 : decode cL_areValues 63 = .ok (.iastore, 1) := by decide +kernel
theorem dL_areValues_64 : decode cL_areValues 64 = .ok (.aload 8, 2) := by decide +kernel
theorem dL_areValues_66 : decode cL_areValues 66 = .ok (.iload 12, 2) := by decide +kernel
theorem dL_areValues_68 : decode cL_areValues 68 = .ok (.aload_n 2, 1) := by decide +kernel
theorem dL_areValues_69 : decode cL_areValues 69 = .ok (.iload 13, 2) := by decide +kernel
theorem dL_areValues_71 : decode cL_areValues 71 = .ok (.iaload, 1) := by decide +kernel
theorem dL_areValues_72 : decode cL_areValues 72 = .ok (.iastore, 1) := by decide +kernel
theorem dL_areValues_73 : decode cL_areValues 73 = .ok (.iconst 0, 1) := by decide +kernel
theorem dL_areValues_74 : decode cL_areValues 74 = .ok (.istore 14, 2) := by decide +kernel
theorem dL_areValues_76 : decode cL_areValues 76 = .ok (.iload 14, 2) := by decide +kernel
theorem dL_areValues_78 : decode cL_areValues 78 = .ok (.aload_n 2, 1) := by decide +kernel
theorem dL_areValues_79 : decode cL_areValues 79 = .ok (.iconst 4, 1) := by decide +kernel
theorem dL_areValues_80 : decode cL_areValues 80 = .ok (.iload 13, 2) := by decide +kernel
theorem dL_areValues_82 : decode cL_areValues 82 = .ok (.iadd, 1) := by decide +kernel
theorem dL_areValues_83 : decode cL_areValues 83 = .ok (.iaload, 1) := by decide +kernel
theorem dL_areValues_84 : decode cL_areValues 84 = .ok (.if_icmp .ge 171, 3) := by decide +kernel
theorem dL_areValues_87 : decode cL_areValues 87 = .ok (.aload_n 3, 1) := by decide +kernel
theorem dL_areValues_88 : decode cL_areValues 88 = .ok (.iconst 4, 1) := by decide +kernel
theorem dL_areValues_89 : decode cL_areValues 89 = .ok (.iload 13, 2) := by decide +kernel
theorem dL_areValues_91 : decode cL_areValues 91 = .ok (.imul, 1) := by decide +kernel
theorem dL_areValues_92 : decode cL_areValues 92 = .ok (.iload 14, 2) := by decide +kernel
theorem dL_areValues_94 : decode cL_areValues 94 = .ok (.iadd, 1) := by decide +kernel
theorem dL_areValues_95 : decode cL_areValues 95 = .ok (.iaload, 1) := by decide +kernel
theorem dL_areValues_96 : decode cL_areValues 96 = .ok (.istore 15, 2) := by decide +kernel
theorem dL_areValues_98 : decode cL_areValues 98 = .ok (.aload_n 1, 1) := by decide +kernel
theorem dL_areValues_99 : decode cL_areValues 99 = .ok (.iload 15, 2) := by decide +kernel
theorem dL_areValues_101 : decode cL_areValues 101 = .ok (.iload 12, 2) := by decide +kernel
theorem dL_areValues_103 : decode cL_areValues 103 = .ok (.invokestatic 87, 3) := by decide +kernel
theorem dL_areValues_106 : decode cL_areValues 106 = .ok (.istore 16, 2) := by decide +kernel
theorem dL_areValues_108 : decode cL_areValues 108 = .ok (.iload 12, 2) := by decide +kernel
theorem dL_areValues_110 : decode cL_areValues 110 = .ok (.iload 6, 2) := by decide +kernel
theorem dL_areValues_112 : decode cL_areValues 112 = .ok (.irem, 1) := by decide +kernel
theorem dL_areValues_113 : decode cL_areValues 113 = .ok (.aload_n 1, 1) := by decide +kernel
theorem dL_areValues_114 : decode cL_areValues 114 = .ok (.iconst 1, 1) := by decide +kernel
theorem dL_areValues_115 : decode cL_areValues 115 = .ok (.iaload, 1) := by decide +kernel
theorem dL_areValues_116 : decode cL_areValues 116 = .ok (.idiv, 1) := by decide +kernel
theorem dL_areValues_117 : decode cL_areValues 117 = .ok (.iload 15, 2) := by decide +kernel
theorem dL_areValues_119 : decode cL_areValues 119 = .ok (.sipush 128, 3) := by decide +kernel
theorem dL_areValues_122 : decode cL_areValues 122 = .ok (.idiv, 1) := by decide +kernel
theorem dL_areValues_123 : decode cL_areValues 123 = .ok (.bipush 8, 2) := by decide +kernel
theorem dL_areValues_125 : decode cL_areValues 125 = .ok (.irem, 1) := by decide +kernel
theorem dL_areValues_126 : decode cL_areValues 126 = .ok (.isub, 1) := by decide +kernel
theorem dL_areValues_127 : decode cL_areValues 127 = .ok (.iload 12, 2) := by decide +kernel
theorem dL_areValues_129 : decode cL_areValues 129 = .ok (.iload 6, 2) := by decide +kernel
theorem dL_areValues_131 : decode cL_areValues 131 = .ok (.irem, 1) := by decide +kernel
theorem dL_areValues_132 : decode cL_areValues 132 = .ok (.aload_n 1, 1) := by decide +kernel
theorem dL_areValues_133 : decode cL_areValues 133 = .ok (.iconst 1, 1) := by decide +kernel
theorem dL_areValues_134 : decode cL_areValues 134 = .ok (.iaload, 1) := by decide +kernel
theorem dL_areValues_135 : decode cL_areValues 135 = .ok (.irem, 1) := by decide +kernel
theorem dL_areValues_136 : decode cL_areValues 136 = .ok (.iload 15, 2) := by decide +kernel
theorem dL_areValues_138 : decode cL_areValues 138 = .ok (.sipush 1024, 3) := by decide +kernel
theorem dL_areValues_141 : decode cL_areValues 141 = .ok (.idiv, 1) := by decide +kernel
theorem dL_areValues_142 : decode cL_areValues 142 = .ok (.iconst 3, 1) := by decide +kernel
theorem dL_areValues_143 : decode cL_areValues 143 = .ok (.isub, 1) := by decide +kernel
theorem dL_areValues_144 : decode cL_areValues 144 = .ok (.isub, 1) := by decide +kernel
theorem dL_areValues_145 : decode cL_areValues 145 = .ok (.iload 15, 2) := by decide +kernel
theorem dL_areValues_147 : decode cL_areValues 147 = .ok (.bipush 8, 2) := by decide +kernel
theorem dL_areValues_149 : decode cL_areValues 149 = .ok (.irem, 1) := by decide +kernel
theorem dL_areValues_150 : decode cL_areValues 150 = .ok (.invokestatic 190, 3) := by decide +kernel
theorem dL_areValues_153 : decode cL_areValues 153 = .ok (.istore 17, 2) := by decide +kernel
theorem dL_areValues_155 : decode cL_areValues 155 = .ok (.iload 16, 2) := by decide +kernel
theorem dL_areValues_157 : decode cL_areValues 157 = .ok (.ifCond .ge 8, 3) := by decide +kernel
theorem dL_areValues_160 : decode cL_areValues 160 = .ok (.iload 17, 2) := by decide +kernel
theorem dL_areValues_162 : decode cL_areValues 162 = .ok (.goto 22, 3) := by decide +kernel
theorem dL_areValues_165 : decode cL_areValues 165 = .ok (.aload 4, 2) := by decide +kernel
theorem dL_areValues_167 : decode cL_areValues 167 = .ok (.iload 16, 2) := by decide +kernel
theorem dL_areValues_169 : decode cL_areValues 169 = .ok (.iaload, 1) := by decide +kernel
theorem dL_areValues_170 : decode cL_areValues 170 = .ok (.iload 11, 2) := by decide +kernel
theorem dL_areValues_172 : decode cL_areValues 172 = .ok (.if_icmp .ge 11, 3) := by decide +kernel
theorem dL_areValues_175 : decode cL_areValues 175 = .ok (.aload 7, 2) := by decide +kernel
theorem dL_areValues_177 : decode cL_areValues 177 = .ok (.iload 16, 2) := by decide +kernel
theorem dL_areValues_179 : decode cL_areValues 179 = .ok (.iaload, 1) := by decide +kernel
theorem dL_areValues_180 : decode cL_areValues 180 = .ok (.goto 4, 3) := by decide +kernel
theorem dL_areValues_183 : decode cL_areValues 183 = .ok (.iconst 0, 1) := by decide +kernel
theorem dL_areValues_184 : decode cL_areValues 184 = .ok (.istore 18, 2) := by decide +kernel
theorem dL_areValues_186 : decode cL_areValues 186 = .ok (.iload 16, 2) := by decide +kernel
theorem dL_areValues_188 : decode cL_areValues 188 = .ok (.ifCond .ge 8, 3) := by decide +kernel
theorem dL_areValues_191 : decode cL_areValues 191 = .ok (.iload 17, 2) := by decide +kernel
theorem dL_areValues_193 : decode cL_areValues 193 = .ok (.goto 16, 3) := by decide +kernel
theorem dL_areValues_196 : decode cL_areValues 196 = .ok (.aload_n 1, 1) := by decide +kernel
theorem dL_areValues_197 : decode cL_areValues 197 = .ok (.aload_n 2, 1) := by decide +kernel
theorem dL_areValues_198 : decode cL_areValues 198 = .ok (.aload 4, 2) := by decide +kernel
theorem dL_areValues_200 : decode cL_areValues 200 = .ok (.aload 8, 2) := by decide +kernel
theorem dL_areValues_202 : decode cL_areValues 202 = .ok (.iload 16, 2) := by decide +kernel
theorem dL_areValues_204 : decode cL_areValues 204 = .ok (.iload 11, 2) := by decide +kernel
theorem dL_areValues_206 : decode cL_areValues 206 = .ok (.invokestatic 193, 3) := by decide +kernel
theorem dL_areValues_209 : decode cL_areValues 209 = .ok (.istore 19, 2) := by decide +kernel
theorem dL_areValues_211 : decode cL_areValues 211 = .ok (.aload 7, 2) := by decide +kernel
theorem dL_areValues_213 : decode cL_areValues 213 = .ok (.iload 12, 2) := by decide +kernel
theorem dL_areValues_215 : decode cL_areValues 215 = .ok (.dup2, 1) := by decide +kernel
theorem dL_areValues_216 : decode cL_areValues 216 = .ok (.iaload, 1) := by decide +kernel
theorem dL_areValues_217 : decode cL_areValues 217 = .ok (.iload 15, 2) := by decide +kernel
theorem dL_areValues_219 : decode cL_areValues 219 = .ok (.bipush 8, 2) := by decide +kernel
theorem dL_areValues_221 : decode cL_areValues 221 = .ok (.idiv, 1) := by decide +kernel
theorem dL_areValues_222 : decode cL_areValues 222 = .ok (.bipush 16, 2) := by decide +kernel
theorem dL_areValues_224 : decode cL_areValues 224 = .ok (.irem, 1) := by decide +kernel
theorem dL_areValues_225 : decode cL_areValues 225 = .ok (.iload 18, 2) := by decide +kernel
theorem dL_areValues_227 : decode cL_areValues 227 = .ok (.imul, 1) := by decide +kernel
theorem dL_areValues_228 : decode cL_areValues 228 = .ok (.iadd, 1) := by decide +kernel
theorem dL_areValues_229 : decode cL_areValues 229 = .ok (.iastore, 1) := by decide +kernel
theorem dL_areValues_230 : decode cL_areValues 230 = .ok (.aload 8, 2) := by decide +kernel
theorem dL_areValues_232 : decode cL_areValues 232 = .ok (.iload 12, 2) := by decide +kernel
theorem dL_areValues_234 : decode cL_areValues 234 = .ok (.dup2, 1) := by decide +kernel
theorem dL_areValues_235 : decode cL_areValues 235 = .ok (.iaload, 1) := by decide +kernel
theorem dL_areValues_236 : decode cL_areValues 236 = .ok (.iload 15, 2) := by decide +kernel
theorem dL_areValues_238 : decode cL_areValues 238 = .ok (.bipush 8, 2) := by decide +kernel
theorem dL_areValues_240 : decode cL_areValues 240 = .ok (.idiv, 1) := by decide +kernel
theorem dL_areValues_241 : decode cL_areValues 241 = .ok (.bipush 16, 2) := by decide +kernel
theorem dL_areValues_243 : decode cL_areValues 243 = .ok (.irem, 1) := by decide +kernel
theorem dL_areValues_244 : decode cL_areValues 244 = .ok (.iload 19, 2) := by decide +kernel
theorem dL_areValues_246 : decode cL_areValues 246 = .ok (.imul, 1) := by decide +kernel
theorem dL_areValues_247 : decode cL_areValues 247 = .ok (.iadd, 1) := by decide +kernel
theorem dL_areValues_248 : decode cL_areValues 248 = .ok (.iastore, 1) := by decide +kernel
theorem dL_areValues_249 : decode cL_areValues 249 = .ok (.iinc 14 1, 3) := by decide +kernel
theorem dL_areValues_252 : decode cL_areValues 252 = .ok (.goto (-176), 3) := by decide +kernel
theorem dL_areValues_255 : decode cL_areValues 255 = .ok (.aload 7, 2) := by decide +kernel
theorem dL_areValues_257 : decode cL_areValues 257 = .ok (.iload 12, 2) := by decide +kernel
theorem dL_areValues_259 : decode cL_areValues 259 = .ok (.dup2, 1) := by decide +kernel
theorem dL_areValues_260 : decode cL_areValues 260 = .ok (.iaload, 1) := by decide +kernel
theorem dL_areValues_261 : decode cL_areValues 261 = .ok (.sipush 9973, 3) := by decide +kernel
theorem dL_areValues_264 : decode cL_areValues 264 = .ok (.irem, 1) := by decide +kernel
theorem dL_areValues_265 : decode cL_areValues 265 = .ok (.iastore, 1) := by decide +kernel
theorem dL_areValues_266 : decode cL_areValues 266 = .ok (.aload 8, 2) := by decide +kernel
theorem dL_areValues_268 : decode cL_areValues 268 = .ok (.iload 12, 2) := by decide +kernel
theorem dL_areValues_270 : decode cL_areValues 270 = .ok (.dup2, 1) := by decide +kernel
theorem dL_areValues_271 : decode cL_areValues 271 = .ok (.iaload, 1) := by decide +kernel
theorem dL_areValues_272 : decode cL_areValues 272 = .ok (.sipush 9973, 3) := by decide +kernel
theorem dL_areValues_275 : decode cL_areValues 275 = .ok (.irem, 1) := by decide +kernel
theorem dL_areValues_276 : decode cL_areValues 276 = .ok (.iastore, 1) := by decide +kernel
theorem dL_areValues_277 : decode cL_areValues 277 = .ok (.iload 9, 2) := by decide +kernel
theorem dL_areValues_279 : decode cL_areValues 279 = .ok (.ifCond .ge 21, 3) := by decide +kernel
theorem dL_areValues_282 : decode cL_areValues 282 = .ok (.aload 7, 2) := by decide +kernel
theorem dL_areValues_284 : decode cL_areValues 284 = .ok (.iload 12, 2) := by decide +kernel
theorem dL_areValues_286 : decode cL_areValues 286 = .ok (.iaload, 1) := by decide +kernel
theorem dL_areValues_287 : decode cL_areValues 287 = .ok (.aload 8, 2) := by decide +kernel
theorem dL_areValues_289 : decode cL_areValues 289 = .ok (.iload 12, 2) := by decide +kernel
theorem dL_areValues_291 : decode cL_areValues 291 = .ok (.iaload, 1) := by decide +kernel
theorem dL_areValues_292 : decode cL_areValues 292 = .ok (.if_icmp .eq 8, 3) := by decide +kernel
theorem dL_areValues_295 : decode cL_areValues 295 = .ok (.iload 11, 2) := by decide +kernel
theorem dL_areValues_297 : decode cL_areValues 297 = .ok (.goto 5, 3) := by decide +kernel
theorem dL_areValues_300 : decode cL_areValues 300 = .ok (.iload 9, 2) := by decide +kernel
theorem dL_areValues_302 : decode cL_areValues 302 = .ok (.istore 9, 2) := by decide +kernel
theorem dL_areValues_304 : decode cL_areValues 304 = .ok (.iload 10, 2) := by decide +kernel
theorem dL_areValues_306 : decode cL_areValues 306 = .ok (.ifCond .eq 82, 3) := by decide +kernel
theorem dL_areValues_309 : decode cL_areValues 309 = .ok (.iload 12, 2) := by decide +kernel
theorem dL_areValues_311 : decode cL_areValues 311 = .ok (.iconst 4, 1) := by decide +kernel
theorem dL_areValues_312 : decode cL_areValues 312 = .ok (.irem, 1) := by decide +kernel
theorem dL_areValues_313 : decode cL_areValues 313 = .ok (.iload 5, 2) := by decide +kernel
theorem dL_areValues_315 : decode cL_areValues 315 = .ok (.iconst 4, 1) := by decide +kernel
theorem dL_areValues_316 : decode cL_areValues 316 = .ok (.irem, 1) := by decide +kernel
theorem dL_areValues_317 : decode cL_areValues 317 = .ok (.if_icmp .ne 67, 3) := by decide +kernel
theorem dL_areValues_320 : decode cL_areValues 320 = .ok (.aload_n 0, 1) := by decide +kernel
theorem dL_areValues_321 : decode cL_areValues 321 = .ok (.iload 13, 2) := by decide +kernel
theorem dL_areValues_323 : decode cL_areValues 323 = .ok (.iload 12, 2) := by decide +kernel
theorem dL_areValues_325 : decode cL_areValues 325 = .ok (.iload 6, 2) := by decide +kernel
theorem dL_areValues_327 : decode cL_areValues 327 = .ok (.irem, 1) := by decide +kernel
theorem dL_areValues_328 : decode cL_areValues 328 = .ok (.aload_n 1, 1) := by decide +kernel
theorem dL_areValues_329 : decode cL_areValues 329 = .ok (.iconst 1, 1) := by decide +kernel
theorem dL_areValues_330 : decode cL_areValues 330 = .ok (.iaload, 1) := by decide +kernel
theorem dL_areValues_331 : decode cL_areValues 331 = .ok (.idiv, 1) := by decide +kernel
theorem dL_areValues_332 : decode cL_areValues 332 = .ok (.iload 12, 2) := by decide +kernel
theorem dL_areValues_334 : decode cL_areValues 334 = .ok (.iload 6, 2) := by decide +kernel
theorem dL_areValues_336 : decode cL_areValues 336 = .ok (.irem, 1) := by decide +kernel
theorem dL_areValues_337 : decode cL_areValues 337 = .ok (.aload_n 1, 1) := by decide +kernel
theorem dL_areValues_338 : decode cL_areValues 338 = .ok (.iconst 1, 1) := by decide +kernel
theorem dL_areValues_339 : decode cL_areValues 339 = .ok (.iaload, 1) := by decide +kernel
theorem dL_areValues_340 : decode cL_areValues 340 = .ok (.irem, 1) := by decide +kernel
theorem dL_areValues_341 : decode cL_areValues 341 = .ok (.invokevirtual 197, 3) := by decide +kernel
theorem dL_areValues_344 : decode cL_areValues 344 = .ok (.aload 7, 2) := by decide +kernel
theorem dL_areValues_346 : decode cL_areValues 346 = .ok (.iload 12, 2) := by decide +kernel
theorem dL_areValues_348 : decode cL_areValues 348 = .ok (.iaload, 1) := by decide +kernel
theorem dL_areValues_349 : decode cL_areValues 349 = .ok (.if_icmp .ne 39, 3) := by decide +kernel
theorem dL_areValues_352 : decode cL_areValues 352 = .ok (.aload_n 0, 1) := by decide +kernel
theorem dL_areValues_353 : decode cL_areValues 353 = .ok (.iload 13, 2) := by decide +kernel
theorem dL_areValues_355 : decode cL_areValues 355 = .ok (.iload 12, 2) := by decide +kernel
theorem dL_areValues_357 : decode cL_areValues 357 = .ok (.iload 6, 2) := by decide +kernel
theorem dL_areValues_359 : decode cL_areValues 359 = .ok (.irem, 1) := by decide +kernel
theorem dL_areValues_360 : decode cL_areValues 360 = .ok (.aload_n 1, 1) := by decide +kernel
theorem dL_areValues_361 : decode cL_areValues 361 = .ok (.iconst 1, 1) := by decide +kernel
theorem dL_areValues_362 : decode cL_areValues 362 = .ok (.iaload, 1) := by decide +kernel
theorem dL_areValues_363 : decode cL_areValues 363 = .ok (.idiv, 1) := by decide +kernel
theorem dL_areValues_364 : decode cL_areValues 364 = .ok (.iload 12, 2) := by decide +kernel
theorem dL_areValues_366 : decode cL_areValues 366 = .ok (.iload 6, 2) := by decide +kernel
theorem dL_areValues_368 : decode cL_areValues 368 = .ok (.irem, 1) := by decide +kernel
theorem dL_areValues_369 : decode cL_areValues 369 = .ok (.aload_n 1, 1) := by decide +kernel
theorem dL_areValues_370 : decode cL_areValues 370 = .ok (.iconst 1, 1) := by decide +kernel
theorem dL_areValues_371 : decode cL_areValues 371 = .ok (.iaload, 1) := by decide +kernel
theorem dL_areValues_372 : decode cL_areValues 372 = .ok (.irem, 1) := by decide +kernel
theorem dL_areValues_373 : decode cL_areValues 373 = .ok (.invokevirtual 200, 3) := by decide +kernel
theorem dL_areValues_376 : decode cL_areValues 376 = .ok (.aload 8, 2) := by decide +kernel
theorem dL_areValues_378 : decode cL_areValues 378 = .ok (.iload 12, 2) := by decide +kernel
theorem dL_areValues_380 : decode cL_areValues 380 = .ok (.iaload, 1) := by decide +kernel
theorem dL_areValues_381 : decode cL_areValues 381 = .ok (.if_icmp .ne 7, 3) := by decide +kernel
theorem dL_areValues_384 : decode cL_areValues 384 = .ok (.iconst 1, 1) := by decide +kernel
theorem dL_areValues_385 : decode cL_areValues 385 = .ok (.goto 4, 3) := by decide +kernel
theorem dL_areValues_388 : decode cL_areValues 388 = .ok (.iconst 0, 1) := by decide +kernel
theorem dL_areValues_389 : decode cL_areValues 389 = .ok (.istore 10, 2) := by decide +kernel
theorem dL_areValues_391 : decode cL_areValues 391 = .ok (.iinc 11 1, 3) := by decide +kernel
theorem dL_areValues_394 : decode cL_areValues 394 = .ok (.goto (-367), 3) := by decide +kernel
theorem dL_areValues_397 : decode cL_areValues 397 = .ok (.iload 10, 2) := by decide +kernel
theorem dL_areValues_399 : decode cL_areValues 399 = .ok (.ifCond .eq 16, 3) := by decide +kernel
theorem dL_areValues_402 : decode cL_areValues 402 = .ok (.aload_n 0, 1) := by decide +kernel
theorem dL_areValues_403 : decode cL_areValues 403 = .ok (.invokevirtual 203, 3) := by decide +kernel
theorem dL_areValues_406 : decode cL_areValues 406 = .ok (.iload 9, 2) := by decide +kernel
theorem dL_areValues_408 : decode cL_areValues 408 = .ok (.if_icmp .ne 7, 3) := by decide +kernel
theorem dL_areValues_411 : decode cL_areValues 411 = .ok (.iconst 1, 1) := by decide +kernel
theorem dL_areValues_412 : decode cL_areValues 412 = .ok (.goto 4, 3) := by decide +kernel
theorem dL_areValues_415 : decode cL_areValues 415 = .ok (.iconst 0, 1) := by decide +kernel
theorem dL_areValues_416 : decode cL_areValues 416 = .ok (.ireturn, 1) := by decide +kernel
theorem dL_isBest_0 : decode cL_isBest 0 = .ok (.iconst 5, 1) := by decide +kernel
theorem dL_isBest_1 : decode cL_isBest 1 = .ok (.newarray .int, 2) := by decide +kernel
theorem dL_isBest_3 : decode cL_isBest 3 = .ok (.astore 4, 2) := by decide +kernel
theorem dL_isBest_5 : decode cL_isBest 5 = .ok (.bipush 64, 2) := by decide +kernel
theorem dL_isBest_7 : decode cL_isBest 7 = .ok (.newarray .int, 2) := by decide +kernel
theorem dL_isBest_9 : decode cL_isBest 9 = .ok (.astore 5, 2) := by decide +kernel
theorem dL_isBest_11 : decode cL_isBest 11 = .ok (.bipush 64, 2) := by decide +kernel
theorem dL_isBest_13 : decode cL_isBest 13 = .ok (.newarray .int, 2) := by decide +kernel
theorem dL_isBest_15 : decode cL_isBest 15 = .ok (.astore 6, 2) := by decide +kernel
theorem dL_isBest_17 : decode cL_isBest 17 = .ok (.sipush (-1000), 3) := by decide +kernel
theorem dL_isBest_20 : decode cL_isBest 20 = .ok (.istore 7, 2) := by decide +kernel
theorem dL_isBest_22 : decode cL_isBest 22 = .ok (.sipush (-1000), 3) := by decide +kernel
theorem dL_isBest_25 : decode cL_isBest 25 = .ok (.istore 8, 2) := by decide +kernel
theorem dL_isBest_27 : decode cL_isBest 27 = .ok (.iconst 0, 1) := by decide +kernel
theorem dL_isBest_28 : decode cL_isBest 28 = .ok (.istore 9, 2) := by decide +kernel
theorem dL_isBest_30 : decode cL_isBest 30 = .ok (.iload 9, 2) := by decide +kernel
theorem dL_isBest_32 : decode cL_isBest 32 = .ok (.iconst 3, 1) := by decide +kernel
theorem dL_isBest_33 : decode cL_isBest 33 = .ok (.if_icmp .ge 18, 3) := by decide +kernel
theorem dL_isBest_36 : decode cL_isBest 36 = .ok (.aload 4, 2) := by decide +kernel
theorem dL_isBest_38 : decode cL_isBest 38 = .ok (.iload 9, 2) := by decide +kernel
theorem dL_isBest_40 : decode cL_isBest 40 = .ok (.aload_n 1, 1) := by decide +kernel
theorem dL_isBest_41 : decode cL_isBest 41 = .ok (.iload 9, 2) := by decide +kernel
theorem dL_isBest_43 : decode cL_isBest 43 = .ok (.iaload, 1) := by decide +kernel
theorem dL_isBest_44 : decode cL_isBest 44 = .ok (.iastore, 1) := by decide +kernel
theorem dL_isBest_45 : decode cL_isBest 45 = .ok (.iinc 9 1, 3) := by decide +kernel
theorem dL_isBest_48 : decode cL_isBest 48 = .ok (.goto (-18), 3) := by decide +kernel
theorem dL_isBest_51 : decode cL_isBest 51 = .ok (.iconst 0, 1) := by decide +kernel
theorem dL_isBest_52 : decode cL_isBest 52 = .ok (.istore 9, 2) := by decide +kernel
theorem dL_isBest_54 : decode cL_isBest 54 = .ok (.iload 9, 2) := by decide +kernel
theorem dL_isBest_56 : decode cL_isBest 56 = .ok (.bipush 16, 2) := by decide +kernel
theorem dL_isBest_58 : decode cL_isBest 58 = .ok (.if_icmp .ge 134, 3) := by decide +kernel
theorem dL_isBest_61 : decode cL_isBest 61 = .ok (.aload 4, 2) := by decide +kernel
theorem dL_isBest_63 : decode cL_isBest 63 = .ok (.iconst 3, 1) := by decide +kernel
theorem dL_isBest_64 : decode cL_isBest 64 = .ok (.iload 9, 2) := by decide +kernel
theorem dL_isBest_66 : decode cL_isBest 66 = .ok (.iconst 4, 1) := by decide +kernel
theorem dL_isBest_67 : decode cL_isBest 67 = .ok (.idiv, 1) := by decide +kernel
theorem dL_isBest_68 : decode cL_isBest 68 = .ok (.iastore, 1) := by decide +kernel
theorem dL_isBest_69 : decode cL_isBest 69 = .ok (.aload 4, 2) := by decide +kernel
theorem dL_isBest_71 : decode cL_isBest 71 = .ok (.iconst 4, 1) := by decide +kernel
theorem dL_isBest_72 : decode cL_isBest 72 = .ok (.iload 9, 2) := by decide +kernel
theorem dL_isBest_74 : decode cL_isBest 74 = .ok (.iconst 4, 1) := by decide +kernel
theorem dL_isBest_75 : decode cL_isBest 75 = .ok (.irem, 1) := by decide +kernel
theorem dL_isBest_76 : decode cL_isBest 76 = .ok (.iastore, 1) := by decide +kernel
theorem dL_isBest_77 : decode cL_isBest 77 = .ok (.aload 4, 2) := by decide +kernel
theorem dL_isBest_79 : decode cL_isBest 79 = .ok (.aload_n 2, 1) := by decide +kernel
theorem dL_isBest_80 : decode cL_isBest 80 = .ok (.aload 5, 2) := by decide +kernel
theorem dL_isBest_82 : decode cL_isBest 82 = .ok (.invokestatic 206, 3) := by decide +kernel
theorem dL_isBest_85 : decode cL_isBest 85 = .ok (.aload 4, 2) := by decide +kernel
theorem dL_isBest_87 : decode cL_isBest 87 = .ok (.aload_n 2, 1) := by decide +kernel
theorem dL_isBest_88 : decode cL_isBest 88 = .ok (.aload_n 3, 1) := by decide +kernel
theorem dL_isBest_89 : decode cL_isBest 89 = .ok (.aload 5, 2) := by decide +kernel
theorem dL_isBest_91 : decode cL_isBest 91 = .ok (.invokestatic 114, 3) := by decide +kernel
theorem dL_isBest_94 : decode cL_isBest 94 = .ok (.ifCond .eq 92, 3) := by decide +kernel
theorem dL_isBest_97 : decode cL_isBest 97 = .ok (.aload 4, 2) := by decide +kernel
theorem dL_isBest_99 : decode cL_isBest 99 = .ok (.aload_n 2, 1) := by decide +kernel
theorem dL_isBest_100 : decode cL_isBest 100 = .ok (.aload_n 3, 1) := by decide +kernel
theorem dL_isBest_101 : decode cL_isBest 101 = .ok (.aload 5, 2) := by decide +kernel
theorem dL_isBest_103 : decode cL_isBest 103 = .ok (.aload 6, 2) := by decide +kernel
theorem dL_isBest_105 : decode cL_isBest 105 = .ok (.invokestatic 209, 3) := by decide +kernel
theorem dL_isBest_108 : decode cL_isBest 108 = .ok (.iconst 0, 1) := by decide +kernel
theorem dL_isBest_109 : decode cL_isBest 109 = .ok (.istore 10, 2) := by decide +kernel
theorem dL_isBest_111 : decode cL_isBest 111 = .ok (.iconst 0, 1) := by decide +kernel
theorem dL_isBest_112 : decode cL_isBest 112 = .ok (.istore 11, 2) := by decide +kernel
theorem dL_isBest_114 : decode cL_isBest 114 = .ok (.iload 11, 2) := by decide +kernel
theorem dL_isBest_116 : decode cL_isBest 116 = .ok (.aload_n 1, 1) := by decide +kernel
theorem dL_isBest_117 : decode cL_isBest 117 = .ok (.iconst 2, 1) := by decide +kernel
theorem dL_isBest_118 : decode cL_isBest 118 = .ok (.iaload, 1) := by decide +kernel
theorem dL_isBest_119 : decode cL_isBest 119 = .ok (.if_icmp .ge 25, 3) := by decide +kernel
theorem dL_isBest_122 : decode cL_isBest 122 = .ok (.iload 10, 2) := by decide +kernel
theorem dL_isBest_124 : decode cL_isBest 124 = .ok (.aload 4, 2) := by decide +kernel
theorem dL_isBest_126 : decode cL_isBest 126 = .ok (.aload 5, 2) := by decide +kernel
theorem dL_isBest_128 : decode cL_isBest 128 = .ok (.aload 6, 2) := by decide +kernel
theorem dL_isBest_130 : decode cL_isBest 130 = .ok (.iload 11, 2) := by decide +kernel
theorem dL_isBest_132 : decode cL_isBest 132 = .ok (.invokestatic 155, 3) := by decide +kernel
theorem dL_isBest_135 : decode cL_isBest 135 = .ok (.iadd, 1) := by decide +kernel
theorem dL_isBest_136 : decode cL_isBest 136 = .ok (.istore 10, 2) := by decide +kernel
theorem dL_isBest_138 : decode cL_isBest 138 = .ok (.iinc 11 1, 3) := by decide +kernel
theorem dL_isBest_141 : decode cL_isBest 141 = .ok (.goto (-27), 3) := by decide +kernel
theorem dL_isBest_144 : decode cL_isBest 144 = .ok (.iload 7, 2) := by decide +kernel
theorem dL_isBest_146 : decode cL_isBest 146 = .ok (.ifCond .lt 10, 3) := by decide +kernel
theorem dL_isBest_149 : decode cL_isBest 149 = .ok (.iload 10, 2) := by decide +kernel
theorem dL_isBest_151 : decode cL_isBest 151 = .ok (.iload 7, 2) := by decide +kernel
theorem dL_isBest_153 : decode cL_isBest 153 = .ok (.if_icmp .ge 8, 3) := by decide +kernel
theorem dL_isBest_156 : decode cL_isBest 156 = .ok (.iload 9, 2) := by decide +kernel
theorem dL_isBest_158 : decode cL_isBest 158 = .ok (.goto 5, 3) := by decide +kernel
theorem dL_isBest_161 : decode cL_isBest 161 = .ok (.iload 8, 2) := by decide +kernel
theorem dL_isBest_163 : decode cL_isBest 163 = .ok (.istore 8, 2) := by decide +kernel
theorem dL_isBest_165 : decode cL_isBest 165 = .ok (.iload 7, 2) := by decide +kernel
theorem dL_isBest_167 : decode cL_isBest 167 = .ok (.ifCond .lt 10, 3) := by decide +kernel
theorem dL_isBest_170 : decode cL_isBest 170 = .ok (.iload 10, 2) := by decide +kernel
theorem dL_isBest_172 : decode cL_isBest 172 = .ok (.iload 7, 2) := by decide +kernel
theorem dL_isBest_174 : decode cL_isBest 174 = .ok (.if_icmp .ge 8, 3) := by decide +kernel
theorem dL_isBest_177 : decode cL_isBest 177 = .ok (.iload 10, 2) := by decide +kernel
theorem dL_isBest_179 : decode cL_isBest 179 = .ok (.goto 5, 3) := by decide +kernel
theorem dL_isBest_182 : decode cL_isBest 182 = .ok (.iload 7, 2) := by decide +kernel
theorem dL_isBest_184 : decode cL_isBest 184 = .ok (.istore 7, 2) := by decide +kernel
theorem dL_isBest_186 : decode cL_isBest 186 = .ok (.iinc 9 1, 3) := by decide +kernel
theorem dL_isBest_189 : decode cL_isBest 189 = .ok (.goto (-135), 3) := by decide +kernel
theorem dL_isBest_192 : decode cL_isBest 192 = .ok (.aload_n 0, 1) := by decide +kernel
theorem dL_isBest_193 : decode cL_isBest 193 = .ok (.bipush 10, 2) := by decide +kernel
theorem dL_isBest_195 : decode cL_isBest 195 = .ok (.iconst 0, 1) := by decide +kernel
theorem dL_isBest_196 : decode cL_isBest 196 = .ok (.iconst 0, 1) := by decide +kernel
theorem dL_isBest_197 : decode cL_isBest 197 = .ok (.iconst 0, 1) := by decide +kernel
theorem dL_isBest_198 : decode cL_isBest 198 = .ok (.iconst 0, 1) := by decide +kernel
theorem dL_isBest_199 : decode cL_isBest 199 = .ok (.iconst 0, 1) := by decide +kernel
theorem dL_isBest_200 : decode cL_isBest 200 = .ok (.invokestatic 117, 3) := by decide +kernel
theorem dL_isBest_203 : decode cL_isBest 203 = .ok (.iload 7, 2) := by decide +kernel
