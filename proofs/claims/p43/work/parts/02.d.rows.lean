theorem dL_law_0 : decode cL_law 0 = .ok (.new 11, 3) := by decide +kernel
theorem dL_law_3 : decode cL_law 3 = .ok (.dup, 1) := by decide +kernel
theorem dL_law_4 : decode cL_law 4 = .ok (.invokespecial 144, 3) := by decide +kernel
theorem dL_law_7 : decode cL_law 7 = .ok (.astore_n 1, 1) := by decide +kernel
theorem dL_law_8 : decode cL_law 8 = .ok (.bipush 60, 2) := by decide +kernel
theorem dL_law_10 : decode cL_law 10 = .ok (.newarray .int, 2) := by decide +kernel
theorem dL_law_12 : decode cL_law 12 = .ok (.astore_n 2, 1) := by decide +kernel
theorem dL_law_13 : decode cL_law 13 = .ok (.bipush 36, 2) := by decide +kernel
theorem dL_law_15 : decode cL_law 15 = .ok (.newarray .int, 2) := by decide +kernel
theorem dL_law_17 : decode cL_law 17 = .ok (.astore_n 3, 1) := by decide +kernel
theorem dL_law_18 : decode cL_law 18 = .ok (.bipush 60, 2) := by decide +kernel
theorem dL_law_20 : decode cL_law 20 = .ok (.newarray .int, 2) := by decide +kernel
theorem dL_law_22 : decode cL_law 22 = .ok (.astore 4, 2) := by decide +kernel
theorem dL_law_24 : decode cL_law 24 = .ok (.bipush 36, 2) := by decide +kernel
theorem dL_law_26 : decode cL_law 26 = .ok (.newarray .int, 2) := by decide +kernel
theorem dL_law_28 : decode cL_law 28 = .ok (.astore 5, 2) := by decide +kernel
theorem dL_law_30 : decode cL_law 30 = .ok (.bipush 12, 2) := by decide +kernel
theorem dL_law_32 : decode cL_law 32 = .ok (.newarray .int, 2) := by decide +kernel
theorem dL_law_34 : decode cL_law 34 = .ok (.astore 6, 2) := by decide +kernel
theorem dL_law_36 : decode cL_law 36 = .ok (.iconst 0, 1) := by decide +kernel
theorem dL_law_37 : decode cL_law 37 = .ok (.istore 7, 2) := by decide +kernel
theorem dL_law_39 : decode cL_law 39 = .ok (.iload 7, 2) := by decide +kernel
theorem dL_law_41 : decode cL_law 41 = .ok (.bipush 12, 2) := by decide +kernel
theorem dL_law_43 : decode cL_law 43 = .ok (.if_icmp .ge 16, 3) := by decide +kernel
theorem dL_law_46 : decode cL_law 46 = .ok (.aload 6, 2) := by decide +kernel
theorem dL_law_48 : decode cL_law 48 = .ok (.iload 7, 2) := by decide +kernel
theorem dL_law_50 : decode cL_law 50 = .ok (.bipush 100, 2) := by decide +kernel
theorem dL_law_52 : decode cL_law 52 = .ok (.iastore, 1) := by decide +kernel
theorem dL_law_53 : decode cL_law 53 = .ok (.iinc 7 1, 3) := by decide +kernel
theorem dL_law_56 : decode cL_law 56 = .ok (.goto (-17), 3) := by decide +kernel
theorem dL_law_59 : decode cL_law 59 = .ok (.lconst 0, 1) := by decide +kernel
theorem dL_law_60 : decode cL_law 60 = .ok (.lstore 7, 2) := by decide +kernel
theorem dL_law_62 : decode cL_law 62 = .ok (.lconst 0, 1) := by decide +kernel
theorem dL_law_63 : decode cL_law 63 = .ok (.lstore 9, 2) := by decide +kernel
theorem dL_law_65 : decode cL_law 65 = .ok (.lconst 0, 1) := by decide +kernel
theorem dL_law_66 : decode cL_law 66 = .ok (.lstore 11, 2) := by decide +kernel
theorem dL_law_68 : decode cL_law 68 = .ok (.lconst 0, 1) := by decide +kernel
theorem dL_law_69 : decode cL_law 69 = .ok (.lstore 13, 2) := by decide +kernel
theorem dL_law_71 : decode cL_law 71 = .ok (.iconst 0, 1) := by decide +kernel
theorem dL_law_72 : decode cL_law 72 = .ok (.istore 15, 2) := by decide +kernel
theorem dL_law_74 : decode cL_law 74 = .ok (.iconst 0, 1) := by decide +kernel
theorem dL_law_75 : decode cL_law 75 = .ok (.istore 16, 2) := by decide +kernel
theorem dL_law_77 : decode cL_law 77 = .ok (.iload 16, 2) := by decide +kernel
theorem dL_law_79 : decode cL_law 79 = .ok (.bipush 40, 2) := by decide +kernel
theorem dL_law_81 : decode cL_law 81 = .ok (.if_icmp .ge 1556, 3) := by decide +kernel
theorem dL_law_84 : decode cL_law 84 = .ok (.aload_n 0, 1) := by decide +kernel
theorem dL_law_85 : decode cL_law 85 = .ok (.iconst 2, 1) := by decide +kernel
theorem dL_law_86 : decode cL_law 86 = .ok (.iload 16, 2) := by decide +kernel
theorem dL_law_88 : decode cL_law 88 = .ok (.imul, 1) := by decide +kernel
theorem dL_law_89 : decode cL_law 89 = .ok (.invokestatic 145, 3) := by decide +kernel
theorem dL_law_92 : decode cL_law 92 = .ok (.istore 17, 2) := by decide +kernel
theorem dL_law_94 : decode cL_law 94 = .ok (.aload_n 0, 1) := by decide +kernel
theorem dL_law_95 : decode cL_law 95 = .ok (.iconst 2, 1) := by decide +kernel
theorem dL_law_96 : decode cL_law 96 = .ok (.iload 16, 2) := by decide +kernel
theorem dL_law_98 : decode cL_law 98 = .ok (.imul, 1) := by decide +kernel
theorem dL_law_99 : decode cL_law 99 = .ok (.iconst 1, 1) := by decide +kernel
theorem dL_law_100 : decode cL_law 100 = .ok (.iadd, 1) := by decide +kernel
theorem dL_law_101 : decode cL_law 101 = .ok (.invokestatic 145, 3) := by decide +kernel
theorem dL_law_104 : decode cL_law 104 = .ok (.istore 18, 2) := by decide +kernel
theorem dL_law_106 : decode cL_law 106 = .ok (.iload 16, 2) := by decide +kernel
theorem dL_law_108 : decode cL_law 108 = .ok (.ifCond .ne 7, 3) := by decide +kernel
theorem dL_law_111 : decode cL_law 111 = .ok (.iconst 0, 1) := by decide +kernel
theorem dL_law_112 : decode cL_law 112 = .ok (.goto 10, 3) := by decide +kernel
theorem dL_law_115 : decode cL_law 115 = .ok (.iload 17, 2) := by decide +kernel
theorem dL_law_117 : decode cL_law 117 = .ok (.bipush 10, 2) := by decide +kernel
theorem dL_law_119 : decode cL_law 119 = .ok (.invokestatic 77, 3) := by decide +kernel
theorem dL_law_122 : decode cL_law 122 = .ok (.istore 19, 2) := by decide +kernel
theorem dL_law_124 : decode cL_law 124 = .ok (.iload 18, 2) := by decide +kernel
theorem dL_law_126 : decode cL_law 126 = .ok (.bipush 36, 2) := by decide +kernel
theorem dL_law_128 : decode cL_law 128 = .ok (.invokestatic 77, 3) := by decide +kernel
theorem dL_law_131 : decode cL_law 131 = .ok (.istore 20, 2) := by decide +kernel
theorem dL_law_133 : decode cL_law 133 = .ok (.iload 19, 2) := by decide +kernel
theorem dL_law_135 : decode cL_law 135 = .ok (.ifCond .ne 28, 3) := by decide +kernel
theorem dL_law_138 : decode cL_law 138 = .ok (.iload 18, 2) := by decide +kernel
theorem dL_law_140 : decode cL_law 140 = .ok (.ldc 73, 2) := by decide +kernel
theorem dL_law_142 : decode cL_law 142 = .ok (.invokestatic 77, 3) := by decide +kernel
theorem dL_law_145 : decode cL_law 145 = .ok (.istore 21, 2) := by decide +kernel
theorem dL_law_147 : decode cL_law 147 = .ok (.aload_n 1, 1) := by decide +kernel
theorem dL_law_148 : decode cL_law 148 = .ok (.iload 21, 2) := by decide +kernel
theorem dL_law_150 : decode cL_law 150 = .ok (.invokevirtual 149, 3) := by decide +kernel
theorem dL_law_153 : decode cL_law 153 = .ok (.iload 21, 2) := by decide +kernel
theorem dL_law_155 : decode cL_law 155 = .ok (.aload_n 2, 1) := by decide +kernel
theorem dL_law_156 : decode cL_law 156 = .ok (.aload_n 3, 1) := by decide +kernel
theorem dL_law_157 : decode cL_law 157 = .ok (.invokestatic 153, 3) := by decide +kernel
theorem dL_law_160 : decode cL_law 160 = .ok (.goto 1115, 3) := by decide +kernel
theorem dL_law_163 : decode cL_law 163 = .ok (.iload 19, 2) := by decide +kernel
theorem dL_law_165 : decode cL_law 165 = .ok (.iconst 1, 1) := by decide +kernel
theorem dL_law_166 : decode cL_law 166 = .ok (.if_icmp .ne 84, 3) := by decide +kernel
theorem dL_law_169 : decode cL_law 169 = .ok (.iload 18, 2) := by decide +kernel
theorem dL_law_171 : decode cL_law 171 = .ok (.bipush 60, 2) := by decide +kernel
theorem dL_law_173 : decode cL_law 173 = .ok (.invokestatic 77, 3) := by decide +kernel
theorem dL_law_176 : decode cL_law 176 = .ok (.istore 21, 2) := by decide +kernel
theorem dL_law_178 : decode cL_law 178 = .ok (.iload 18, 2) := by decide +kernel
theorem dL_law_180 : decode cL_law 180 = .ok (.bipush 6, 2) := by decide +kernel
theorem dL_law_182 : decode cL_law 182 = .ok (.ishr, 1) := by decide +kernel
theorem dL_law_183 : decode cL_law 183 = .ok (.sipush 1000, 3) := by decide +kernel
theorem dL_law_186 : decode cL_law 186 = .ok (.invokestatic 77, 3) := by decide +kernel
theorem dL_law_189 : decode cL_law 189 = .ok (.istore 22, 2) := by decide +kernel
theorem dL_law_191 : decode cL_law 191 = .ok (.iload 17, 2) := by decide +kernel
theorem dL_law_193 : decode cL_law 193 = .ok (.iconst 4, 1) := by decide +kernel
theorem dL_law_194 : decode cL_law 194 = .ok (.ishr, 1) := by decide +kernel
theorem dL_law_195 : decode cL_law 195 = .ok (.sipush 1000, 3) := by decide +kernel
theorem dL_law_198 : decode cL_law 198 = .ok (.invokestatic 77, 3) := by decide +kernel
theorem dL_law_201 : decode cL_law 201 = .ok (.istore 23, 2) := by decide +kernel
theorem dL_law_203 : decode cL_law 203 = .ok (.aload_n 1, 1) := by decide +kernel
theorem dL_law_204 : decode cL_law 204 = .ok (.iload 21, 2) := by decide +kernel
theorem dL_law_206 : decode cL_law 206 = .ok (.iload 22, 2) := by decide +kernel
theorem dL_law_208 : decode cL_law 208 = .ok (.invokevirtual 157, 3) := by decide +kernel
theorem dL_law_211 : decode cL_law 211 = .ok (.aload_n 2, 1) := by decide +kernel
theorem dL_law_212 : decode cL_law 212 = .ok (.iload 21, 2) := by decide +kernel
theorem dL_law_214 : decode cL_law 214 = .ok (.iaload, 1) := by decide +kernel
theorem dL_law_215 : decode cL_law 215 = .ok (.if_icmp .ne 18, 3) := by decide +kernel
theorem dL_law_218 : decode cL_law 218 = .ok (.aload_n 1, 1) := by decide +kernel
theorem dL_law_219 : decode cL_law 219 = .ok (.iload 20, 2) := by decide +kernel
theorem dL_law_221 : decode cL_law 221 = .ok (.iload 23, 2) := by decide +kernel
theorem dL_law_223 : decode cL_law 223 = .ok (.invokevirtual 160, 3) := by decide +kernel
theorem dL_law_226 : decode cL_law 226 = .ok (.aload_n 3, 1) := by decide +kernel
theorem dL_law_227 : decode cL_law 227 = .ok (.iload 20, 2) := by decide +kernel
theorem dL_law_229 : decode cL_law 229 = .ok (.iaload, 1) := by decide +kernel
theorem dL_law_230 : decode cL_law 230 = .ok (.if_icmp .eq 5, 3) := by decide +kernel
theorem dL_law_233 : decode cL_law 233 = .ok (.iconst 0, 1) := by decide +kernel
theorem dL_law_234 : decode cL_law 234 = .ok (.ireturn, 1) := by decide +kernel
theorem dL_law_235 : decode cL_law 235 = .ok (.aload_n 2, 1) := by decide +kernel
theorem dL_law_236 : decode cL_law 236 = .ok (.iload 21, 2) := by decide +kernel
theorem dL_law_238 : decode cL_law 238 = .ok (.iload 22, 2) := by decide +kernel
theorem dL_law_240 : decode cL_law 240 = .ok (.iastore, 1) := by decide +kernel
theorem dL_law_241 : decode cL_law 241 = .ok (.aload_n 3, 1) := by decide +kernel
theorem dL_law_242 : decode cL_law 242 = .ok (.iload 20, 2) := by decide +kernel
theorem dL_law_244 : decode cL_law 244 = .ok (.iload 23, 2) := by decide +kernel
theorem dL_law_246 : decode cL_law 246 = .ok (.iastore, 1) := by decide +kernel
theorem dL_law_247 : decode cL_law 247 = .ok (.goto 1028, 3) := by decide +kernel
theorem dL_law_250 : decode cL_law 250 = .ok (.iload 19, 2) := by decide +kernel
theorem dL_law_252 : decode cL_law 252 = .ok (.iconst 2, 1) := by decide +kernel
theorem dL_law_253 : decode cL_law 253 = .ok (.if_icmp .ne 73, 3) := by decide +kernel
theorem dL_law_256 : decode cL_law 256 = .ok (.iload 17, 2) := by decide +kernel
theorem dL_law_258 : decode cL_law 258 = .ok (.bipush 9, 2) := by decide +kernel
theorem dL_law_260 : decode cL_law 260 = .ok (.ishr, 1) := by decide +kernel
theorem dL_law_261 : decode cL_law 261 = .ok (.iconst 3, 1) := by decide +kernel
theorem dL_law_262 : decode cL_law 262 = .ok (.invokestatic 77, 3) := by decide +kernel
theorem dL_law_265 : decode cL_law 265 = .ok (.ifCond .le 7, 3) := by decide +kernel
theorem dL_law_268 : decode cL_law 268 = .ok (.iconst 1, 1) := by decide +kernel
theorem dL_law_269 : decode cL_law 269 = .ok (.goto 4, 3) := by decide +kernel
theorem dL_law_272 : decode cL_law 272 = .ok (.iconst 0, 1) := by decide +kernel
theorem dL_law_273 : decode cL_law 273 = .ok (.istore 21, 2) := by decide +kernel
theorem dL_law_275 : decode cL_law 275 = .ok (.aload_n 1, 1) := by decide +kernel
theorem dL_law_276 : decode cL_law 276 = .ok (.iload 20, 2) := by decide +kernel
theorem dL_law_278 : decode cL_law 278 = .ok (.iload 21, 2) := by decide +kernel
theorem dL_law_280 : decode cL_law 280 = .ok (.invokevirtual 163, 3) := by decide +kernel
theorem dL_law_283 : decode cL_law 283 = .ok (.lload 7, 2) := by decide +kernel
theorem dL_law_285 : decode cL_law 285 = .ok (.iload 20, 2) := by decide +kernel
theorem dL_law_287 : decode cL_law 287 = .ok (.invokestatic 25, 3) := by decide +kernel
theorem dL_law_290 : decode cL_law 290 = .ok (.if_icmp .eq 5, 3) := by decide +kernel
theorem dL_law_293 : decode cL_law 293 = .ok (.iconst 0, 1) := by decide +kernel
theorem dL_law_294 : decode cL_law 294 = .ok (.ireturn, 1) := by decide +kernel
theorem dL_law_295 : decode cL_law 295 = .ok (.iload 21, 2) := by decide +kernel
theorem dL_law_297 : decode cL_law 297 = .ok (.ifCond .eq 13, 3) := by decide +kernel
theorem dL_law_300 : decode cL_law 300 = .ok (.lload 7, 2) := by decide +kernel
theorem dL_law_302 : decode cL_law 302 = .ok (.lconst 1, 1) := by decide +kernel
theorem dL_law_303 : decode cL_law 303 = .ok (.iload 20, 2) := by decide +kernel
theorem dL_law_305 : decode cL_law 305 = .ok (.lshl, 1) := by decide +kernel
theorem dL_law_306 : decode cL_law 306 = .ok (.lor, 1) := by decide +kernel
theorem dL_law_307 : decode cL_law 307 = .ok (.goto 14, 3) := by decide +kernel
theorem dL_law_310 : decode cL_law 310 = .ok (.lload 7, 2) := by decide +kernel
theorem dL_law_312 : decode cL_law 312 = .ok (.lconst 1, 1) := by decide +kernel
theorem dL_law_313 : decode cL_law 313 = .ok (.iload 20, 2) := by decide +kernel
theorem dL_law_315 : decode cL_law 315 = .ok (.lshl, 1) := by decide +kernel
theorem dL_law_316 : decode cL_law 316 = .ok (.ldc2_w 38, 3) := by decide +kernel
theorem dL_law_319 : decode cL_law 319 = .ok (.lxor, 1) := by decide +kernel
theorem dL_law_320 : decode cL_law 320 = .ok (.land, 1) := by decide +kernel
theorem dL_law_321 : decode cL_law 321 = .ok (.lstore 7, 2) := by decide +kernel
theorem dL_law_323 : decode cL_law 323 = .ok (.goto 952, 3) := by decide +kernel
theorem dL_law_326 : decode cL_law 326 = .ok (.iload 19, 2) := by decide +kernel
theorem dL_law_328 : decode cL_law 328 = .ok (.iconst 3, 1) := by decide +kernel
theorem dL_law_329 : decode cL_law 329 = .ok (.if_icmp .ne 125, 3) := by decide +kernel
theorem dL_law_332 : decode cL_law 332 = .ok (.iload 18, 2) := by decide +kernel
theorem dL_law_334 : decode cL_law 334 = .ok (.iconst 4, 1) := by decide +kernel
theorem dL_law_335 : decode cL_law 335 = .ok (.ishr, 1) := by decide +kernel
theorem dL_law_336 : decode cL_law 336 = .ok (.iconst 3, 1) := by decide +kernel
theorem dL_law_337 : decode cL_law 337 = .ok (.invokestatic 77, 3) := by decide +kernel
theorem dL_law_340 : decode cL_law 340 = .ok (.istore 21, 2) := by decide +kernel
theorem dL_law_342 : decode cL_law 342 = .ok (.iconst 0, 1) := by decide +kernel
theorem dL_law_343 : decode cL_law 343 = .ok (.istore 22, 2) := by decide +kernel
theorem dL_law_345 : decode cL_law 345 = .ok (.iload 22, 2) := by decide +kernel
theorem dL_law_347 : decode cL_law 347 = .ok (.iload 21, 2) := by decide +kernel
theorem dL_law_349 : decode cL_law 349 = .ok (.if_icmp .ge 86, 3) := by decide +kernel
theorem dL_law_352 : decode cL_law 352 = .ok (.iconst (-1), 1) := by decide +kernel
theorem dL_law_353 : decode cL_law 353 = .ok (.istore 23, 2) := by decide +kernel
theorem dL_law_355 : decode cL_law 355 = .ok (.iconst 0, 1) := by decide +kernel
theorem dL_law_356 : decode cL_law 356 = .ok (.istore 24, 2) := by decide +kernel
theorem dL_law_358 : decode cL_law 358 = .ok (.iload 24, 2) := by decide +kernel
theorem dL_law_360 : decode cL_law 360 = .ok (.bipush 36, 2) := by decide +kernel
theorem dL_law_362 : decode cL_law 362 = .ok (.if_icmp .ge 53, 3) := by decide +kernel
theorem dL_law_365 : decode cL_law 365 = .ok (.lload 7, 2) := by decide +kernel
theorem dL_law_367 : decode cL_law 367 = .ok (.iload 24, 2) := by decide +kernel
theorem dL_law_369 : decode cL_law 369 = .ok (.invokestatic 25, 3) := by decide +kernel
theorem dL_law_372 : decode cL_law 372 = .ok (.ifCond .ne 37, 3) := by decide +kernel
theorem dL_law_375 : decode cL_law 375 = .ok (.iload 23, 2) := by decide +kernel
theorem dL_law_377 : decode cL_law 377 = .ok (.ifCond .lt 28, 3) := by decide +kernel
theorem dL_law_380 : decode cL_law 380 = .ok (.lload 7, 2) := by decide +kernel
theorem dL_law_382 : decode cL_law 382 = .ok (.ldc2_w 38, 3) := by decide +kernel
theorem dL_law_385 : decode cL_law 385 = .ok (.lxor, 1) := by decide +kernel
theorem dL_law_386 : decode cL_law 386 = .ok (.iload 24, 2) := by decide +kernel
theorem dL_law_388 : decode cL_law 388 = .ok (.invokestatic 63, 3) := by decide +kernel
theorem dL_law_391 : decode cL_law 391 = .ok (.lload 7, 2) := by decide +kernel
theorem dL_law_393 : decode cL_law 393 = .ok (.ldc2_w 38, 3) := by decide +kernel
theorem dL_law_396 : decode cL_law 396 = .ok (.lxor, 1) := by decide +kernel
theorem dL_law_397 : decode cL_law 397 = .ok (.iload 23, 2) := by decide +kernel
theorem dL_law_399 : decode cL_law 399 = .ok (.invokestatic 63, 3) := by decide +kernel
theorem dL_law_402 : decode cL_law 402 = .ok (.if_icmp .le 7, 3) := by decide +kernel
theorem dL_law_405 : decode cL_law 405 = .ok (.iload 24, 2) := by decide +kernel
theorem dL_law_407 : decode cL_law 407 = .ok (.istore 23, 2) := by decide +kernel
theorem dL_law_409 : decode cL_law 409 = .ok (.iinc 24 1, 3) := by decide +kernel
theorem dL_law_412 : decode cL_law 412 = .ok (.goto (-54), 3) := by decide +kernel
theorem dL_law_415 : decode cL_law 415 = .ok (.iload 23, 2) := by decide +kernel
theorem dL_law_417 : decode cL_law 417 = .ok (.ifCond .lt 12, 3) := by decide +kernel
theorem dL_law_420 : decode cL_law 420 = .ok (.lload 7, 2) := by decide +kernel
theorem dL_law_422 : decode cL_law 422 = .ok (.lconst 1, 1) := by decide +kernel
theorem dL_law_423 : decode cL_law 423 = .ok (.iload 23, 2) := by decide +kernel
theorem dL_law_425 : decode cL_law 425 = .ok (.lshl, 1) := by decide +kernel
theorem dL_law_426 : decode cL_law 426 = .ok (.lor, 1) := by decide +kernel
theorem dL_law_427 : decode cL_law 427 = .ok (.lstore 7, 2) := by decide +kernel
theorem dL_law_429 : decode cL_law 429 = .ok (.iinc 22 1, 3) := by decide +kernel
theorem dL_law_432 : decode cL_law 432 = .ok (.goto (-87), 3) := by decide +kernel
theorem dL_law_435 : decode cL_law 435 = .ok (.aload_n 1, 1) := by decide +kernel
theorem dL_law_436 : decode cL_law 436 = .ok (.iload 21, 2) := by decide +kernel
theorem dL_law_438 : decode cL_law 438 = .ok (.invokevirtual 166, 3) := by decide +kernel
theorem dL_law_441 : decode cL_law 441 = .ok (.lload 7, 2) := by decide +kernel
theorem dL_law_443 : decode cL_law 443 = .ok (.invokestatic 59, 3) := by decide +kernel
theorem dL_law_446 : decode cL_law 446 = .ok (.if_icmp .eq 5, 3) := by decide +kernel
theorem dL_law_449 : decode cL_law 449 = .ok (.iconst 0, 1) := by decide +kernel
theorem dL_law_450 : decode cL_law 450 = .ok (.ireturn, 1) := by decide +kernel
theorem dL_law_451 : decode cL_law 451 = .ok (.goto 824, 3) := by decide +kernel
theorem dL_law_454 : decode cL_law 454 = .ok (.iload 19, 2) := by decide +kernel
theorem dL_law_456 : decode cL_law 456 = .ok (.iconst 4, 1) := by decide +kernel
theorem dL_law_457 : decode cL_law 457 = .ok (.if_icmp .ne 146, 3) := by decide +kernel
theorem dL_law_460 : decode cL_law 460 = .ok (.iconst 0, 1) := by decide +kernel
theorem dL_law_461 : decode cL_law 461 = .ok (.istore 21, 2) := by decide +kernel
theorem dL_law_463 : decode cL_law 463 = .ok (.iload 21, 2) := by decide +kernel
theorem dL_law_465 : decode cL_law 465 = .ok (.iconst 5, 1) := by decide +kernel
theorem dL_law_466 : decode cL_law 466 = .ok (.if_icmp .ge 124, 3) := by decide +kernel
theorem dL_law_469 : decode cL_law 469 = .ok (.iload 20, 2) := by decide +kernel
theorem dL_law_471 : decode cL_law 471 = .ok (.bipush 7, 2) := by decide +kernel
theorem dL_law_473 : decode cL_law 473 = .ok (.iload 21, 2) := by decide +kernel
theorem dL_law_475 : decode cL_law 475 = .ok (.imul, 1) := by decide +kernel
theorem dL_law_476 : decode cL_law 476 = .ok (.iadd, 1) := by decide +kernel
theorem dL_law_477 : decode cL_law 477 = .ok (.bipush 36, 2) := by decide +kernel
theorem dL_law_479 : decode cL_law 479 = .ok (.irem, 1) := by decide +kernel
theorem dL_law_480 : decode cL_law 480 = .ok (.istore 22, 2) := by decide +kernel
theorem dL_law_482 : decode cL_law 482 = .ok (.iload 17, 2) := by decide +kernel
theorem dL_law_484 : decode cL_law 484 = .ok (.iconst 5, 1) := by decide +kernel
theorem dL_law_485 : decode cL_law 485 = .ok (.iload 21, 2) := by decide +kernel
theorem dL_law_487 : decode cL_law 487 = .ok (.iadd, 1) := by decide +kernel
theorem dL_law_488 : decode cL_law 488 = .ok (.ishr, 1) := by decide +kernel
theorem dL_law_489 : decode cL_law 489 = .ok (.iconst 4, 1) := by decide +kernel
theorem dL_law_490 : decode cL_law 490 = .ok (.invokestatic 77, 3) := by decide +kernel
theorem dL_law_493 : decode cL_law 493 = .ok (.ifCond .le 7, 3) := by decide +kernel
theorem dL_law_496 : decode cL_law 496 = .ok (.iconst 1, 1) := by decide +kernel
theorem dL_law_497 : decode cL_law 497 = .ok (.goto 4, 3) := by decide +kernel
theorem dL_law_500 : decode cL_law 500 = .ok (.iconst 0, 1) := by decide +kernel
theorem dL_law_501 : decode cL_law 501 = .ok (.istore 23, 2) := by decide +kernel
theorem dL_law_503 : decode cL_law 503 = .ok (.aload_n 1, 1) := by decide +kernel
theorem dL_law_504 : decode cL_law 504 = .ok (.iload 22, 2) := by decide +kernel
theorem dL_law_506 : decode cL_law 506 = .ok (.iload 23, 2) := by decide +kernel
theorem dL_law_508 : decode cL_law 508 = .ok (.invokestatic 169, 3) := by decide +kernel
theorem dL_law_511 : decode cL_law 511 = .ok (.lload 7, 2) := by decide +kernel
theorem dL_law_513 : decode cL_law 513 = .ok (.iload 22, 2) := by decide +kernel
theorem dL_law_515 : decode cL_law 515 = .ok (.invokestatic 25, 3) := by decide +kernel
theorem dL_law_518 : decode cL_law 518 = .ok (.ifCond .eq 8, 3) := by decide +kernel
theorem dL_law_521 : decode cL_law 521 = .ok (.bipush (-9), 2) := by decide +kernel
theorem dL_law_523 : decode cL_law 523 = .ok (.goto 18, 3) := by decide +kernel
theorem dL_law_526 : decode cL_law 526 = .ok (.lload 9, 2) := by decide +kernel
theorem dL_law_528 : decode cL_law 528 = .ok (.iload 22, 2) := by decide +kernel
theorem dL_law_530 : decode cL_law 530 = .ok (.invokestatic 25, 3) := by decide +kernel
theorem dL_law_533 : decode cL_law 533 = .ok (.ifCond .eq 7, 3) := by decide +kernel
theorem dL_law_536 : decode cL_law 536 = .ok (.iconst 1, 1) := by decide +kernel
theorem dL_law_537 : decode cL_law 537 = .ok (.goto 4, 3) := by decide +kernel
theorem dL_law_540 : decode cL_law 540 = .ok (.iconst 0, 1) := by decide +kernel
theorem dL_law_541 : decode cL_law 541 = .ok (.if_icmp .eq 5, 3) := by decide +kernel
theorem dL_law_544 : decode cL_law 544 = .ok (.iconst 0, 1) := by decide +kernel
theorem dL_law_545 : decode cL_law 545 = .ok (.ireturn, 1) := by decide +kernel
theorem dL_law_546 : decode cL_law 546 = .ok (.lload 7, 2) := by decide +kernel
theorem dL_law_548 : decode cL_law 548 = .ok (.iload 22, 2) := by decide +kernel
theorem dL_law_550 : decode cL_law 550 = .ok (.invokestatic 25, 3) := by decide +kernel
theorem dL_law_553 : decode cL_law 553 = .ok (.ifCond .ne 31, 3) := by decide +kernel
theorem dL_law_556 : decode cL_law 556 = .ok (.iload 23, 2) := by decide +kernel
theorem dL_law_558 : decode cL_law 558 = .ok (.ifCond .eq 13, 3) := by decide +kernel
theorem dL_law_561 : decode cL_law 561 = .ok (.lload 9, 2) := by decide +kernel
theorem dL_law_563 : decode cL_law 563 = .ok (.lconst 1, 1) := by decide +kernel
theorem dL_law_564 : decode cL_law 564 = .ok (.iload 22, 2) := by decide +kernel
theorem dL_law_566 : decode cL_law 566 = .ok (.lshl, 1) := by decide +kernel
theorem dL_law_567 : decode cL_law 567 = .ok (.lor, 1) := by decide +kernel
theorem dL_law_568 : decode cL_law 568 = .ok (.goto 14, 3) := by decide +kernel
theorem dL_law_571 : decode cL_law 571 = .ok (.lload 9, 2) := by decide +kernel
theorem dL_law_573 : decode cL_law 573 = .ok (.lconst 1, 1) := by decide +kernel
theorem dL_law_574 : decode cL_law 574 = .ok (.iload 22, 2) := by decide +kernel
theorem dL_law_576 : decode cL_law 576 = .ok (.lshl, 1) := by decide +kernel
theorem dL_law_577 : decode cL_law 577 = .ok (.ldc2_w 38, 3) := by decide +kernel
theorem dL_law_580 : decode cL_law 580 = .ok (.lxor, 1) := by decide +kernel
theorem dL_law_581 : decode cL_law 581 = .ok (.land, 1) := by decide +kernel
theorem dL_law_582 : decode cL_law 582 = .ok (.lstore 9, 2) := by decide +kernel
