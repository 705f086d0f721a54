/-! ===== the law: its instructions ===== -/
abbrev Y_Law : et_Y := (x, code, 8, some .boolean, [])
theorem d_Law_0 : decode code 0 = .ok (.new 8, 3) := by decide +kernel
theorem d_Law_3 : decode code 3 = .ok (.dup, 1) := by decide +kernel
theorem d_Law_4 : decode code 4 = .ok (.invokespecial 44, 3) := by decide +kernel
theorem d_Law_7 : decode code 7 = .ok (.astore_n 1, 1) := by decide +kernel
theorem d_Law_8 : decode code 8 = .ok (.new 45, 3) := by decide +kernel
theorem d_Law_11 : decode code 11 = .ok (.dup, 1) := by decide +kernel
theorem d_Law_12 : decode code 12 = .ok (.invokespecial 47, 3) := by decide +kernel
theorem d_Law_15 : decode code 15 = .ok (.astore_n 2, 1) := by decide +kernel
theorem d_Law_16 : decode code 16 = .ok (.iconst 1, 1) := by decide +kernel
theorem d_Law_17 : decode code 17 = .ok (.newarray .long, 2) := by decide +kernel
theorem d_Law_19 : decode code 19 = .ok (.astore_n 3, 1) := by decide +kernel
theorem d_Law_20 : decode code 20 = .ok (.iconst 0, 1) := by decide +kernel
theorem d_Law_21 : decode code 21 = .ok (.istore 4, 2) := by decide +kernel
theorem d_Law_23 : decode code 23 = .ok (.iload 4, 2) := by decide +kernel
theorem d_Law_25 : decode code 25 = .ok (.aload_n 0, 1) := by decide +kernel
theorem d_Law_26 : decode code 26 = .ok (.arraylength, 1) := by decide +kernel
theorem d_Law_27 : decode code 27 = .ok (.iconst 4, 1) := by decide +kernel
theorem d_Law_28 : decode code 28 = .ok (.isub, 1) := by decide +kernel
theorem d_Law_29 : decode code 29 = .ok (.if_icmp .gt 646, 3) := by decide +kernel
theorem d_Law_32 : decode code 32 = .ok (.aload_n 0, 1) := by decide +kernel
theorem d_Law_33 : decode code 33 = .ok (.iload 4, 2) := by decide +kernel
theorem d_Law_35 : decode code 35 = .ok (.iaload, 1) := by decide +kernel
theorem d_Law_36 : decode code 36 = .ok (.bipush 15, 2) := by decide +kernel
theorem d_Law_38 : decode code 38 = .ok (.iand, 1) := by decide +kernel
theorem d_Law_39 : decode code 39 = .ok (.tableswitch 630 0 14 #[73, 142, 155, 180, 193, 237, 281, 325, 369, 417, 473, 486, 499, 543, 586], 73) := by decide +kernel
theorem d_Law_112 : decode code 112 = .ok (.aload_n 1, 1) := by decide +kernel
theorem d_Law_113 : decode code 113 = .ok (.aload_n 0, 1) := by decide +kernel
theorem d_Law_114 : decode code 114 = .ok (.iload 4, 2) := by decide +kernel
theorem d_Law_116 : decode code 116 = .ok (.iconst 1, 1) := by decide +kernel
theorem d_Law_117 : decode code 117 = .ok (.iadd, 1) := by decide +kernel
theorem d_Law_118 : decode code 118 = .ok (.iaload, 1) := by decide +kernel
theorem d_Law_119 : decode code 119 = .ok (.i2l, 1) := by decide +kernel
theorem d_Law_120 : decode code 120 = .ok (.bipush 32, 2) := by decide +kernel
theorem d_Law_122 : decode code 122 = .ok (.lshl, 1) := by decide +kernel
theorem d_Law_123 : decode code 123 = .ok (.aload_n 0, 1) := by decide +kernel
theorem d_Law_124 : decode code 124 = .ok (.iload 4, 2) := by decide +kernel
theorem d_Law_126 : decode code 126 = .ok (.iconst 2, 1) := by decide +kernel
theorem d_Law_127 : decode code 127 = .ok (.iadd, 1) := by decide +kernel
theorem d_Law_128 : decode code 128 = .ok (.iaload, 1) := by decide +kernel
theorem d_Law_129 : decode code 129 = .ok (.i2l, 1) := by decide +kernel
theorem d_Law_130 : decode code 130 = .ok (.ldc2_w 48, 3) := by decide +kernel
theorem d_Law_133 : decode code 133 = .ok (.land, 1) := by decide +kernel
theorem d_Law_134 : decode code 134 = .ok (.lor, 1) := by decide +kernel
theorem d_Law_135 : decode code 135 = .ok (.aload_n 0, 1) := by decide +kernel
theorem d_Law_136 : decode code 136 = .ok (.iload 4, 2) := by decide +kernel
theorem d_Law_138 : decode code 138 = .ok (.iconst 3, 1) := by decide +kernel
theorem d_Law_139 : decode code 139 = .ok (.iadd, 1) := by decide +kernel
theorem d_Law_140 : decode code 140 = .ok (.iaload, 1) := by decide +kernel
theorem d_Law_141 : decode code 141 = .ok (.invokevirtual 50, 3) := by decide +kernel
theorem d_Law_144 : decode code 144 = .ok (.aload_n 2, 1) := by decide +kernel
theorem d_Law_145 : decode code 145 = .ok (.aload_n 0, 1) := by decide +kernel
theorem d_Law_146 : decode code 146 = .ok (.iload 4, 2) := by decide +kernel
theorem d_Law_148 : decode code 148 = .ok (.iconst 1, 1) := by decide +kernel
theorem d_Law_149 : decode code 149 = .ok (.iadd, 1) := by decide +kernel
theorem d_Law_150 : decode code 150 = .ok (.iaload, 1) := by decide +kernel
theorem d_Law_151 : decode code 151 = .ok (.i2l, 1) := by decide +kernel
theorem d_Law_152 : decode code 152 = .ok (.bipush 32, 2) := by decide +kernel
theorem d_Law_154 : decode code 154 = .ok (.lshl, 1) := by decide +kernel
theorem d_Law_155 : decode code 155 = .ok (.aload_n 0, 1) := by decide +kernel
theorem d_Law_156 : decode code 156 = .ok (.iload 4, 2) := by decide +kernel
theorem d_Law_158 : decode code 158 = .ok (.iconst 2, 1) := by decide +kernel
theorem d_Law_159 : decode code 159 = .ok (.iadd, 1) := by decide +kernel
theorem d_Law_160 : decode code 160 = .ok (.iaload, 1) := by decide +kernel
theorem d_Law_161 : decode code 161 = .ok (.i2l, 1) := by decide +kernel
theorem d_Law_162 : decode code 162 = .ok (.ldc2_w 48, 3) := by decide +kernel
theorem d_Law_165 : decode code 165 = .ok (.land, 1) := by decide +kernel
theorem d_Law_166 : decode code 166 = .ok (.lor, 1) := by decide +kernel
theorem d_Law_167 : decode code 167 = .ok (.aload_n 0, 1) := by decide +kernel
theorem d_Law_168 : decode code 168 = .ok (.iload 4, 2) := by decide +kernel
theorem d_Law_170 : decode code 170 = .ok (.iconst 3, 1) := by decide +kernel
theorem d_Law_171 : decode code 171 = .ok (.iadd, 1) := by decide +kernel
theorem d_Law_172 : decode code 172 = .ok (.iaload, 1) := by decide +kernel
theorem d_Law_173 : decode code 173 = .ok (.invokevirtual 54, 3) := by decide +kernel
theorem d_Law_176 : decode code 176 = .ok (.if_icmp .eq 493, 3) := by decide +kernel
theorem d_Law_179 : decode code 179 = .ok (.iconst 0, 1) := by decide +kernel
theorem d_Law_180 : decode code 180 = .ok (.ireturn, 1) := by decide +kernel
theorem d_Law_181 : decode code 181 = .ok (.aload_n 1, 1) := by decide +kernel
theorem d_Law_182 : decode code 182 = .ok (.invokevirtual 55, 3) := by decide +kernel
theorem d_Law_185 : decode code 185 = .ok (.aload_n 2, 1) := by decide +kernel
theorem d_Law_186 : decode code 186 = .ok (.invokevirtual 58, 3) := by decide +kernel
theorem d_Law_189 : decode code 189 = .ok (.if_icmp .eq 480, 3) := by decide +kernel
theorem d_Law_192 : decode code 192 = .ok (.iconst 0, 1) := by decide +kernel
theorem d_Law_193 : decode code 193 = .ok (.ireturn, 1) := by decide +kernel
theorem d_Law_194 : decode code 194 = .ok (.aload_n 1, 1) := by decide +kernel
theorem d_Law_195 : decode code 195 = .ok (.aload_n 0, 1) := by decide +kernel
theorem d_Law_196 : decode code 196 = .ok (.iload 4, 2) := by decide +kernel
theorem d_Law_198 : decode code 198 = .ok (.iconst 1, 1) := by decide +kernel
theorem d_Law_199 : decode code 199 = .ok (.iadd, 1) := by decide +kernel
theorem d_Law_200 : decode code 200 = .ok (.iaload, 1) := by decide +kernel
theorem d_Law_201 : decode code 201 = .ok (.invokevirtual 59, 3) := by decide +kernel
theorem d_Law_204 : decode code 204 = .ok (.aload_n 2, 1) := by decide +kernel
theorem d_Law_205 : decode code 205 = .ok (.aload_n 0, 1) := by decide +kernel
theorem d_Law_206 : decode code 206 = .ok (.iload 4, 2) := by decide +kernel
theorem d_Law_208 : decode code 208 = .ok (.iconst 1, 1) := by decide +kernel
theorem d_Law_209 : decode code 209 = .ok (.iadd, 1) := by decide +kernel
theorem d_Law_210 : decode code 210 = .ok (.iaload, 1) := by decide +kernel
theorem d_Law_211 : decode code 211 = .ok (.invokevirtual 62, 3) := by decide +kernel
theorem d_Law_214 : decode code 214 = .ok (.if_icmp .eq 455, 3) := by decide +kernel
theorem d_Law_217 : decode code 217 = .ok (.iconst 0, 1) := by decide +kernel
theorem d_Law_218 : decode code 218 = .ok (.ireturn, 1) := by decide +kernel
theorem d_Law_219 : decode code 219 = .ok (.aload_n 1, 1) := by decide +kernel
theorem d_Law_220 : decode code 220 = .ok (.invokevirtual 63, 3) := by decide +kernel
theorem d_Law_223 : decode code 223 = .ok (.aload_n 2, 1) := by decide +kernel
theorem d_Law_224 : decode code 224 = .ok (.invokevirtual 66, 3) := by decide +kernel
theorem d_Law_227 : decode code 227 = .ok (.if_icmp .eq 442, 3) := by decide +kernel
theorem d_Law_230 : decode code 230 = .ok (.iconst 0, 1) := by decide +kernel
theorem d_Law_231 : decode code 231 = .ok (.ireturn, 1) := by decide +kernel
theorem d_Law_232 : decode code 232 = .ok (.aload_n 1, 1) := by decide +kernel
theorem d_Law_233 : decode code 233 = .ok (.aload_n 3, 1) := by decide +kernel
theorem d_Law_234 : decode code 234 = .ok (.invokestatic 67, 3) := by decide +kernel
theorem d_Law_237 : decode code 237 = .ok (.istore 5, 2) := by decide +kernel
theorem d_Law_239 : decode code 239 = .ok (.aload_n 2, 1) := by decide +kernel
theorem d_Law_240 : decode code 240 = .ok (.invokevirtual 72, 3) := by decide +kernel
theorem d_Law_243 : decode code 243 = .ok (.istore 6, 2) := by decide +kernel
theorem d_Law_245 : decode code 245 = .ok (.aload_n 2, 1) := by decide +kernel
theorem d_Law_246 : decode code 246 = .ok (.invokevirtual 73, 3) := by decide +kernel
theorem d_Law_249 : decode code 249 = .ok (.iload 5, 2) := by decide +kernel
theorem d_Law_251 : decode code 251 = .ok (.if_icmp .eq 5, 3) := by decide +kernel
theorem d_Law_254 : decode code 254 = .ok (.iconst 0, 1) := by decide +kernel
theorem d_Law_255 : decode code 255 = .ok (.ireturn, 1) := by decide +kernel
theorem d_Law_256 : decode code 256 = .ok (.iload 5, 2) := by decide +kernel
theorem d_Law_258 : decode code 258 = .ok (.ifCond .ne 15, 3) := by decide +kernel
theorem d_Law_261 : decode code 261 = .ok (.aload_n 3, 1) := by decide +kernel
theorem d_Law_262 : decode code 262 = .ok (.iconst 0, 1) := by decide +kernel
theorem d_Law_263 : decode code 263 = .ok (.laload, 1) := by decide +kernel
theorem d_Law_264 : decode code 264 = .ok (.iload 6, 2) := by decide +kernel
theorem d_Law_266 : decode code 266 = .ok (.i2l, 1) := by decide +kernel
theorem d_Law_267 : decode code 267 = .ok (.lcmp, 1) := by decide +kernel
theorem d_Law_268 : decode code 268 = .ok (.ifCond .eq 5, 3) := by decide +kernel
theorem d_Law_271 : decode code 271 = .ok (.iconst 0, 1) := by decide +kernel
theorem d_Law_272 : decode code 272 = .ok (.ireturn, 1) := by decide +kernel
theorem d_Law_273 : decode code 273 = .ok (.goto 396, 3) := by decide +kernel
theorem d_Law_276 : decode code 276 = .ok (.aload_n 1, 1) := by decide +kernel
theorem d_Law_277 : decode code 277 = .ok (.aload_n 3, 1) := by decide +kernel
theorem d_Law_278 : decode code 278 = .ok (.invokestatic 76, 3) := by decide +kernel
theorem d_Law_281 : decode code 281 = .ok (.istore 5, 2) := by decide +kernel
theorem d_Law_283 : decode code 283 = .ok (.aload_n 2, 1) := by decide +kernel
theorem d_Law_284 : decode code 284 = .ok (.invokevirtual 78, 3) := by decide +kernel
theorem d_Law_287 : decode code 287 = .ok (.istore 6, 2) := by decide +kernel
theorem d_Law_289 : decode code 289 = .ok (.aload_n 2, 1) := by decide +kernel
theorem d_Law_290 : decode code 290 = .ok (.invokevirtual 73, 3) := by decide +kernel
theorem d_Law_293 : decode code 293 = .ok (.iload 5, 2) := by decide +kernel
theorem d_Law_295 : decode code 295 = .ok (.if_icmp .eq 5, 3) := by decide +kernel
theorem d_Law_298 : decode code 298 = .ok (.iconst 0, 1) := by decide +kernel
theorem d_Law_299 : decode code 299 = .ok (.ireturn, 1) := by decide +kernel
theorem d_Law_300 : decode code 300 = .ok (.iload 5, 2) := by decide +kernel
theorem d_Law_302 : decode code 302 = .ok (.ifCond .ne 15, 3) := by decide +kernel
theorem d_Law_305 : decode code 305 = .ok (.aload_n 3, 1) := by decide +kernel
theorem d_Law_306 : decode code 306 = .ok (.iconst 0, 1) := by decide +kernel
theorem d_Law_307 : decode code 307 = .ok (.laload, 1) := by decide +kernel
theorem d_Law_308 : decode code 308 = .ok (.iload 6, 2) := by decide +kernel
theorem d_Law_310 : decode code 310 = .ok (.i2l, 1) := by decide +kernel
theorem d_Law_311 : decode code 311 = .ok (.lcmp, 1) := by decide +kernel
theorem d_Law_312 : decode code 312 = .ok (.ifCond .eq 5, 3) := by decide +kernel
theorem d_Law_315 : decode code 315 = .ok (.iconst 0, 1) := by decide +kernel
theorem d_Law_316 : decode code 316 = .ok (.ireturn, 1) := by decide +kernel
theorem d_Law_317 : decode code 317 = .ok (.goto 352, 3) := by decide +kernel
theorem d_Law_320 : decode code 320 = .ok (.aload_n 1, 1) := by decide +kernel
theorem d_Law_321 : decode code 321 = .ok (.aload_n 3, 1) := by decide +kernel
theorem d_Law_322 : decode code 322 = .ok (.invokestatic 79, 3) := by decide +kernel
theorem d_Law_325 : decode code 325 = .ok (.istore 5, 2) := by decide +kernel
theorem d_Law_327 : decode code 327 = .ok (.aload_n 2, 1) := by decide +kernel
theorem d_Law_328 : decode code 328 = .ok (.invokevirtual 81, 3) := by decide +kernel
theorem d_Law_331 : decode code 331 = .ok (.istore 6, 2) := by decide +kernel
theorem d_Law_333 : decode code 333 = .ok (.aload_n 2, 1) := by decide +kernel
theorem d_Law_334 : decode code 334 = .ok (.invokevirtual 73, 3) := by decide +kernel
theorem d_Law_337 : decode code 337 = .ok (.iload 5, 2) := by decide +kernel
theorem d_Law_339 : decode code 339 = .ok (.if_icmp .eq 5, 3) := by decide +kernel
theorem d_Law_342 : decode code 342 = .ok (.iconst 0, 1) := by decide +kernel
theorem d_Law_343 : decode code 343 = .ok (.ireturn, 1) := by decide +kernel
theorem d_Law_344 : decode code 344 = .ok (.iload 5, 2) := by decide +kernel
theorem d_Law_346 : decode code 346 = .ok (.ifCond .ne 15, 3) := by decide +kernel
theorem d_Law_349 : decode code 349 = .ok (.aload_n 3, 1) := by decide +kernel
theorem d_Law_350 : decode code 350 = .ok (.iconst 0, 1) := by decide +kernel
theorem d_Law_351 : decode code 351 = .ok (.laload, 1) := by decide +kernel
theorem d_Law_352 : decode code 352 = .ok (.iload 6, 2) := by decide +kernel
theorem d_Law_354 : decode code 354 = .ok (.i2l, 1) := by decide +kernel
theorem d_Law_355 : decode code 355 = .ok (.lcmp, 1) := by decide +kernel
theorem d_Law_356 : decode code 356 = .ok (.ifCond .eq 5, 3) := by decide +kernel
theorem d_Law_359 : decode code 359 = .ok (.iconst 0, 1) := by decide +kernel
theorem d_Law_360 : decode code 360 = .ok (.ireturn, 1) := by decide +kernel
theorem d_Law_361 : decode code 361 = .ok (.goto 308, 3) := by decide +kernel
theorem d_Law_364 : decode code 364 = .ok (.aload_n 1, 1) := by decide +kernel
theorem d_Law_365 : decode code 365 = .ok (.aload_n 3, 1) := by decide +kernel
theorem d_Law_366 : decode code 366 = .ok (.invokestatic 82, 3) := by decide +kernel
theorem d_Law_369 : decode code 369 = .ok (.istore 5, 2) := by decide +kernel
theorem d_Law_371 : decode code 371 = .ok (.aload_n 2, 1) := by decide +kernel
theorem d_Law_372 : decode code 372 = .ok (.invokevirtual 84, 3) := by decide +kernel
theorem d_Law_375 : decode code 375 = .ok (.istore 6, 2) := by decide +kernel
theorem d_Law_377 : decode code 377 = .ok (.aload_n 2, 1) := by decide +kernel
theorem d_Law_378 : decode code 378 = .ok (.invokevirtual 73, 3) := by decide +kernel
theorem d_Law_381 : decode code 381 = .ok (.iload 5, 2) := by decide +kernel
theorem d_Law_383 : decode code 383 = .ok (.if_icmp .eq 5, 3) := by decide +kernel
theorem d_Law_386 : decode code 386 = .ok (.iconst 0, 1) := by decide +kernel
theorem d_Law_387 : decode code 387 = .ok (.ireturn, 1) := by decide +kernel
theorem d_Law_388 : decode code 388 = .ok (.iload 5, 2) := by decide +kernel
theorem d_Law_390 : decode code 390 = .ok (.ifCond .ne 15, 3) := by decide +kernel
theorem d_Law_393 : decode code 393 = .ok (.aload_n 3, 1) := by decide +kernel
theorem d_Law_394 : decode code 394 = .ok (.iconst 0, 1) := by decide +kernel
theorem d_Law_395 : decode code 395 = .ok (.laload, 1) := by decide +kernel
theorem d_Law_396 : decode code 396 = .ok (.iload 6, 2) := by decide +kernel
theorem d_Law_398 : decode code 398 = .ok (.i2l, 1) := by decide +kernel
theorem d_Law_399 : decode code 399 = .ok (.lcmp, 1) := by decide +kernel
theorem d_Law_400 : decode code 400 = .ok (.ifCond .eq 5, 3) := by decide +kernel
theorem d_Law_403 : decode code 403 = .ok (.iconst 0, 1) := by decide +kernel
theorem d_Law_404 : decode code 404 = .ok (.ireturn, 1) := by decide +kernel
theorem d_Law_405 : decode code 405 = .ok (.goto 264, 3) := by decide +kernel
theorem d_Law_408 : decode code 408 = .ok (.aload_n 1, 1) := by decide +kernel
theorem d_Law_409 : decode code 409 = .ok (.aload_n 0, 1) := by decide +kernel
theorem d_Law_410 : decode code 410 = .ok (.iload 4, 2) := by decide +kernel
theorem d_Law_412 : decode code 412 = .ok (.iconst 1, 1) := by decide +kernel
theorem d_Law_413 : decode code 413 = .ok (.iadd, 1) := by decide +kernel
theorem d_Law_414 : decode code 414 = .ok (.iaload, 1) := by decide +kernel
theorem d_Law_415 : decode code 415 = .ok (.aload_n 0, 1) := by decide +kernel
theorem d_Law_416 : decode code 416 = .ok (.iload 4, 2) := by decide +kernel
theorem d_Law_418 : decode code 418 = .ok (.iconst 2, 1) := by decide +kernel
theorem d_Law_419 : decode code 419 = .ok (.iadd, 1) := by decide +kernel
theorem d_Law_420 : decode code 420 = .ok (.iaload, 1) := by decide +kernel
theorem d_Law_421 : decode code 421 = .ok (.invokestatic 85, 3) := by decide +kernel
theorem d_Law_424 : decode code 424 = .ok (.istore 5, 2) := by decide +kernel
theorem d_Law_426 : decode code 426 = .ok (.aload_n 2, 1) := by decide +kernel
theorem d_Law_427 : decode code 427 = .ok (.aload_n 0, 1) := by decide +kernel
theorem d_Law_428 : decode code 428 = .ok (.iload 4, 2) := by decide +kernel
theorem d_Law_430 : decode code 430 = .ok (.iconst 1, 1) := by decide +kernel
theorem d_Law_431 : decode code 431 = .ok (.iadd, 1) := by decide +kernel
theorem d_Law_432 : decode code 432 = .ok (.iaload, 1) := by decide +kernel
theorem d_Law_433 : decode code 433 = .ok (.aload_n 0, 1) := by decide +kernel
theorem d_Law_434 : decode code 434 = .ok (.iload 4, 2) := by decide +kernel
theorem d_Law_436 : decode code 436 = .ok (.iconst 2, 1) := by decide +kernel
theorem d_Law_437 : decode code 437 = .ok (.iadd, 1) := by decide +kernel
theorem d_Law_438 : decode code 438 = .ok (.iaload, 1) := by decide +kernel
theorem d_Law_439 : decode code 439 = .ok (.invokevirtual 88, 3) := by decide +kernel
theorem d_Law_442 : decode code 442 = .ok (.aload_n 2, 1) := by decide +kernel
theorem d_Law_443 : decode code 443 = .ok (.invokevirtual 73, 3) := by decide +kernel
theorem d_Law_446 : decode code 446 = .ok (.iload 5, 2) := by decide +kernel
theorem d_Law_448 : decode code 448 = .ok (.if_icmp .eq 5, 3) := by decide +kernel
theorem d_Law_451 : decode code 451 = .ok (.iconst 0, 1) := by decide +kernel
theorem d_Law_452 : decode code 452 = .ok (.ireturn, 1) := by decide +kernel
theorem d_Law_453 : decode code 453 = .ok (.goto 216, 3) := by decide +kernel
theorem d_Law_456 : decode code 456 = .ok (.aload_n 1, 1) := by decide +kernel
theorem d_Law_457 : decode code 457 = .ok (.aload_n 0, 1) := by decide +kernel
theorem d_Law_458 : decode code 458 = .ok (.iload 4, 2) := by decide +kernel
theorem d_Law_460 : decode code 460 = .ok (.iconst 1, 1) := by decide +kernel
theorem d_Law_461 : decode code 461 = .ok (.iadd, 1) := by decide +kernel
theorem d_Law_462 : decode code 462 = .ok (.iaload, 1) := by decide +kernel
theorem d_Law_463 : decode code 463 = .ok (.aload_n 3, 1) := by decide +kernel
theorem d_Law_464 : decode code 464 = .ok (.invokestatic 89, 3) := by decide +kernel
theorem d_Law_467 : decode code 467 = .ok (.istore 5, 2) := by decide +kernel
theorem d_Law_469 : decode code 469 = .ok (.aload_n 2, 1) := by decide +kernel
theorem d_Law_470 : decode code 470 = .ok (.aload_n 0, 1) := by decide +kernel
theorem d_Law_471 : decode code 471 = .ok (.iload 4, 2) := by decide +kernel
theorem d_Law_473 : decode code 473 = .ok (.iconst 1, 1) := by decide +kernel
theorem d_Law_474 : decode code 474 = .ok (.iadd, 1) := by decide +kernel
theorem d_Law_475 : decode code 475 = .ok (.iaload, 1) := by decide +kernel
theorem d_Law_476 : decode code 476 = .ok (.invokevirtual 92, 3) := by decide +kernel
theorem d_Law_479 : decode code 479 = .ok (.istore 6, 2) := by decide +kernel
theorem d_Law_481 : decode code 481 = .ok (.aload_n 2, 1) := by decide +kernel
theorem d_Law_482 : decode code 482 = .ok (.invokevirtual 73, 3) := by decide +kernel
theorem d_Law_485 : decode code 485 = .ok (.iload 5, 2) := by decide +kernel
theorem d_Law_487 : decode code 487 = .ok (.if_icmp .eq 5, 3) := by decide +kernel
theorem d_Law_490 : decode code 490 = .ok (.iconst 0, 1) := by decide +kernel
theorem d_Law_491 : decode code 491 = .ok (.ireturn, 1) := by decide +kernel
theorem d_Law_492 : decode code 492 = .ok (.iload 5, 2) := by decide +kernel
theorem d_Law_494 : decode code 494 = .ok (.ifCond .ne 15, 3) := by decide +kernel
theorem d_Law_497 : decode code 497 = .ok (.aload_n 3, 1) := by decide +kernel
theorem d_Law_498 : decode code 498 = .ok (.iconst 0, 1) := by decide +kernel
theorem d_Law_499 : decode code 499 = .ok (.laload, 1) := by decide +kernel
theorem d_Law_500 : decode code 500 = .ok (.iload 6, 2) := by decide +kernel
theorem d_Law_502 : decode code 502 = .ok (.i2l, 1) := by decide +kernel
theorem d_Law_503 : decode code 503 = .ok (.lcmp, 1) := by decide +kernel
theorem d_Law_504 : decode code 504 = .ok (.ifCond .eq 5, 3) := by decide +kernel
theorem d_Law_507 : decode code 507 = .ok (.iconst 0, 1) := by decide +kernel
theorem d_Law_508 : decode code 508 = .ok (.ireturn, 1) := by decide +kernel
theorem d_Law_509 : decode code 509 = .ok (.goto 160, 3) := by decide +kernel
theorem d_Law_512 : decode code 512 = .ok (.aload_n 1, 1) := by decide +kernel
theorem d_Law_513 : decode code 513 = .ok (.invokevirtual 93, 3) := by decide +kernel
theorem d_Law_516 : decode code 516 = .ok (.aload_n 2, 1) := by decide +kernel
theorem d_Law_517 : decode code 517 = .ok (.invokevirtual 96, 3) := by decide +kernel
theorem d_Law_520 : decode code 520 = .ok (.if_icmp .eq 149, 3) := by decide +kernel
theorem d_Law_523 : decode code 523 = .ok (.iconst 0, 1) := by decide +kernel
theorem d_Law_524 : decode code 524 = .ok (.ireturn, 1) := by decide +kernel
theorem d_Law_525 : decode code 525 = .ok (.aload_n 1, 1) := by decide +kernel
theorem d_Law_526 : decode code 526 = .ok (.invokevirtual 97, 3) := by decide +kernel
theorem d_Law_529 : decode code 529 = .ok (.aload_n 2, 1) := by decide +kernel
theorem d_Law_530 : decode code 530 = .ok (.invokevirtual 100, 3) := by decide +kernel
theorem d_Law_533 : decode code 533 = .ok (.if_icmp .eq 136, 3) := by decide +kernel
theorem d_Law_536 : decode code 536 = .ok (.iconst 0, 1) := by decide +kernel
theorem d_Law_537 : decode code 537 = .ok (.ireturn, 1) := by decide +kernel
theorem d_Law_538 : decode code 538 = .ok (.aload_n 1, 1) := by decide +kernel
theorem d_Law_539 : decode code 539 = .ok (.aload_n 3, 1) := by decide +kernel
theorem d_Law_540 : decode code 540 = .ok (.invokestatic 101, 3) := by decide +kernel
theorem d_Law_543 : decode code 543 = .ok (.istore 5, 2) := by decide +kernel
theorem d_Law_545 : decode code 545 = .ok (.aload_n 2, 1) := by decide +kernel
theorem d_Law_546 : decode code 546 = .ok (.invokevirtual 103, 3) := by decide +kernel
theorem d_Law_549 : decode code 549 = .ok (.istore 6, 2) := by decide +kernel
theorem d_Law_551 : decode code 551 = .ok (.aload_n 2, 1) := by decide +kernel
theorem d_Law_552 : decode code 552 = .ok (.invokevirtual 73, 3) := by decide +kernel
theorem d_Law_555 : decode code 555 = .ok (.iload 5, 2) := by decide +kernel
theorem d_Law_557 : decode code 557 = .ok (.if_icmp .eq 5, 3) := by decide +kernel
theorem d_Law_560 : decode code 560 = .ok (.iconst 0, 1) := by decide +kernel
theorem d_Law_561 : decode code 561 = .ok (.ireturn, 1) := by decide +kernel
theorem d_Law_562 : decode code 562 = .ok (.iload 5, 2) := by decide +kernel
theorem d_Law_564 : decode code 564 = .ok (.ifCond .ne 15, 3) := by decide +kernel
theorem d_Law_567 : decode code 567 = .ok (.aload_n 3, 1) := by decide +kernel
theorem d_Law_568 : decode code 568 = .ok (.iconst 0, 1) := by decide +kernel
theorem d_Law_569 : decode code 569 = .ok (.laload, 1) := by decide +kernel
theorem d_Law_570 : decode code 570 = .ok (.iload 6, 2) := by decide +kernel
theorem d_Law_572 : decode code 572 = .ok (.i2l, 1) := by decide +kernel
theorem d_Law_573 : decode code 573 = .ok (.lcmp, 1) := by decide +kernel
theorem d_Law_574 : decode code 574 = .ok (.ifCond .eq 5, 3) := by decide +kernel
theorem d_Law_577 : decode code 577 = .ok (.iconst 0, 1) := by decide +kernel
theorem d_Law_578 : decode code 578 = .ok (.ireturn, 1) := by decide +kernel
theorem d_Law_579 : decode code 579 = .ok (.goto 90, 3) := by decide +kernel
theorem d_Law_582 : decode code 582 = .ok (.aload_n 1, 1) := by decide +kernel
theorem d_Law_583 : decode code 583 = .ok (.aload_n 3, 1) := by decide +kernel
theorem d_Law_584 : decode code 584 = .ok (.invokestatic 104, 3) := by decide +kernel
theorem d_Law_587 : decode code 587 = .ok (.istore 5, 2) := by decide +kernel
theorem d_Law_589 : decode code 589 = .ok (.aload_n 2, 1) := by decide +kernel
theorem d_Law_590 : decode code 590 = .ok (.invokevirtual 106, 3) := by decide +kernel
theorem d_Law_593 : decode code 593 = .ok (.lstore 6, 2) := by decide +kernel
theorem d_Law_595 : decode code 595 = .ok (.aload_n 2, 1) := by decide +kernel
theorem d_Law_596 : decode code 596 = .ok (.invokevirtual 73, 3) := by decide +kernel
theorem d_Law_599 : decode code 599 = .ok (.iload 5, 2) := by decide +kernel
theorem d_Law_601 : decode code 601 = .ok (.if_icmp .eq 5, 3) := by decide +kernel
theorem d_Law_604 : decode code 604 = .ok (.iconst 0, 1) := by decide +kernel
theorem d_Law_605 : decode code 605 = .ok (.ireturn, 1) := by decide +kernel
theorem d_Law_606 : decode code 606 = .ok (.iload 5, 2) := by decide +kernel
theorem d_Law_608 : decode code 608 = .ok (.ifCond .ne 14, 3) := by decide +kernel
theorem d_Law_611 : decode code 611 = .ok (.aload_n 3, 1) := by decide +kernel
theorem d_Law_612 : decode code 612 = .ok (.iconst 0, 1) := by decide +kernel
theorem d_Law_613 : decode code 613 = .ok (.laload, 1) := by decide +kernel
theorem d_Law_614 : decode code 614 = .ok (.lload 6, 2) := by decide +kernel
theorem d_Law_616 : decode code 616 = .ok (.lcmp, 1) := by decide +kernel
theorem d_Law_617 : decode code 617 = .ok (.ifCond .eq 5, 3) := by decide +kernel
theorem d_Law_620 : decode code 620 = .ok (.iconst 0, 1) := by decide +kernel
theorem d_Law_621 : decode code 621 = .ok (.ireturn, 1) := by decide +kernel
theorem d_Law_622 : decode code 622 = .ok (.goto 47, 3) := by decide +kernel
theorem d_Law_625 : decode code 625 = .ok (.aload_n 1, 1) := by decide +kernel
theorem d_Law_626 : decode code 626 = .ok (.aload_n 3, 1) := by decide +kernel
theorem d_Law_627 : decode code 627 = .ok (.invokestatic 107, 3) := by decide +kernel
theorem d_Law_630 : decode code 630 = .ok (.istore 5, 2) := by decide +kernel
theorem d_Law_632 : decode code 632 = .ok (.aload_n 2, 1) := by decide +kernel
theorem d_Law_633 : decode code 633 = .ok (.invokevirtual 109, 3) := by decide +kernel
theorem d_Law_636 : decode code 636 = .ok (.istore 6, 2) := by decide +kernel
theorem d_Law_638 : decode code 638 = .ok (.aload_n 2, 1) := by decide +kernel
theorem d_Law_639 : decode code 639 = .ok (.invokevirtual 73, 3) := by decide +kernel
theorem d_Law_642 : decode code 642 = .ok (.iload 5, 2) := by decide +kernel
theorem d_Law_644 : decode code 644 = .ok (.if_icmp .eq 5, 3) := by decide +kernel
theorem d_Law_647 : decode code 647 = .ok (.iconst 0, 1) := by decide +kernel
theorem d_Law_648 : decode code 648 = .ok (.ireturn, 1) := by decide +kernel
theorem d_Law_649 : decode code 649 = .ok (.iload 5, 2) := by decide +kernel
theorem d_Law_651 : decode code 651 = .ok (.ifCond .ne 15, 3) := by decide +kernel
theorem d_Law_654 : decode code 654 = .ok (.aload_n 3, 1) := by decide +kernel
theorem d_Law_655 : decode code 655 = .ok (.iconst 0, 1) := by decide +kernel
theorem d_Law_656 : decode code 656 = .ok (.laload, 1) := by decide +kernel
theorem d_Law_657 : decode code 657 = .ok (.iload 6, 2) := by decide +kernel
theorem d_Law_659 : decode code 659 = .ok (.i2l, 1) := by decide +kernel
theorem d_Law_660 : decode code 660 = .ok (.lcmp, 1) := by decide +kernel
theorem d_Law_661 : decode code 661 = .ok (.ifCond .eq 5, 3) := by decide +kernel
theorem d_Law_664 : decode code 664 = .ok (.iconst 0, 1) := by decide +kernel
theorem d_Law_665 : decode code 665 = .ok (.ireturn, 1) := by decide +kernel
theorem d_Law_666 : decode code 666 = .ok (.goto 3, 3) := by decide +kernel
theorem d_Law_669 : decode code 669 = .ok (.iinc 4 4, 3) := by decide +kernel
theorem d_Law_672 : decode code 672 = .ok (.goto (-649), 3) := by decide +kernel
theorem d_Law_675 : decode code 675 = .ok (.iconst 1, 1) := by decide +kernel
theorem d_Law_676 : decode code 676 = .ok (.ireturn, 1) := by decide +kernel
