theorem dL_acts_128 : decode cL_acts 128 = .ok (.aload_n 0, 1) := by decide +kernel
theorem dL_acts_129 : decode cL_acts 129 = .ok (.iload 8, 2) := by decide +kernel
theorem dL_acts_131 : decode cL_acts 131 = .ok (.iload 12, 2) := by decide +kernel
theorem dL_acts_133 : decode cL_acts 133 = .ok (.iload 14, 2) := by decide +kernel
theorem dL_acts_135 : decode cL_acts 135 = .ok (.invokevirtual 57, 3) := by decide +kernel
theorem dL_acts_138 : decode cL_acts 138 = .ok (.istore 15, 2) := by decide +kernel
theorem dL_acts_140 : decode cL_acts 140 = .ok (.iload 8, 2) := by decide +kernel
theorem dL_acts_142 : decode cL_acts 142 = .ok (.iload 4, 2) := by decide +kernel
theorem dL_acts_144 : decode cL_acts 144 = .ok (.if_icmp .eq 15, 3) := by decide +kernel
theorem dL_acts_147 : decode cL_acts 147 = .ok (.iload 12, 2) := by decide +kernel
theorem dL_acts_149 : decode cL_acts 149 = .ok (.ifCond .eq 10, 3) := by decide +kernel
theorem dL_acts_152 : decode cL_acts 152 = .ok (.iload 14, 2) := by decide +kernel
theorem dL_acts_154 : decode cL_acts 154 = .ok (.bipush 31, 2) := by decide +kernel
theorem dL_acts_156 : decode cL_acts 156 = .ok (.if_icmp .le 17, 3) := by decide +kernel
theorem dL_acts_159 : decode cL_acts 159 = .ok (.iload 15, 2) := by decide +kernel
theorem dL_acts_161 : decode cL_acts 161 = .ok (.iconst (-1), 1) := by decide +kernel
theorem dL_acts_162 : decode cL_acts 162 = .ok (.if_icmp .ne 7, 3) := by decide +kernel
theorem dL_acts_165 : decode cL_acts 165 = .ok (.iconst 1, 1) := by decide +kernel
theorem dL_acts_166 : decode cL_acts 166 = .ok (.goto 45, 3) := by decide +kernel
theorem dL_acts_169 : decode cL_acts 169 = .ok (.iconst 0, 1) := by decide +kernel
theorem dL_acts_170 : decode cL_acts 170 = .ok (.goto 41, 3) := by decide +kernel
theorem dL_acts_173 : decode cL_acts 173 = .ok (.iload 15, 2) := by decide +kernel
theorem dL_acts_175 : decode cL_acts 175 = .ok (.iload 5, 2) := by decide +kernel
theorem dL_acts_177 : decode cL_acts 177 = .ok (.if_icmp .ne 8, 3) := by decide +kernel
theorem dL_acts_180 : decode cL_acts 180 = .ok (.iload 13, 2) := by decide +kernel
theorem dL_acts_182 : decode cL_acts 182 = .ok (.ifCond .ge 24, 3) := by decide +kernel
theorem dL_acts_185 : decode cL_acts 185 = .ok (.iload 15, 2) := by decide +kernel
theorem dL_acts_187 : decode cL_acts 187 = .ok (.bipush (-2), 2) := by decide +kernel
theorem dL_acts_189 : decode cL_acts 189 = .ok (.if_icmp .eq 17, 3) := by decide +kernel
theorem dL_acts_192 : decode cL_acts 192 = .ok (.iload 15, 2) := by decide +kernel
theorem dL_acts_194 : decode cL_acts 194 = .ok (.bipush (-3), 2) := by decide +kernel
theorem dL_acts_196 : decode cL_acts 196 = .ok (.if_icmp .ne 14, 3) := by decide +kernel
theorem dL_acts_199 : decode cL_acts 199 = .ok (.iload 5, 2) := by decide +kernel
theorem dL_acts_201 : decode cL_acts 201 = .ok (.bipush 24, 2) := by decide +kernel
theorem dL_acts_203 : decode cL_acts 203 = .ok (.if_icmp .ne 7, 3) := by decide +kernel
theorem dL_acts_206 : decode cL_acts 206 = .ok (.iconst 1, 1) := by decide +kernel
theorem dL_acts_207 : decode cL_acts 207 = .ok (.goto 4, 3) := by decide +kernel
theorem dL_acts_210 : decode cL_acts 210 = .ok (.iconst 0, 1) := by decide +kernel
theorem dL_acts_211 : decode cL_acts 211 = .ok (.ireturn, 1) := by decide +kernel
theorem dL_acts_212 : decode cL_acts 212 = .ok (.iload_n 3, 1) := by decide +kernel
theorem dL_acts_213 : decode cL_acts 213 = .ok (.iconst 3, 1) := by decide +kernel
theorem dL_acts_214 : decode cL_acts 214 = .ok (.if_icmp .ne 62, 3) := by decide +kernel
theorem dL_acts_217 : decode cL_acts 217 = .ok (.iload_n 2, 1) := by decide +kernel
theorem dL_acts_218 : decode cL_acts 218 = .ok (.bipush 10, 2) := by decide +kernel
theorem dL_acts_220 : decode cL_acts 220 = .ok (.invokestatic 41, 3) := by decide +kernel
theorem dL_acts_223 : decode cL_acts 223 = .ok (.istore 12, 2) := by decide +kernel
theorem dL_acts_225 : decode cL_acts 225 = .ok (.aload_n 0, 1) := by decide +kernel
theorem dL_acts_226 : decode cL_acts 226 = .ok (.iload 12, 2) := by decide +kernel
theorem dL_acts_228 : decode cL_acts 228 = .ok (.iload_n 2, 1) := by decide +kernel
theorem dL_acts_229 : decode cL_acts 229 = .ok (.iconst 4, 1) := by decide +kernel
theorem dL_acts_230 : decode cL_acts 230 = .ok (.ishr, 1) := by decide +kernel
theorem dL_acts_231 : decode cL_acts 231 = .ok (.iconst 2, 1) := by decide +kernel
theorem dL_acts_232 : decode cL_acts 232 = .ok (.invokestatic 41, 3) := by decide +kernel
theorem dL_acts_235 : decode cL_acts 235 = .ok (.invokevirtual 61, 3) := by decide +kernel
theorem dL_acts_238 : decode cL_acts 238 = .ok (.iload 12, 2) := by decide +kernel
theorem dL_acts_240 : decode cL_acts 240 = .ok (.ifCond .eq 10, 3) := by decide +kernel
theorem dL_acts_243 : decode cL_acts 243 = .ok (.iload 12, 2) := by decide +kernel
theorem dL_acts_245 : decode cL_acts 245 = .ok (.bipush 9, 2) := by decide +kernel
theorem dL_acts_247 : decode cL_acts 247 = .ok (.if_icmp .ne 7, 3) := by decide +kernel
theorem dL_acts_250 : decode cL_acts 250 = .ok (.iconst (-1), 1) := by decide +kernel
theorem dL_acts_251 : decode cL_acts 251 = .ok (.goto 16, 3) := by decide +kernel
theorem dL_acts_254 : decode cL_acts 254 = .ok (.iload 4, 2) := by decide +kernel
theorem dL_acts_256 : decode cL_acts 256 = .ok (.iconst 5, 1) := by decide +kernel
theorem dL_acts_257 : decode cL_acts 257 = .ok (.if_icmp .ne 8, 3) := by decide +kernel
theorem dL_acts_260 : decode cL_acts 260 = .ok (.bipush (-3), 2) := by decide +kernel
theorem dL_acts_262 : decode cL_acts 262 = .ok (.goto 5, 3) := by decide +kernel
theorem dL_acts_265 : decode cL_acts 265 = .ok (.iload 4, 2) := by decide +kernel
theorem dL_acts_267 : decode cL_acts 267 = .ok (.if_icmp .ne 7, 3) := by decide +kernel
theorem dL_acts_270 : decode cL_acts 270 = .ok (.iconst 1, 1) := by decide +kernel
theorem dL_acts_271 : decode cL_acts 271 = .ok (.goto 4, 3) := by decide +kernel
theorem dL_acts_274 : decode cL_acts 274 = .ok (.iconst 0, 1) := by decide +kernel
theorem dL_acts_275 : decode cL_acts 275 = .ok (.ireturn, 1) := by decide +kernel
theorem dL_acts_276 : decode cL_acts 276 = .ok (.iload_n 3, 1) := by decide +kernel
theorem dL_acts_277 : decode cL_acts 277 = .ok (.iconst 4, 1) := by decide +kernel
theorem dL_acts_278 : decode cL_acts 278 = .ok (.if_icmp .ne 43, 3) := by decide +kernel
theorem dL_acts_281 : decode cL_acts 281 = .ok (.iload_n 2, 1) := by decide +kernel
theorem dL_acts_282 : decode cL_acts 282 = .ok (.iload_n 2, 1) := by decide +kernel
theorem dL_acts_283 : decode cL_acts 283 = .ok (.bipush 6, 2) := by decide +kernel
theorem dL_acts_285 : decode cL_acts 285 = .ok (.ishr, 1) := by decide +kernel
theorem dL_acts_286 : decode cL_acts 286 = .ok (.iand, 1) := by decide +kernel
theorem dL_acts_287 : decode cL_acts 287 = .ok (.bipush 31, 2) := by decide +kernel
theorem dL_acts_289 : decode cL_acts 289 = .ok (.iand, 1) := by decide +kernel
theorem dL_acts_290 : decode cL_acts 290 = .ok (.istore 12, 2) := by decide +kernel
theorem dL_acts_292 : decode cL_acts 292 = .ok (.aload_n 0, 1) := by decide +kernel
theorem dL_acts_293 : decode cL_acts 293 = .ok (.iload 12, 2) := by decide +kernel
theorem dL_acts_295 : decode cL_acts 295 = .ok (.invokevirtual 64, 3) := by decide +kernel
theorem dL_acts_298 : decode cL_acts 298 = .ok (.iload 6, 2) := by decide +kernel
theorem dL_acts_300 : decode cL_acts 300 = .ok (.bipush 8, 2) := by decide +kernel
theorem dL_acts_302 : decode cL_acts 302 = .ok (.if_icmp .ne 8, 3) := by decide +kernel
theorem dL_acts_305 : decode cL_acts 305 = .ok (.bipush (-3), 2) := by decide +kernel
theorem dL_acts_307 : decode cL_acts 307 = .ok (.goto 5, 3) := by decide +kernel
theorem dL_acts_310 : decode cL_acts 310 = .ok (.iload 6, 2) := by decide +kernel
theorem dL_acts_312 : decode cL_acts 312 = .ok (.if_icmp .ne 7, 3) := by decide +kernel
theorem dL_acts_315 : decode cL_acts 315 = .ok (.iconst 1, 1) := by decide +kernel
theorem dL_acts_316 : decode cL_acts 316 = .ok (.goto 4, 3) := by decide +kernel
theorem dL_acts_319 : decode cL_acts 319 = .ok (.iconst 0, 1) := by decide +kernel
theorem dL_acts_320 : decode cL_acts 320 = .ok (.ireturn, 1) := by decide +kernel
theorem dL_acts_321 : decode cL_acts 321 = .ok (.iload_n 3, 1) := by decide +kernel
theorem dL_acts_322 : decode cL_acts 322 = .ok (.iconst 5, 1) := by decide +kernel
theorem dL_acts_323 : decode cL_acts 323 = .ok (.if_icmp .ne 63, 3) := by decide +kernel
theorem dL_acts_326 : decode cL_acts 326 = .ok (.iload_n 2, 1) := by decide +kernel
theorem dL_acts_327 : decode cL_acts 327 = .ok (.bipush 6, 2) := by decide +kernel
theorem dL_acts_329 : decode cL_acts 329 = .ok (.invokestatic 41, 3) := by decide +kernel
theorem dL_acts_332 : decode cL_acts 332 = .ok (.istore 12, 2) := by decide +kernel
theorem dL_acts_334 : decode cL_acts 334 = .ok (.aload_n 0, 1) := by decide +kernel
theorem dL_acts_335 : decode cL_acts 335 = .ok (.iload 8, 2) := by decide +kernel
theorem dL_acts_337 : decode cL_acts 337 = .ok (.iload 12, 2) := by decide +kernel
theorem dL_acts_339 : decode cL_acts 339 = .ok (.invokevirtual 67, 3) := by decide +kernel
theorem dL_acts_342 : decode cL_acts 342 = .ok (.iload 8, 2) := by decide +kernel
theorem dL_acts_344 : decode cL_acts 344 = .ok (.iload 4, 2) := by decide +kernel
theorem dL_acts_346 : decode cL_acts 346 = .ok (.if_icmp .eq 14, 3) := by decide +kernel
theorem dL_acts_349 : decode cL_acts 349 = .ok (.iload 12, 2) := by decide +kernel
theorem dL_acts_351 : decode cL_acts 351 = .ok (.ifCond .eq 9, 3) := by decide +kernel
theorem dL_acts_354 : decode cL_acts 354 = .ok (.iload 12, 2) := by decide +kernel
theorem dL_acts_356 : decode cL_acts 356 = .ok (.iconst 5, 1) := by decide +kernel
theorem dL_acts_357 : decode cL_acts 357 = .ok (.if_icmp .ne 7, 3) := by decide +kernel
theorem dL_acts_360 : decode cL_acts 360 = .ok (.iconst (-1), 1) := by decide +kernel
theorem dL_acts_361 : decode cL_acts 361 = .ok (.goto 16, 3) := by decide +kernel
theorem dL_acts_364 : decode cL_acts 364 = .ok (.iload 7, 2) := by decide +kernel
theorem dL_acts_366 : decode cL_acts 366 = .ok (.iconst 3, 1) := by decide +kernel
theorem dL_acts_367 : decode cL_acts 367 = .ok (.if_icmp .ne 8, 3) := by decide +kernel
theorem dL_acts_370 : decode cL_acts 370 = .ok (.bipush (-3), 2) := by decide +kernel
theorem dL_acts_372 : decode cL_acts 372 = .ok (.goto 5, 3) := by decide +kernel
theorem dL_acts_375 : decode cL_acts 375 = .ok (.iload 7, 2) := by decide +kernel
theorem dL_acts_377 : decode cL_acts 377 = .ok (.if_icmp .ne 7, 3) := by decide +kernel
theorem dL_acts_380 : decode cL_acts 380 = .ok (.iconst 1, 1) := by decide +kernel
theorem dL_acts_381 : decode cL_acts 381 = .ok (.goto 4, 3) := by decide +kernel
theorem dL_acts_384 : decode cL_acts 384 = .ok (.iconst 0, 1) := by decide +kernel
theorem dL_acts_385 : decode cL_acts 385 = .ok (.ireturn, 1) := by decide +kernel
theorem dL_acts_386 : decode cL_acts 386 = .ok (.iload_n 3, 1) := by decide +kernel
theorem dL_acts_387 : decode cL_acts 387 = .ok (.bipush 9, 2) := by decide +kernel
theorem dL_acts_389 : decode cL_acts 389 = .ok (.if_icmp .ge 173, 3) := by decide +kernel
theorem dL_acts_392 : decode cL_acts 392 = .ok (.iload 10, 2) := by decide +kernel
theorem dL_acts_394 : decode cL_acts 394 = .ok (.iload 6, 2) := by decide +kernel
theorem dL_acts_396 : decode cL_acts 396 = .ok (.if_icmp .ge 14, 3) := by decide +kernel
theorem dL_acts_399 : decode cL_acts 399 = .ok (.iload 9, 2) := by decide +kernel
theorem dL_acts_401 : decode cL_acts 401 = .ok (.iload 5, 2) := by decide +kernel
theorem dL_acts_403 : decode cL_acts 403 = .ok (.if_icmp .ge 7, 3) := by decide +kernel
theorem dL_acts_406 : decode cL_acts 406 = .ok (.iconst 1, 1) := by decide +kernel
theorem dL_acts_407 : decode cL_acts 407 = .ok (.goto 4, 3) := by decide +kernel
theorem dL_acts_410 : decode cL_acts 410 = .ok (.iconst 0, 1) := by decide +kernel
theorem dL_acts_411 : decode cL_acts 411 = .ok (.istore 12, 2) := by decide +kernel
theorem dL_acts_413 : decode cL_acts 413 = .ok (.iload 12, 2) := by decide +kernel
theorem dL_acts_415 : decode cL_acts 415 = .ok (.ifCond .eq 57, 3) := by decide +kernel
theorem dL_acts_418 : decode cL_acts 418 = .ok (.aload_n 0, 1) := by decide +kernel
theorem dL_acts_419 : decode cL_acts 419 = .ok (.iload 9, 2) := by decide +kernel
theorem dL_acts_421 : decode cL_acts 421 = .ok (.iconst 0, 1) := by decide +kernel
theorem dL_acts_422 : decode cL_acts 422 = .ok (.invokevirtual 23, 3) := by decide +kernel
theorem dL_acts_425 : decode cL_acts 425 = .ok (.ifCond .ne 47, 3) := by decide +kernel
theorem dL_acts_428 : decode cL_acts 428 = .ok (.aload_n 0, 1) := by decide +kernel
theorem dL_acts_429 : decode cL_acts 429 = .ok (.iload 10, 2) := by decide +kernel
theorem dL_acts_431 : decode cL_acts 431 = .ok (.iconst 2, 1) := by decide +kernel
theorem dL_acts_432 : decode cL_acts 432 = .ok (.invokevirtual 26, 3) := by decide +kernel
theorem dL_acts_435 : decode cL_acts 435 = .ok (.ifCond .ne 37, 3) := by decide +kernel
theorem dL_acts_438 : decode cL_acts 438 = .ok (.aload_n 0, 1) := by decide +kernel
theorem dL_acts_439 : decode cL_acts 439 = .ok (.iload 10, 2) := by decide +kernel
theorem dL_acts_441 : decode cL_acts 441 = .ok (.iconst 3, 1) := by decide +kernel
theorem dL_acts_442 : decode cL_acts 442 = .ok (.invokevirtual 26, 3) := by decide +kernel
theorem dL_acts_445 : decode cL_acts 445 = .ok (.bipush (-4), 2) := by decide +kernel
theorem dL_acts_447 : decode cL_acts 447 = .ok (.if_icmp .ne 25, 3) := by decide +kernel
theorem dL_acts_450 : decode cL_acts 450 = .ok (.aload_n 0, 1) := by decide +kernel
theorem dL_acts_451 : decode cL_acts 451 = .ok (.iload 9, 2) := by decide +kernel
theorem dL_acts_453 : decode cL_acts 453 = .ok (.iconst 3, 1) := by decide +kernel
theorem dL_acts_454 : decode cL_acts 454 = .ok (.invokevirtual 23, 3) := by decide +kernel
theorem dL_acts_457 : decode cL_acts 457 = .ok (.aload_n 0, 1) := by decide +kernel
theorem dL_acts_458 : decode cL_acts 458 = .ok (.iload 10, 2) := by decide +kernel
theorem dL_acts_460 : decode cL_acts 460 = .ok (.iconst 0, 1) := by decide +kernel
theorem dL_acts_461 : decode cL_acts 461 = .ok (.invokevirtual 26, 3) := by decide +kernel
theorem dL_acts_464 : decode cL_acts 464 = .ok (.iand, 1) := by decide +kernel
theorem dL_acts_465 : decode cL_acts 465 = .ok (.ifCond .ne 7, 3) := by decide +kernel
theorem dL_acts_468 : decode cL_acts 468 = .ok (.iconst 1, 1) := by decide +kernel
theorem dL_acts_469 : decode cL_acts 469 = .ok (.goto 4, 3) := by decide +kernel
theorem dL_acts_472 : decode cL_acts 472 = .ok (.iconst 0, 1) := by decide +kernel
theorem dL_acts_473 : decode cL_acts 473 = .ok (.istore 13, 2) := by decide +kernel
theorem dL_acts_475 : decode cL_acts 475 = .ok (.aload_n 0, 1) := by decide +kernel
theorem dL_acts_476 : decode cL_acts 476 = .ok (.iload 10, 2) := by decide +kernel
theorem dL_acts_478 : decode cL_acts 478 = .ok (.iload 9, 2) := by decide +kernel
theorem dL_acts_480 : decode cL_acts 480 = .ok (.invokevirtual 70, 3) := by decide +kernel
theorem dL_acts_483 : decode cL_acts 483 = .ok (.istore 14, 2) := by decide +kernel
theorem dL_acts_485 : decode cL_acts 485 = .ok (.iload 12, 2) := by decide +kernel
theorem dL_acts_487 : decode cL_acts 487 = .ok (.ifCond .ne 17, 3) := by decide +kernel
theorem dL_acts_490 : decode cL_acts 490 = .ok (.iload 14, 2) := by decide +kernel
theorem dL_acts_492 : decode cL_acts 492 = .ok (.iconst (-1), 1) := by decide +kernel
theorem dL_acts_493 : decode cL_acts 493 = .ok (.if_icmp .ne 7, 3) := by decide +kernel
theorem dL_acts_496 : decode cL_acts 496 = .ok (.iconst 1, 1) := by decide +kernel
theorem dL_acts_497 : decode cL_acts 497 = .ok (.goto 64, 3) := by decide +kernel
theorem dL_acts_500 : decode cL_acts 500 = .ok (.iconst 0, 1) := by decide +kernel
theorem dL_acts_501 : decode cL_acts 501 = .ok (.goto 60, 3) := by decide +kernel
theorem dL_acts_504 : decode cL_acts 504 = .ok (.iload 13, 2) := by decide +kernel
theorem dL_acts_506 : decode cL_acts 506 = .ok (.ifCond .ne 18, 3) := by decide +kernel
theorem dL_acts_509 : decode cL_acts 509 = .ok (.iload 14, 2) := by decide +kernel
theorem dL_acts_511 : decode cL_acts 511 = .ok (.bipush (-2), 2) := by decide +kernel
theorem dL_acts_513 : decode cL_acts 513 = .ok (.if_icmp .ne 7, 3) := by decide +kernel
theorem dL_acts_516 : decode cL_acts 516 = .ok (.iconst 1, 1) := by decide +kernel
theorem dL_acts_517 : decode cL_acts 517 = .ok (.goto 44, 3) := by decide +kernel
theorem dL_acts_520 : decode cL_acts 520 = .ok (.iconst 0, 1) := by decide +kernel
theorem dL_acts_521 : decode cL_acts 521 = .ok (.goto 40, 3) := by decide +kernel
theorem dL_acts_524 : decode cL_acts 524 = .ok (.iload 14, 2) := by decide +kernel
theorem dL_acts_526 : decode cL_acts 526 = .ok (.sipush 1000, 3) := by decide +kernel
theorem dL_acts_529 : decode cL_acts 529 = .ok (.if_icmp .lt 31, 3) := by decide +kernel
theorem dL_acts_532 : decode cL_acts 532 = .ok (.aload_n 0, 1) := by decide +kernel
theorem dL_acts_533 : decode cL_acts 533 = .ok (.iload 9, 2) := by decide +kernel
theorem dL_acts_535 : decode cL_acts 535 = .ok (.iconst 4, 1) := by decide +kernel
theorem dL_acts_536 : decode cL_acts 536 = .ok (.invokevirtual 23, 3) := by decide +kernel
theorem dL_acts_539 : decode cL_acts 539 = .ok (.iload 14, 2) := by decide +kernel
theorem dL_acts_541 : decode cL_acts 541 = .ok (.if_icmp .ne 19, 3) := by decide +kernel
theorem dL_acts_544 : decode cL_acts 544 = .ok (.aload_n 0, 1) := by decide +kernel
theorem dL_acts_545 : decode cL_acts 545 = .ok (.iload 10, 2) := by decide +kernel
theorem dL_acts_547 : decode cL_acts 547 = .ok (.iconst 3, 1) := by decide +kernel
theorem dL_acts_548 : decode cL_acts 548 = .ok (.invokevirtual 26, 3) := by decide +kernel
theorem dL_acts_551 : decode cL_acts 551 = .ok (.iload 9, 2) := by decide +kernel
theorem dL_acts_553 : decode cL_acts 553 = .ok (.if_icmp .ne 7, 3) := by decide +kernel
theorem dL_acts_556 : decode cL_acts 556 = .ok (.iconst 1, 1) := by decide +kernel
theorem dL_acts_557 : decode cL_acts 557 = .ok (.goto 4, 3) := by decide +kernel
theorem dL_acts_560 : decode cL_acts 560 = .ok (.iconst 0, 1) := by decide +kernel
theorem dL_acts_561 : decode cL_acts 561 = .ok (.ireturn, 1) := by decide +kernel
theorem dL_acts_562 : decode cL_acts 562 = .ok (.iload_n 3, 1) := by decide +kernel
theorem dL_acts_563 : decode cL_acts 563 = .ok (.bipush 9, 2) := by decide +kernel
theorem dL_acts_565 : decode cL_acts 565 = .ok (.if_icmp .ne 131, 3) := by decide +kernel
theorem dL_acts_568 : decode cL_acts 568 = .ok (.iload 9, 2) := by decide +kernel
theorem dL_acts_570 : decode cL_acts 570 = .ok (.iload 5, 2) := by decide +kernel
theorem dL_acts_572 : decode cL_acts 572 = .ok (.if_icmp .eq 14, 3) := by decide +kernel
theorem dL_acts_575 : decode cL_acts 575 = .ok (.aload_n 0, 1) := by decide +kernel
theorem dL_acts_576 : decode cL_acts 576 = .ok (.iload 9, 2) := by decide +kernel
theorem dL_acts_578 : decode cL_acts 578 = .ok (.iconst 0, 1) := by decide +kernel
theorem dL_acts_579 : decode cL_acts 579 = .ok (.invokevirtual 23, 3) := by decide +kernel
theorem dL_acts_582 : decode cL_acts 582 = .ok (.iconst 1, 1) := by decide +kernel
theorem dL_acts_583 : decode cL_acts 583 = .ok (.if_icmp .eq 36, 3) := by decide +kernel
theorem dL_acts_586 : decode cL_acts 586 = .ok (.aload_n 0, 1) := by decide +kernel
theorem dL_acts_587 : decode cL_acts 587 = .ok (.iconst 0, 1) := by decide +kernel
theorem dL_acts_588 : decode cL_acts 588 = .ok (.sipush 999, 3) := by decide +kernel
theorem dL_acts_591 : decode cL_acts 591 = .ok (.iconst 0, 1) := by decide +kernel
theorem dL_acts_592 : decode cL_acts 592 = .ok (.invokevirtual 73, 3) := by decide +kernel
theorem dL_acts_595 : decode cL_acts 595 = .ok (.iconst (-1), 1) := by decide +kernel
theorem dL_acts_596 : decode cL_acts 596 = .ok (.if_icmp .ne 21, 3) := by decide +kernel
theorem dL_acts_599 : decode cL_acts 599 = .ok (.aload_n 0, 1) := by decide +kernel
theorem dL_acts_600 : decode cL_acts 600 = .ok (.iload 8, 2) := by decide +kernel
theorem dL_acts_602 : decode cL_acts 602 = .ok (.sipush 1000, 3) := by decide +kernel
theorem dL_acts_605 : decode cL_acts 605 = .ok (.iconst 2, 1) := by decide +kernel
theorem dL_acts_606 : decode cL_acts 606 = .ok (.invokevirtual 73, 3) := by decide +kernel
theorem dL_acts_609 : decode cL_acts 609 = .ok (.iconst (-1), 1) := by decide +kernel
theorem dL_acts_610 : decode cL_acts 610 = .ok (.if_icmp .ne 7, 3) := by decide +kernel
theorem dL_acts_613 : decode cL_acts 613 = .ok (.iconst 1, 1) := by decide +kernel
theorem dL_acts_614 : decode cL_acts 614 = .ok (.goto 4, 3) := by decide +kernel
theorem dL_acts_617 : decode cL_acts 617 = .ok (.iconst 0, 1) := by decide +kernel
theorem dL_acts_618 : decode cL_acts 618 = .ok (.ireturn, 1) := by decide +kernel
theorem dL_acts_619 : decode cL_acts 619 = .ok (.iload_n 2, 1) := by decide +kernel
theorem dL_acts_620 : decode cL_acts 620 = .ok (.iconst 2, 1) := by decide +kernel
theorem dL_acts_621 : decode cL_acts 621 = .ok (.invokestatic 41, 3) := by decide +kernel
theorem dL_acts_624 : decode cL_acts 624 = .ok (.istore 12, 2) := by decide +kernel
theorem dL_acts_626 : decode cL_acts 626 = .ok (.aload_n 0, 1) := by decide +kernel
theorem dL_acts_627 : decode cL_acts 627 = .ok (.iload 9, 2) := by decide +kernel
theorem dL_acts_629 : decode cL_acts 629 = .ok (.iconst 4, 1) := by decide +kernel
theorem dL_acts_630 : decode cL_acts 630 = .ok (.invokevirtual 23, 3) := by decide +kernel
theorem dL_acts_633 : decode cL_acts 633 = .ok (.istore 13, 2) := by decide +kernel
theorem dL_acts_635 : decode cL_acts 635 = .ok (.aload_n 0, 1) := by decide +kernel
theorem dL_acts_636 : decode cL_acts 636 = .ok (.aload_n 0, 1) := by decide +kernel
theorem dL_acts_637 : decode cL_acts 637 = .ok (.iload 9, 2) := by decide +kernel
theorem dL_acts_639 : decode cL_acts 639 = .ok (.iconst 1, 1) := by decide +kernel
theorem dL_acts_640 : decode cL_acts 640 = .ok (.invokevirtual 23, 3) := by decide +kernel
theorem dL_acts_643 : decode cL_acts 643 = .ok (.iload 13, 2) := by decide +kernel
theorem dL_acts_645 : decode cL_acts 645 = .ok (.iload 12, 2) := by decide +kernel
theorem dL_acts_647 : decode cL_acts 647 = .ok (.invokevirtual 73, 3) := by decide +kernel
theorem dL_acts_650 : decode cL_acts 650 = .ok (.istore 14, 2) := by decide +kernel
theorem dL_acts_652 : decode cL_acts 652 = .ok (.iload 14, 2) := by decide +kernel
theorem dL_acts_654 : decode cL_acts 654 = .ok (.ifCond .lt 40, 3) := by decide +kernel
theorem dL_acts_657 : decode cL_acts 657 = .ok (.iload 14, 2) := by decide +kernel
theorem dL_acts_659 : decode cL_acts 659 = .ok (.iload 9, 2) := by decide +kernel
theorem dL_acts_661 : decode cL_acts 661 = .ok (.if_icmp .gt 33, 3) := by decide +kernel
theorem dL_acts_664 : decode cL_acts 664 = .ok (.aload_n 0, 1) := by decide +kernel
theorem dL_acts_665 : decode cL_acts 665 = .ok (.iload 14, 2) := by decide +kernel
theorem dL_acts_667 : decode cL_acts 667 = .ok (.iconst 0, 1) := by decide +kernel
theorem dL_acts_668 : decode cL_acts 668 = .ok (.invokevirtual 23, 3) := by decide +kernel
theorem dL_acts_671 : decode cL_acts 671 = .ok (.iconst 3, 1) := by decide +kernel
theorem dL_acts_672 : decode cL_acts 672 = .ok (.iload 12, 2) := by decide +kernel
theorem dL_acts_674 : decode cL_acts 674 = .ok (.iadd, 1) := by decide +kernel
theorem dL_acts_675 : decode cL_acts 675 = .ok (.if_icmp .ne 19, 3) := by decide +kernel
theorem dL_acts_678 : decode cL_acts 678 = .ok (.aload_n 0, 1) := by decide +kernel
theorem dL_acts_679 : decode cL_acts 679 = .ok (.bipush 7, 2) := by decide +kernel
theorem dL_acts_681 : decode cL_acts 681 = .ok (.iload 12, 2) := by decide +kernel
theorem dL_acts_683 : decode cL_acts 683 = .ok (.iadd, 1) := by decide +kernel
theorem dL_acts_684 : decode cL_acts 684 = .ok (.invokevirtual 13, 3) := by decide +kernel
theorem dL_acts_687 : decode cL_acts 687 = .ok (.ifCond .le 7, 3) := by decide +kernel
theorem dL_acts_690 : decode cL_acts 690 = .ok (.iconst 1, 1) := by decide +kernel
theorem dL_acts_691 : decode cL_acts 691 = .ok (.goto 4, 3) := by decide +kernel
theorem dL_acts_694 : decode cL_acts 694 = .ok (.iconst 0, 1) := by decide +kernel
theorem dL_acts_695 : decode cL_acts 695 = .ok (.ireturn, 1) := by decide +kernel
theorem dL_acts_696 : decode cL_acts 696 = .ok (.iload_n 3, 1) := by decide +kernel
theorem dL_acts_697 : decode cL_acts 697 = .ok (.bipush 10, 2) := by decide +kernel
theorem dL_acts_699 : decode cL_acts 699 = .ok (.if_icmp .ne 158, 3) := by decide +kernel
theorem dL_acts_702 : decode cL_acts 702 = .ok (.iload 11, 2) := by decide +kernel
theorem dL_acts_704 : decode cL_acts 704 = .ok (.iload 7, 2) := by decide +kernel
theorem dL_acts_706 : decode cL_acts 706 = .ok (.if_icmp .ge 14, 3) := by decide +kernel
theorem dL_acts_709 : decode cL_acts 709 = .ok (.iload 9, 2) := by decide +kernel
theorem dL_acts_711 : decode cL_acts 711 = .ok (.iload 5, 2) := by decide +kernel
theorem dL_acts_713 : decode cL_acts 713 = .ok (.if_icmp .ge 7, 3) := by decide +kernel
theorem dL_acts_716 : decode cL_acts 716 = .ok (.iconst 1, 1) := by decide +kernel
theorem dL_acts_717 : decode cL_acts 717 = .ok (.goto 4, 3) := by decide +kernel
theorem dL_acts_720 : decode cL_acts 720 = .ok (.iconst 0, 1) := by decide +kernel
theorem dL_acts_721 : decode cL_acts 721 = .ok (.istore 12, 2) := by decide +kernel
theorem dL_acts_723 : decode cL_acts 723 = .ok (.iload 12, 2) := by decide +kernel
theorem dL_acts_725 : decode cL_acts 725 = .ok (.ifCond .eq 44, 3) := by decide +kernel
theorem dL_acts_728 : decode cL_acts 728 = .ok (.aload_n 0, 1) := by decide +kernel
theorem dL_acts_729 : decode cL_acts 729 = .ok (.iload 11, 2) := by decide +kernel
theorem dL_acts_731 : decode cL_acts 731 = .ok (.iconst 3, 1) := by decide +kernel
theorem dL_acts_732 : decode cL_acts 732 = .ok (.invokevirtual 29, 3) := by decide +kernel
theorem dL_acts_735 : decode cL_acts 735 = .ok (.ifCond .ne 34, 3) := by decide +kernel
theorem dL_acts_738 : decode cL_acts 738 = .ok (.aload_n 0, 1) := by decide +kernel
theorem dL_acts_739 : decode cL_acts 739 = .ok (.iload 9, 2) := by decide +kernel
theorem dL_acts_741 : decode cL_acts 741 = .ok (.iconst 0, 1) := by decide +kernel
theorem dL_acts_742 : decode cL_acts 742 = .ok (.invokevirtual 23, 3) := by decide +kernel
theorem dL_acts_745 : decode cL_acts 745 = .ok (.ifCond .ne 24, 3) := by decide +kernel
theorem dL_acts_748 : decode cL_acts 748 = .ok (.aload_n 0, 1) := by decide +kernel
theorem dL_acts_749 : decode cL_acts 749 = .ok (.iload 9, 2) := by decide +kernel
theorem dL_acts_751 : decode cL_acts 751 = .ok (.iconst 1, 1) := by decide +kernel
theorem dL_acts_752 : decode cL_acts 752 = .ok (.invokevirtual 23, 3) := by decide +kernel
theorem dL_acts_755 : decode cL_acts 755 = .ok (.aload_n 0, 1) := by decide +kernel
theorem dL_acts_756 : decode cL_acts 756 = .ok (.iload 11, 2) := by decide +kernel
theorem dL_acts_758 : decode cL_acts 758 = .ok (.iconst 1, 1) := by decide +kernel
theorem dL_acts_759 : decode cL_acts 759 = .ok (.invokevirtual 29, 3) := by decide +kernel
theorem dL_acts_762 : decode cL_acts 762 = .ok (.if_icmp .ne 7, 3) := by decide +kernel
theorem dL_acts_765 : decode cL_acts 765 = .ok (.iconst 1, 1) := by decide +kernel
theorem dL_acts_766 : decode cL_acts 766 = .ok (.goto 4, 3) := by decide +kernel
theorem dL_acts_769 : decode cL_acts 769 = .ok (.iconst 0, 1) := by decide +kernel
theorem dL_acts_770 : decode cL_acts 770 = .ok (.istore 13, 2) := by decide +kernel
theorem dL_acts_772 : decode cL_acts 772 = .ok (.aload_n 0, 1) := by decide +kernel
theorem dL_acts_773 : decode cL_acts 773 = .ok (.iload 11, 2) := by decide +kernel
theorem dL_acts_775 : decode cL_acts 775 = .ok (.iload 9, 2) := by decide +kernel
theorem dL_acts_777 : decode cL_acts 777 = .ok (.invokevirtual 76, 3) := by decide +kernel
theorem dL_acts_780 : decode cL_acts 780 = .ok (.istore 14, 2) := by decide +kernel
theorem dL_acts_782 : decode cL_acts 782 = .ok (.iload 12, 2) := by decide +kernel
theorem dL_acts_784 : decode cL_acts 784 = .ok (.ifCond .ne 17, 3) := by decide +kernel
theorem dL_acts_787 : decode cL_acts 787 = .ok (.iload 14, 2) := by decide +kernel
theorem dL_acts_789 : decode cL_acts 789 = .ok (.iconst (-1), 1) := by decide +kernel
theorem dL_acts_790 : decode cL_acts 790 = .ok (.if_icmp .ne 7, 3) := by decide +kernel
theorem dL_acts_793 : decode cL_acts 793 = .ok (.iconst 1, 1) := by decide +kernel
theorem dL_acts_794 : decode cL_acts 794 = .ok (.goto 62, 3) := by decide +kernel
theorem dL_acts_797 : decode cL_acts 797 = .ok (.iconst 0, 1) := by decide +kernel
theorem dL_acts_798 : decode cL_acts 798 = .ok (.goto 58, 3) := by decide +kernel
theorem dL_acts_801 : decode cL_acts 801 = .ok (.iload 14, 2) := by decide +kernel
theorem dL_acts_803 : decode cL_acts 803 = .ok (.ifCond .ge 18, 3) := by decide +kernel
theorem dL_acts_806 : decode cL_acts 806 = .ok (.iload 14, 2) := by decide +kernel
theorem dL_acts_808 : decode cL_acts 808 = .ok (.bipush (-2), 2) := by decide +kernel
theorem dL_acts_810 : decode cL_acts 810 = .ok (.if_icmp .ne 7, 3) := by decide +kernel
theorem dL_acts_813 : decode cL_acts 813 = .ok (.iconst 1, 1) := by decide +kernel
theorem dL_acts_814 : decode cL_acts 814 = .ok (.goto 42, 3) := by decide +kernel
theorem dL_acts_817 : decode cL_acts 817 = .ok (.iconst 0, 1) := by decide +kernel
theorem dL_acts_818 : decode cL_acts 818 = .ok (.goto 38, 3) := by decide +kernel
theorem dL_acts_821 : decode cL_acts 821 = .ok (.iload 13, 2) := by decide +kernel
theorem dL_acts_823 : decode cL_acts 823 = .ok (.ifCond .eq 32, 3) := by decide +kernel
theorem dL_acts_826 : decode cL_acts 826 = .ok (.iload 14, 2) := by decide +kernel
theorem dL_acts_828 : decode cL_acts 828 = .ok (.aload_n 0, 1) := by decide +kernel
theorem dL_acts_829 : decode cL_acts 829 = .ok (.iload 11, 2) := by decide +kernel
theorem dL_acts_831 : decode cL_acts 831 = .ok (.iconst 0, 1) := by decide +kernel
theorem dL_acts_832 : decode cL_acts 832 = .ok (.invokevirtual 29, 3) := by decide +kernel
theorem dL_acts_835 : decode cL_acts 835 = .ok (.if_icmp .gt 20, 3) := by decide +kernel
theorem dL_acts_838 : decode cL_acts 838 = .ok (.aload_n 0, 1) := by decide +kernel
theorem dL_acts_839 : decode cL_acts 839 = .ok (.iload 9, 2) := by decide +kernel
theorem dL_acts_841 : decode cL_acts 841 = .ok (.bipush 6, 2) := by decide +kernel
theorem dL_acts_843 : decode cL_acts 843 = .ok (.invokevirtual 23, 3) := by decide +kernel
theorem dL_acts_846 : decode cL_acts 846 = .ok (.iload 11, 2) := by decide +kernel
theorem dL_acts_848 : decode cL_acts 848 = .ok (.if_icmp .ne 7, 3) := by decide +kernel
theorem dL_acts_851 : decode cL_acts 851 = .ok (.iconst 1, 1) := by decide +kernel
theorem dL_acts_852 : decode cL_acts 852 = .ok (.goto 4, 3) := by decide +kernel
theorem dL_acts_855 : decode cL_acts 855 = .ok (.iconst 0, 1) := by decide +kernel
theorem dL_acts_856 : decode cL_acts 856 = .ok (.ireturn, 1) := by decide +kernel
theorem dL_acts_857 : decode cL_acts 857 = .ok (.iload_n 3, 1) := by decide +kernel
theorem dL_acts_858 : decode cL_acts 858 = .ok (.bipush 11, 2) := by decide +kernel
theorem dL_acts_860 : decode cL_acts 860 = .ok (.if_icmp .ne 111, 3) := by decide +kernel
theorem dL_acts_863 : decode cL_acts 863 = .ok (.iload 11, 2) := by decide +kernel
theorem dL_acts_865 : decode cL_acts 865 = .ok (.iload 7, 2) := by decide +kernel
theorem dL_acts_867 : decode cL_acts 867 = .ok (.if_icmp .ge 14, 3) := by decide +kernel
theorem dL_acts_870 : decode cL_acts 870 = .ok (.iload 8, 2) := by decide +kernel
theorem dL_acts_872 : decode cL_acts 872 = .ok (.iload 4, 2) := by decide +kernel
theorem dL_acts_874 : decode cL_acts 874 = .ok (.if_icmp .ge 7, 3) := by decide +kernel
theorem dL_acts_877 : decode cL_acts 877 = .ok (.iconst 1, 1) := by decide +kernel
theorem dL_acts_878 : decode cL_acts 878 = .ok (.goto 4, 3) := by decide +kernel
theorem dL_acts_881 : decode cL_acts 881 = .ok (.iconst 0, 1) := by decide +kernel
theorem dL_acts_882 : decode cL_acts 882 = .ok (.istore 12, 2) := by decide +kernel
theorem dL_acts_884 : decode cL_acts 884 = .ok (.iload 12, 2) := by decide +kernel
theorem dL_acts_886 : decode cL_acts 886 = .ok (.ifCond .eq 29, 3) := by decide +kernel
theorem dL_acts_889 : decode cL_acts 889 = .ok (.aload_n 0, 1) := by decide +kernel
theorem dL_acts_890 : decode cL_acts 890 = .ok (.iload 11, 2) := by decide +kernel
theorem dL_acts_892 : decode cL_acts 892 = .ok (.iconst 3, 1) := by decide +kernel
theorem dL_acts_893 : decode cL_acts 893 = .ok (.invokevirtual 29, 3) := by decide +kernel
theorem dL_acts_896 : decode cL_acts 896 = .ok (.ifCond .ne 19, 3) := by decide +kernel
theorem dL_acts_899 : decode cL_acts 899 = .ok (.aload_n 0, 1) := by decide +kernel
theorem dL_acts_900 : decode cL_acts 900 = .ok (.iload 11, 2) := by decide +kernel
theorem dL_acts_902 : decode cL_acts 902 = .ok (.iconst 1, 1) := by decide +kernel
theorem dL_acts_903 : decode cL_acts 903 = .ok (.invokevirtual 29, 3) := by decide +kernel
theorem dL_acts_906 : decode cL_acts 906 = .ok (.iload 8, 2) := by decide +kernel
theorem dL_acts_908 : decode cL_acts 908 = .ok (.if_icmp .eq 7, 3) := by decide +kernel
theorem dL_acts_911 : decode cL_acts 911 = .ok (.iconst 1, 1) := by decide +kernel
theorem dL_acts_912 : decode cL_acts 912 = .ok (.goto 4, 3) := by decide +kernel
theorem dL_acts_915 : decode cL_acts 915 = .ok (.iconst 0, 1) := by decide +kernel
theorem dL_acts_916 : decode cL_acts 916 = .ok (.istore 13, 2) := by decide +kernel
theorem dL_acts_918 : decode cL_acts 918 = .ok (.aload_n 0, 1) := by decide +kernel
theorem dL_acts_919 : decode cL_acts 919 = .ok (.iload 11, 2) := by decide +kernel
theorem dL_acts_921 : decode cL_acts 921 = .ok (.iload 8, 2) := by decide +kernel
theorem dL_acts_923 : decode cL_acts 923 = .ok (.invokevirtual 79, 3) := by decide +kernel
theorem dL_acts_926 : decode cL_acts 926 = .ok (.istore 14, 2) := by decide +kernel
theorem dL_acts_928 : decode cL_acts 928 = .ok (.iload 14, 2) := by decide +kernel
theorem dL_acts_930 : decode cL_acts 930 = .ok (.iload 12, 2) := by decide +kernel
theorem dL_acts_932 : decode cL_acts 932 = .ok (.ifCond .ne 7, 3) := by decide +kernel
theorem dL_acts_935 : decode cL_acts 935 = .ok (.iconst (-1), 1) := by decide +kernel
theorem dL_acts_936 : decode cL_acts 936 = .ok (.goto 26, 3) := by decide +kernel
theorem dL_acts_939 : decode cL_acts 939 = .ok (.iload 13, 2) := by decide +kernel
theorem dL_acts_941 : decode cL_acts 941 = .ok (.ifCond .ne 8, 3) := by decide +kernel
theorem dL_acts_944 : decode cL_acts 944 = .ok (.bipush (-2), 2) := by decide +kernel
theorem dL_acts_946 : decode cL_acts 946 = .ok (.goto 16, 3) := by decide +kernel
theorem dL_acts_949 : decode cL_acts 949 = .ok (.aload_n 0, 1) := by decide +kernel
theorem dL_acts_950 : decode cL_acts 950 = .ok (.iconst 4, 1) := by decide +kernel
theorem dL_acts_951 : decode cL_acts 951 = .ok (.invokevirtual 13, 3) := by decide +kernel
theorem dL_acts_954 : decode cL_acts 954 = .ok (.aload_n 0, 1) := by decide +kernel
theorem dL_acts_955 : decode cL_acts 955 = .ok (.iload 11, 2) := by decide +kernel
theorem dL_acts_957 : decode cL_acts 957 = .ok (.iconst 3, 1) := by decide +kernel
theorem dL_acts_958 : decode cL_acts 958 = .ok (.invokevirtual 29, 3) := by decide +kernel
theorem dL_acts_961 : decode cL_acts 961 = .ok (.iadd, 1) := by decide +kernel
theorem dL_acts_962 : decode cL_acts 962 = .ok (.if_icmp .ne 7, 3) := by decide +kernel
theorem dL_acts_965 : decode cL_acts 965 = .ok (.iconst 1, 1) := by decide +kernel
theorem dL_acts_966 : decode cL_acts 966 = .ok (.goto 4, 3) := by decide +kernel
theorem dL_acts_969 : decode cL_acts 969 = .ok (.iconst 0, 1) := by decide +kernel
theorem dL_acts_970 : decode cL_acts 970 = .ok (.ireturn, 1) := by decide +kernel
theorem dL_acts_971 : decode cL_acts 971 = .ok (.iload_n 3, 1) := by decide +kernel
theorem dL_acts_972 : decode cL_acts 972 = .ok (.bipush 12, 2) := by decide +kernel
theorem dL_acts_974 : decode cL_acts 974 = .ok (.if_icmp .ne 56, 3) := by decide +kernel
theorem dL_acts_977 : decode cL_acts 977 = .ok (.aload_n 0, 1) := by decide +kernel
theorem dL_acts_978 : decode cL_acts 978 = .ok (.iload 11, 2) := by decide +kernel
theorem dL_acts_980 : decode cL_acts 980 = .ok (.invokevirtual 82, 3) := by decide +kernel
theorem dL_acts_983 : decode cL_acts 983 = .ok (.istore 12, 2) := by decide +kernel
theorem dL_acts_985 : decode cL_acts 985 = .ok (.iload 11, 2) := by decide +kernel
theorem dL_acts_987 : decode cL_acts 987 = .ok (.iload 7, 2) := by decide +kernel
theorem dL_acts_989 : decode cL_acts 989 = .ok (.if_icmp .ne 17, 3) := by decide +kernel
theorem dL_acts_992 : decode cL_acts 992 = .ok (.iload 12, 2) := by decide +kernel
theorem dL_acts_994 : decode cL_acts 994 = .ok (.iconst (-1), 1) := by decide +kernel
theorem dL_acts_995 : decode cL_acts 995 = .ok (.if_icmp .ne 7, 3) := by decide +kernel
theorem dL_acts_998 : decode cL_acts 998 = .ok (.iconst 1, 1) := by decide +kernel
theorem dL_acts_999 : decode cL_acts 999 = .ok (.goto 30, 3) := by decide +kernel
theorem dL_acts_1002 : decode cL_acts 1002 = .ok (.iconst 0, 1) := by decide +kernel
theorem dL_acts_1003 : decode cL_acts 1003 = .ok (.goto 26, 3) := by decide +kernel
theorem dL_acts_1006 : decode cL_acts 1006 = .ok (.iload 12, 2) := by decide +kernel
theorem dL_acts_1008 : decode cL_acts 1008 = .ok (.bipush (-2), 2) := by decide +kernel
theorem dL_acts_1010 : decode cL_acts 1010 = .ok (.if_icmp .eq 14, 3) := by decide +kernel
theorem dL_acts_1013 : decode cL_acts 1013 = .ok (.iload 12, 2) := by decide +kernel
theorem dL_acts_1015 : decode cL_acts 1015 = .ok (.ifCond .le 13, 3) := by decide +kernel
theorem dL_acts_1018 : decode cL_acts 1018 = .ok (.iload 12, 2) := by decide +kernel
theorem dL_acts_1020 : decode cL_acts 1020 = .ok (.iconst 4, 1) := by decide +kernel
theorem dL_acts_1021 : decode cL_acts 1021 = .ok (.if_icmp .gt 7, 3) := by decide +kernel
theorem dL_acts_1024 : decode cL_acts 1024 = .ok (.iconst 1, 1) := by decide +kernel
theorem dL_acts_1025 : decode cL_acts 1025 = .ok (.goto 4, 3) := by decide +kernel
theorem dL_acts_1028 : decode cL_acts 1028 = .ok (.iconst 0, 1) := by decide +kernel
theorem dL_acts_1029 : decode cL_acts 1029 = .ok (.ireturn, 1) := by decide +kernel
theorem dL_acts_1030 : decode cL_acts 1030 = .ok (.iload_n 3, 1) := by decide +kernel
theorem dL_acts_1031 : decode cL_acts 1031 = .ok (.bipush 13, 2) := by decide +kernel
theorem dL_acts_1033 : decode cL_acts 1033 = .ok (.if_icmp .ne 106, 3) := by decide +kernel
theorem dL_acts_1036 : decode cL_acts 1036 = .ok (.iload_n 2, 1) := by decide +kernel
theorem dL_acts_1037 : decode cL_acts 1037 = .ok (.iconst 5, 1) := by decide +kernel
theorem dL_acts_1038 : decode cL_acts 1038 = .ok (.invokestatic 41, 3) := by decide +kernel
theorem dL_acts_1041 : decode cL_acts 1041 = .ok (.istore 12, 2) := by decide +kernel
theorem dL_acts_1043 : decode cL_acts 1043 = .ok (.iload_n 2, 1) := by decide +kernel
theorem dL_acts_1044 : decode cL_acts 1044 = .ok (.iconst 3, 1) := by decide +kernel
theorem dL_acts_1045 : decode cL_acts 1045 = .ok (.ishr, 1) := by decide +kernel
theorem dL_acts_1046 : decode cL_acts 1046 = .ok (.bipush 11, 2) := by decide +kernel
theorem dL_acts_1048 : decode cL_acts 1048 = .ok (.invokestatic 41, 3) := by decide +kernel
theorem dL_acts_1051 : decode cL_acts 1051 = .ok (.istore 13, 2) := by decide +kernel
theorem dL_acts_1053 : decode cL_acts 1053 = .ok (.iload 12, 2) := by decide +kernel
theorem dL_acts_1055 : decode cL_acts 1055 = .ok (.iconst 4, 1) := by decide +kernel
theorem dL_acts_1056 : decode cL_acts 1056 = .ok (.if_icmp .ne 7, 3) := by decide +kernel
theorem dL_acts_1059 : decode cL_acts 1059 = .ok (.iconst 0, 1) := by decide +kernel
theorem dL_acts_1060 : decode cL_acts 1060 = .ok (.goto 12, 3) := by decide +kernel
theorem dL_acts_1063 : decode cL_acts 1063 = .ok (.aload_n 0, 1) := by decide +kernel
theorem dL_acts_1064 : decode cL_acts 1064 = .ok (.bipush 13, 2) := by decide +kernel
theorem dL_acts_1066 : decode cL_acts 1066 = .ok (.iload 12, 2) := by decide +kernel
theorem dL_acts_1068 : decode cL_acts 1068 = .ok (.iadd, 1) := by decide +kernel
theorem dL_acts_1069 : decode cL_acts 1069 = .ok (.invokevirtual 13, 3) := by decide +kernel
theorem dL_acts_1072 : decode cL_acts 1072 = .ok (.istore 14, 2) := by decide +kernel
theorem dL_acts_1074 : decode cL_acts 1074 = .ok (.iload 12, 2) := by decide +kernel
theorem dL_acts_1076 : decode cL_acts 1076 = .ok (.iconst 4, 1) := by decide +kernel
theorem dL_acts_1077 : decode cL_acts 1077 = .ok (.if_icmp .eq 27, 3) := by decide +kernel
theorem dL_acts_1080 : decode cL_acts 1080 = .ok (.iload 13, 2) := by decide +kernel
theorem dL_acts_1082 : decode cL_acts 1082 = .ok (.ifCond .eq 22, 3) := by decide +kernel
theorem dL_acts_1085 : decode cL_acts 1085 = .ok (.iload 13, 2) := by decide +kernel
theorem dL_acts_1087 : decode cL_acts 1087 = .ok (.bipush 10, 2) := by decide +kernel
theorem dL_acts_1089 : decode cL_acts 1089 = .ok (.if_icmp .ne 19, 3) := by decide +kernel
theorem dL_acts_1092 : decode cL_acts 1092 = .ok (.iload 12, 2) := by decide +kernel
theorem dL_acts_1094 : decode cL_acts 1094 = .ok (.iconst 1, 1) := by decide +kernel
theorem dL_acts_1095 : decode cL_acts 1095 = .ok (.if_icmp .eq 9, 3) := by decide +kernel
theorem dL_acts_1098 : decode cL_acts 1098 = .ok (.iload 12, 2) := by decide +kernel
theorem dL_acts_1100 : decode cL_acts 1100 = .ok (.iconst 3, 1) := by decide +kernel
theorem dL_acts_1101 : decode cL_acts 1101 = .ok (.if_icmp .ne 7, 3) := by decide +kernel
theorem dL_acts_1104 : decode cL_acts 1104 = .ok (.iconst 1, 1) := by decide +kernel
theorem dL_acts_1105 : decode cL_acts 1105 = .ok (.goto 4, 3) := by decide +kernel
theorem dL_acts_1108 : decode cL_acts 1108 = .ok (.iconst 0, 1) := by decide +kernel
theorem dL_acts_1109 : decode cL_acts 1109 = .ok (.istore 15, 2) := by decide +kernel
theorem dL_acts_1111 : decode cL_acts 1111 = .ok (.aload_n 0, 1) := by decide +kernel
theorem dL_acts_1112 : decode cL_acts 1112 = .ok (.iload 12, 2) := by decide +kernel
theorem dL_acts_1114 : decode cL_acts 1114 = .ok (.iload 13, 2) := by decide +kernel
theorem dL_acts_1116 : decode cL_acts 1116 = .ok (.invokevirtual 85, 3) := by decide +kernel
theorem dL_acts_1119 : decode cL_acts 1119 = .ok (.iload 15, 2) := by decide +kernel
theorem dL_acts_1121 : decode cL_acts 1121 = .ok (.ifCond .eq 7, 3) := by decide +kernel
theorem dL_acts_1124 : decode cL_acts 1124 = .ok (.iconst (-1), 1) := by decide +kernel
theorem dL_acts_1125 : decode cL_acts 1125 = .ok (.goto 5, 3) := by decide +kernel
theorem dL_acts_1128 : decode cL_acts 1128 = .ok (.iload 14, 2) := by decide +kernel
theorem dL_acts_1130 : decode cL_acts 1130 = .ok (.if_icmp .ne 7, 3) := by decide +kernel
theorem dL_acts_1133 : decode cL_acts 1133 = .ok (.iconst 1, 1) := by decide +kernel
theorem dL_acts_1134 : decode cL_acts 1134 = .ok (.goto 4, 3) := by decide +kernel
theorem dL_acts_1137 : decode cL_acts 1137 = .ok (.iconst 0, 1) := by decide +kernel
theorem dL_acts_1138 : decode cL_acts 1138 = .ok (.ireturn, 1) := by decide +kernel
theorem dL_acts_1139 : decode cL_acts 1139 = .ok (.iload_n 3, 1) := by decide +kernel
theorem dL_acts_1140 : decode cL_acts 1140 = .ok (.bipush 14, 2) := by decide +kernel
theorem dL_acts_1142 : decode cL_acts 1142 = .ok (.if_icmp .ne 141, 3) := by decide +kernel
theorem dL_acts_1145 : decode cL_acts 1145 = .ok (.iload_n 2, 1) := by decide +kernel
theorem dL_acts_1146 : decode cL_acts 1146 = .ok (.iconst 4, 1) := by decide +kernel
theorem dL_acts_1147 : decode cL_acts 1147 = .ok (.invokestatic 41, 3) := by decide +kernel
theorem dL_acts_1150 : decode cL_acts 1150 = .ok (.ifCond .ne 14, 3) := by decide +kernel
theorem dL_acts_1153 : decode cL_acts 1153 = .ok (.iload_n 2, 1) := by decide +kernel
theorem dL_acts_1154 : decode cL_acts 1154 = .ok (.iconst 2, 1) := by decide +kernel
theorem dL_acts_1155 : decode cL_acts 1155 = .ok (.ishr, 1) := by decide +kernel
theorem dL_acts_1156 : decode cL_acts 1156 = .ok (.bipush 101, 2) := by decide +kernel
theorem dL_acts_1158 : decode cL_acts 1158 = .ok (.invokestatic 41, 3) := by decide +kernel
theorem dL_acts_1161 : decode cL_acts 1161 = .ok (.goto 12, 3) := by decide +kernel
theorem dL_acts_1164 : decode cL_acts 1164 = .ok (.iconst 1, 1) := by decide +kernel
theorem dL_acts_1165 : decode cL_acts 1165 = .ok (.iload_n 2, 1) := by decide +kernel
theorem dL_acts_1166 : decode cL_acts 1166 = .ok (.iconst 2, 1) := by decide +kernel
theorem dL_acts_1167 : decode cL_acts 1167 = .ok (.ishr, 1) := by decide +kernel
theorem dL_acts_1168 : decode cL_acts 1168 = .ok (.iconst 5, 1) := by decide +kernel
theorem dL_acts_1169 : decode cL_acts 1169 = .ok (.invokestatic 41, 3) := by decide +kernel
theorem dL_acts_1172 : decode cL_acts 1172 = .ok (.iadd, 1) := by decide +kernel
theorem dL_acts_1173 : decode cL_acts 1173 = .ok (.istore 12, 2) := by decide +kernel
theorem dL_acts_1175 : decode cL_acts 1175 = .ok (.aload_n 0, 1) := by decide +kernel
theorem dL_acts_1176 : decode cL_acts 1176 = .ok (.iconst 4, 1) := by decide +kernel
theorem dL_acts_1177 : decode cL_acts 1177 = .ok (.invokevirtual 13, 3) := by decide +kernel
theorem dL_acts_1180 : decode cL_acts 1180 = .ok (.istore 13, 2) := by decide +kernel
theorem dL_acts_1182 : decode cL_acts 1182 = .ok (.aload_n 0, 1) := by decide +kernel
theorem dL_acts_1183 : decode cL_acts 1183 = .ok (.bipush 9, 2) := by decide +kernel
theorem dL_acts_1185 : decode cL_acts 1185 = .ok (.invokevirtual 13, 3) := by decide +kernel
theorem dL_acts_1188 : decode cL_acts 1188 = .ok (.istore 14, 2) := by decide +kernel
theorem dL_acts_1190 : decode cL_acts 1190 = .ok (.aload_n 0, 1) := by decide +kernel
theorem dL_acts_1191 : decode cL_acts 1191 = .ok (.iload 12, 2) := by decide +kernel
theorem dL_acts_1193 : decode cL_acts 1193 = .ok (.invokevirtual 88, 3) := by decide +kernel
theorem dL_acts_1196 : decode cL_acts 1196 = .ok (.istore 15, 2) := by decide +kernel
theorem dL_acts_1198 : decode cL_acts 1198 = .ok (.iload 12, 2) := by decide +kernel
theorem dL_acts_1200 : decode cL_acts 1200 = .ok (.ifCond .eq 10, 3) := by decide +kernel
theorem dL_acts_1203 : decode cL_acts 1203 = .ok (.iload 12, 2) := by decide +kernel
theorem dL_acts_1205 : decode cL_acts 1205 = .ok (.bipush 100, 2) := by decide +kernel
theorem dL_acts_1207 : decode cL_acts 1207 = .ok (.if_icmp .ne 17, 3) := by decide +kernel
theorem dL_acts_1210 : decode cL_acts 1210 = .ok (.iload 15, 2) := by decide +kernel
theorem dL_acts_1212 : decode cL_acts 1212 = .ok (.iconst (-1), 1) := by decide +kernel
theorem dL_acts_1213 : decode cL_acts 1213 = .ok (.if_icmp .ne 7, 3) := by decide +kernel
theorem dL_acts_1216 : decode cL_acts 1216 = .ok (.iconst 1, 1) := by decide +kernel
theorem dL_acts_1217 : decode cL_acts 1217 = .ok (.goto 65, 3) := by decide +kernel
theorem dL_acts_1220 : decode cL_acts 1220 = .ok (.iconst 0, 1) := by decide +kernel
theorem dL_acts_1221 : decode cL_acts 1221 = .ok (.goto 61, 3) := by decide +kernel
theorem dL_acts_1224 : decode cL_acts 1224 = .ok (.iload 15, 2) := by decide +kernel
theorem dL_acts_1226 : decode cL_acts 1226 = .ok (.bipush (-3), 2) := by decide +kernel
theorem dL_acts_1228 : decode cL_acts 1228 = .ok (.if_icmp .ne 22, 3) := by decide +kernel
theorem dL_acts_1231 : decode cL_acts 1231 = .ok (.iload 13, 2) := by decide +kernel
theorem dL_acts_1233 : decode cL_acts 1233 = .ok (.iload 12, 2) := by decide +kernel
theorem dL_acts_1235 : decode cL_acts 1235 = .ok (.iadd, 1) := by decide +kernel
theorem dL_acts_1236 : decode cL_acts 1236 = .ok (.sipush 5000, 3) := by decide +kernel
theorem dL_acts_1239 : decode cL_acts 1239 = .ok (.if_icmp .le 7, 3) := by decide +kernel
theorem dL_acts_1242 : decode cL_acts 1242 = .ok (.iconst 1, 1) := by decide +kernel
theorem dL_acts_1243 : decode cL_acts 1243 = .ok (.goto 39, 3) := by decide +kernel
theorem dL_acts_1246 : decode cL_acts 1246 = .ok (.iconst 0, 1) := by decide +kernel
theorem dL_acts_1247 : decode cL_acts 1247 = .ok (.goto 35, 3) := by decide +kernel
theorem dL_acts_1250 : decode cL_acts 1250 = .ok (.iload 15, 2) := by decide +kernel
theorem dL_acts_1252 : decode cL_acts 1252 = .ok (.aload_n 0, 1) := by decide +kernel
theorem dL_acts_1253 : decode cL_acts 1253 = .ok (.bipush 9, 2) := by decide +kernel
theorem dL_acts_1255 : decode cL_acts 1255 = .ok (.invokevirtual 13, 3) := by decide +kernel
theorem dL_acts_1258 : decode cL_acts 1258 = .ok (.iload 14, 2) := by decide +kernel
theorem dL_acts_1260 : decode cL_acts 1260 = .ok (.isub, 1) := by decide +kernel
theorem dL_acts_1261 : decode cL_acts 1261 = .ok (.if_icmp .ne 20, 3) := by decide +kernel
theorem dL_acts_1264 : decode cL_acts 1264 = .ok (.aload_n 0, 1) := by decide +kernel
theorem dL_acts_1265 : decode cL_acts 1265 = .ok (.iconst 4, 1) := by decide +kernel
theorem dL_acts_1266 : decode cL_acts 1266 = .ok (.invokevirtual 13, 3) := by decide +kernel
theorem dL_acts_1269 : decode cL_acts 1269 = .ok (.iload 13, 2) := by decide +kernel
theorem dL_acts_1271 : decode cL_acts 1271 = .ok (.iload 12, 2) := by decide +kernel
theorem dL_acts_1273 : decode cL_acts 1273 = .ok (.iadd, 1) := by decide +kernel
theorem dL_acts_1274 : decode cL_acts 1274 = .ok (.if_icmp .ne 7, 3) := by decide +kernel
theorem dL_acts_1277 : decode cL_acts 1277 = .ok (.iconst 1, 1) := by decide +kernel
theorem dL_acts_1278 : decode cL_acts 1278 = .ok (.goto 4, 3) := by decide +kernel
theorem dL_acts_1281 : decode cL_acts 1281 = .ok (.iconst 0, 1) := by decide +kernel
theorem dL_acts_1282 : decode cL_acts 1282 = .ok (.ireturn, 1) := by decide +kernel
theorem dL_acts_1283 : decode cL_acts 1283 = .ok (.aload_n 0, 1) := by decide +kernel
theorem dL_acts_1284 : decode cL_acts 1284 = .ok (.iload_n 2, 1) := by decide +kernel
theorem dL_acts_1285 : decode cL_acts 1285 = .ok (.invokestatic 91, 3) := by decide +kernel
theorem dL_acts_1288 : decode cL_acts 1288 = .ok (.ifCond .eq 14, 3) := by decide +kernel
theorem dL_acts_1291 : decode cL_acts 1291 = .ok (.aload_n 0, 1) := by decide +kernel
theorem dL_acts_1292 : decode cL_acts 1292 = .ok (.invokestatic 94, 3) := by decide +kernel
theorem dL_acts_1295 : decode cL_acts 1295 = .ok (.ifCond .eq 7, 3) := by decide +kernel
theorem dL_acts_1298 : decode cL_acts 1298 = .ok (.iconst 1, 1) := by decide +kernel
theorem dL_acts_1299 : decode cL_acts 1299 = .ok (.goto 4, 3) := by decide +kernel
theorem dL_acts_1302 : decode cL_acts 1302 = .ok (.iconst 0, 1) := by decide +kernel
theorem dL_acts_1303 : decode cL_acts 1303 = .ok (.ireturn, 1) := by decide +kernel
set_option maxRecDepth 20000 in
theorem ggL_law_X7_init : GoodIn wsL_law wsX7_init := goodIn_r _ [5, 6, 7, 8, 9, 10, 11, 12, 13, 14, 15, 16, 17, 18, 19, 20, 21, 22, 23, 24, 25, 26, 27, 28, 29, 30, 31, 32, 33, 34, 35, 36, 37, 38, 39, 40, 41, 42, 43, 44, 45, 46, 47, 48, 49, 50, 51, 52, 53, 54, 55, 56, 57, 58, 59, 60, 61, 62, 63, 64, 65, 66, 67, 68, 69, 70, 71, 72, 73, 74, 75, 76, 77, 78, 79, 80, 81, 82, 83, 84, 85, 86, 87, 88, 89, 90, 91, 92, 93, 94, 95, 96, 97, 98, 99, 100, 101, 102, 522, 523, 524, 525, 526, 527, 515, 516, 517, 518, 519, 520, 521, 528, 529, 530, 531, 532, 533, 534, 535, 536, 537, 538, 539, 540, 541, 542, 543, 544, 545, 546, 547, 548, 549, 550, 551, 552, 553, 554] (by decide +kernel) (by decide +kernel)
set_option maxRecDepth 20000 in
theorem gL_law_X7_init : GoodIn wsL_law (wsX7_init) := ggL_law_X7_init
set_option maxRecDepth 20000 in
theorem ggL_law_L_lot : GoodIn wsL_law wsL_lot := goodIn_r _ [106, 107] (by decide +kernel) (by decide +kernel)
set_option maxRecDepth 20000 in
theorem gL_law_L_lot : GoodIn wsL_law (va_wsS RL 99 yL_lot wsL_lot) := goodIn_app (goodIn_of _ (by decide +kernel)) ggL_law_L_lot
set_option maxRecDepth 20000 in
theorem ggL_law_L_holds : GoodIn wsL_law wsL_holds := goodIn_r _ [110, 111, 112, 113, 2, 114, 25, 29, 21, 115, 116, 117, 24, 118, 119, 120, 121, 122, 28, 123, 124, 125, 126, 127, 20, 128, 81, 82, 83, 84, 80, 129, 130, 131, 40, 132, 62, 133, 134, 135, 136, 137, 138, 139, 140, 51, 57, 141, 142, 143, 144, 145, 11, 146, 45, 147, 148, 149, 150, 151, 152, 153, 154, 155, 156, 157, 158, 159, 160, 161, 162, 163, 43, 164, 165, 53, 54, 55, 166, 167, 168, 169, 42, 170, 171, 172, 173, 174, 175, 176, 177, 178, 179, 180, 181, 182, 183, 184, 185, 186, 187, 188, 189, 190, 191, 192, 193, 194, 195, 196, 197, 198, 199, 200, 201, 202, 203, 204, 205, 206, 207, 208, 209, 44, 210, 211, 212, 213, 214, 215, 216, 217, 218, 219, 220, 221, 515, 516, 517, 518, 519, 520, 521, 538, 539, 540, 541, 542, 543, 544, 545, 546, 547, 533, 534, 535, 536, 537, 522, 523, 524, 525, 526, 527, 551, 552, 553, 554] (by decide +kernel) (by decide +kernel)
set_option maxRecDepth 20000 in
theorem gL_law_L_holds : GoodIn wsL_law (va_wsS RL 103 yL_holds wsL_holds) := goodIn_app (goodIn_of _ (by decide +kernel)) ggL_law_L_holds
set_option maxRecDepth 20000 in
theorem ggL_law_X7_undo : GoodIn wsL_law wsX7_undo := goodIn_r _ [225, 25, 12, 226, 227, 228, 24, 229, 119, 230, 231, 232, 233, 234, 90, 235, 236, 237, 11, 238, 41, 42, 43, 44, 45, 164, 239, 240, 241, 40, 242, 62, 57, 515, 516, 517, 518, 519, 520, 521, 538, 539, 540, 522, 523, 524, 525, 526, 527, 551, 552, 553, 554] (by decide +kernel) (by decide +kernel)
set_option maxRecDepth 20000 in
theorem gL_law_X7_undo : GoodIn wsL_law (wsV RL 106 RX7 yX7_undo wsX7_undo) := goodIn_app (goodIn_of _ (by decide +kernel)) ggL_law_X7_undo
set_option maxRecDepth 20000 in
theorem ggL_law_L_low : GoodIn wsL_law wsL_low := goodIn_r _ [245, 246] (by decide +kernel) (by decide +kernel)
set_option maxRecDepth 20000 in
theorem gL_law_L_low : GoodIn wsL_law (va_wsS RL 41 yL_low wsL_low) := goodIn_app (goodIn_of _ (by decide +kernel)) ggL_law_L_low
