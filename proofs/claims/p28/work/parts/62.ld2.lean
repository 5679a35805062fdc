theorem dL_beds_318 : decode cL_beds 318 = .ok (.iconst 0, 1) := by decide +kernel
theorem dL_beds_319 : decode cL_beds 319 = .ok (.istore 7, 2) := by decide +kernel
theorem dL_beds_321 : decode cL_beds 321 = .ok (.aload_n 0, 1) := by decide +kernel
theorem dL_beds_322 : decode cL_beds 322 = .ok (.iload 4, 2) := by decide +kernel
theorem dL_beds_324 : decode cL_beds 324 = .ok (.iconst 0, 1) := by decide +kernel
theorem dL_beds_325 : decode cL_beds 325 = .ok (.invokevirtual 56, 3) := by decide +kernel
theorem dL_beds_328 : decode cL_beds 328 = .ok (.ifCond .ne 23, 3) := by decide +kernel
theorem dL_beds_331 : decode cL_beds 331 = .ok (.iload 7, 2) := by decide +kernel
theorem dL_beds_333 : decode cL_beds 333 = .ok (.ifCond .ne 64, 3) := by decide +kernel
theorem dL_beds_336 : decode cL_beds 336 = .ok (.iload 6, 2) := by decide +kernel
theorem dL_beds_338 : decode cL_beds 338 = .ok (.ifCond .eq 61, 3) := by decide +kernel
theorem dL_beds_341 : decode cL_beds 341 = .ok (.iload 5, 2) := by decide +kernel
theorem dL_beds_343 : decode cL_beds 343 = .ok (.iload 4, 2) := by decide +kernel
theorem dL_beds_345 : decode cL_beds 345 = .ok (.if_icmp .ge 54, 3) := by decide +kernel
theorem dL_beds_348 : decode cL_beds 348 = .ok (.goto 49, 3) := by decide +kernel
theorem dL_beds_351 : decode cL_beds 351 = .ok (.iload 7, 2) := by decide +kernel
theorem dL_beds_353 : decode cL_beds 353 = .ok (.ifCond .eq 46, 3) := by decide +kernel
theorem dL_beds_356 : decode cL_beds 356 = .ok (.aload_n 0, 1) := by decide +kernel
theorem dL_beds_357 : decode cL_beds 357 = .ok (.iload 5, 2) := by decide +kernel
theorem dL_beds_359 : decode cL_beds 359 = .ok (.iconst 3, 1) := by decide +kernel
theorem dL_beds_360 : decode cL_beds 360 = .ok (.invokevirtual 56, 3) := by decide +kernel
theorem dL_beds_363 : decode cL_beds 363 = .ok (.aload_n 0, 1) := by decide +kernel
theorem dL_beds_364 : decode cL_beds 364 = .ok (.iload 4, 2) := by decide +kernel
theorem dL_beds_366 : decode cL_beds 366 = .ok (.iconst 3, 1) := by decide +kernel
theorem dL_beds_367 : decode cL_beds 367 = .ok (.invokevirtual 56, 3) := by decide +kernel
theorem dL_beds_370 : decode cL_beds 370 = .ok (.if_icmp .lt 27, 3) := by decide +kernel
theorem dL_beds_373 : decode cL_beds 373 = .ok (.aload_n 0, 1) := by decide +kernel
theorem dL_beds_374 : decode cL_beds 374 = .ok (.iload 5, 2) := by decide +kernel
theorem dL_beds_376 : decode cL_beds 376 = .ok (.iconst 3, 1) := by decide +kernel
theorem dL_beds_377 : decode cL_beds 377 = .ok (.invokevirtual 56, 3) := by decide +kernel
theorem dL_beds_380 : decode cL_beds 380 = .ok (.aload_n 0, 1) := by decide +kernel
theorem dL_beds_381 : decode cL_beds 381 = .ok (.iload 4, 2) := by decide +kernel
theorem dL_beds_383 : decode cL_beds 383 = .ok (.iconst 3, 1) := by decide +kernel
theorem dL_beds_384 : decode cL_beds 384 = .ok (.invokevirtual 56, 3) := by decide +kernel
theorem dL_beds_387 : decode cL_beds 387 = .ok (.if_icmp .ne 12, 3) := by decide +kernel
theorem dL_beds_390 : decode cL_beds 390 = .ok (.iload 5, 2) := by decide +kernel
theorem dL_beds_392 : decode cL_beds 392 = .ok (.iload 4, 2) := by decide +kernel
theorem dL_beds_394 : decode cL_beds 394 = .ok (.if_icmp .ge 5, 3) := by decide +kernel
theorem dL_beds_397 : decode cL_beds 397 = .ok (.iconst 0, 1) := by decide +kernel
theorem dL_beds_398 : decode cL_beds 398 = .ok (.ireturn, 1) := by decide +kernel
theorem dL_beds_399 : decode cL_beds 399 = .ok (.iinc 5 1, 3) := by decide +kernel
theorem dL_beds_402 : decode cL_beds 402 = .ok (.goto (-131), 3) := by decide +kernel
theorem dL_beds_405 : decode cL_beds 405 = .ok (.aload_n 1, 1) := by decide +kernel
theorem dL_beds_406 : decode cL_beds 406 = .ok (.iconst 0, 1) := by decide +kernel
theorem dL_beds_407 : decode cL_beds 407 = .ok (.iaload, 1) := by decide +kernel
theorem dL_beds_408 : decode cL_beds 408 = .ok (.aload_n 0, 1) := by decide +kernel
theorem dL_beds_409 : decode cL_beds 409 = .ok (.iconst 0, 1) := by decide +kernel
theorem dL_beds_410 : decode cL_beds 410 = .ok (.invokevirtual 61, 3) := by decide +kernel
theorem dL_beds_413 : decode cL_beds 413 = .ok (.if_icmp .ne 93, 3) := by decide +kernel
theorem dL_beds_416 : decode cL_beds 416 = .ok (.aload_n 1, 1) := by decide +kernel
theorem dL_beds_417 : decode cL_beds 417 = .ok (.iconst 1, 1) := by decide +kernel
theorem dL_beds_418 : decode cL_beds 418 = .ok (.iaload, 1) := by decide +kernel
theorem dL_beds_419 : decode cL_beds 419 = .ok (.aload_n 0, 1) := by decide +kernel
theorem dL_beds_420 : decode cL_beds 420 = .ok (.iconst 1, 1) := by decide +kernel
theorem dL_beds_421 : decode cL_beds 421 = .ok (.invokevirtual 61, 3) := by decide +kernel
theorem dL_beds_424 : decode cL_beds 424 = .ok (.if_icmp .ne 82, 3) := by decide +kernel
theorem dL_beds_427 : decode cL_beds 427 = .ok (.aload_n 1, 1) := by decide +kernel
theorem dL_beds_428 : decode cL_beds 428 = .ok (.iconst 2, 1) := by decide +kernel
theorem dL_beds_429 : decode cL_beds 429 = .ok (.iaload, 1) := by decide +kernel
theorem dL_beds_430 : decode cL_beds 430 = .ok (.aload_n 0, 1) := by decide +kernel
theorem dL_beds_431 : decode cL_beds 431 = .ok (.iconst 2, 1) := by decide +kernel
theorem dL_beds_432 : decode cL_beds 432 = .ok (.invokevirtual 61, 3) := by decide +kernel
theorem dL_beds_435 : decode cL_beds 435 = .ok (.if_icmp .ne 71, 3) := by decide +kernel
theorem dL_beds_438 : decode cL_beds 438 = .ok (.aload_n 1, 1) := by decide +kernel
theorem dL_beds_439 : decode cL_beds 439 = .ok (.iconst 0, 1) := by decide +kernel
theorem dL_beds_440 : decode cL_beds 440 = .ok (.iaload, 1) := by decide +kernel
theorem dL_beds_441 : decode cL_beds 441 = .ok (.aload_n 1, 1) := by decide +kernel
theorem dL_beds_442 : decode cL_beds 442 = .ok (.iconst 1, 1) := by decide +kernel
theorem dL_beds_443 : decode cL_beds 443 = .ok (.iaload, 1) := by decide +kernel
theorem dL_beds_444 : decode cL_beds 444 = .ok (.iadd, 1) := by decide +kernel
theorem dL_beds_445 : decode cL_beds 445 = .ok (.aload_n 1, 1) := by decide +kernel
theorem dL_beds_446 : decode cL_beds 446 = .ok (.iconst 2, 1) := by decide +kernel
theorem dL_beds_447 : decode cL_beds 447 = .ok (.iaload, 1) := by decide +kernel
theorem dL_beds_448 : decode cL_beds 448 = .ok (.iadd, 1) := by decide +kernel
theorem dL_beds_449 : decode cL_beds 449 = .ok (.bipush 32, 2) := by decide +kernel
theorem dL_beds_451 : decode cL_beds 451 = .ok (.if_icmp .ne 55, 3) := by decide +kernel
theorem dL_beds_454 : decode cL_beds 454 = .ok (.iload_n 2, 1) := by decide +kernel
theorem dL_beds_455 : decode cL_beds 455 = .ok (.aload_n 0, 1) := by decide +kernel
theorem dL_beds_456 : decode cL_beds 456 = .ok (.iconst 3, 1) := by decide +kernel
theorem dL_beds_457 : decode cL_beds 457 = .ok (.invokevirtual 61, 3) := by decide +kernel
theorem dL_beds_460 : decode cL_beds 460 = .ok (.if_icmp .ne 46, 3) := by decide +kernel
theorem dL_beds_463 : decode cL_beds 463 = .ok (.iload_n 3, 1) := by decide +kernel
theorem dL_beds_464 : decode cL_beds 464 = .ok (.aload_n 0, 1) := by decide +kernel
theorem dL_beds_465 : decode cL_beds 465 = .ok (.bipush 9, 2) := by decide +kernel
theorem dL_beds_467 : decode cL_beds 467 = .ok (.invokevirtual 61, 3) := by decide +kernel
theorem dL_beds_470 : decode cL_beds 470 = .ok (.if_icmp .ne 36, 3) := by decide +kernel
theorem dL_beds_473 : decode cL_beds 473 = .ok (.iload 4, 2) := by decide +kernel
theorem dL_beds_475 : decode cL_beds 475 = .ok (.sipush (-1000), 3) := by decide +kernel
theorem dL_beds_478 : decode cL_beds 478 = .ok (.if_icmp .ne 7, 3) := by decide +kernel
theorem dL_beds_481 : decode cL_beds 481 = .ok (.iconst 1, 1) := by decide +kernel
theorem dL_beds_482 : decode cL_beds 482 = .ok (.goto 4, 3) := by decide +kernel
theorem dL_beds_485 : decode cL_beds 485 = .ok (.iconst 0, 1) := by decide +kernel
theorem dL_beds_486 : decode cL_beds 486 = .ok (.aload_n 1, 1) := by decide +kernel
theorem dL_beds_487 : decode cL_beds 487 = .ok (.iconst 0, 1) := by decide +kernel
theorem dL_beds_488 : decode cL_beds 488 = .ok (.iaload, 1) := by decide +kernel
theorem dL_beds_489 : decode cL_beds 489 = .ok (.iload_n 2, 1) := by decide +kernel
theorem dL_beds_490 : decode cL_beds 490 = .ok (.iadd, 1) := by decide +kernel
theorem dL_beds_491 : decode cL_beds 491 = .ok (.ifCond .ne 7, 3) := by decide +kernel
theorem dL_beds_494 : decode cL_beds 494 = .ok (.iconst 1, 1) := by decide +kernel
theorem dL_beds_495 : decode cL_beds 495 = .ok (.goto 4, 3) := by decide +kernel
theorem dL_beds_498 : decode cL_beds 498 = .ok (.iconst 0, 1) := by decide +kernel
theorem dL_beds_499 : decode cL_beds 499 = .ok (.if_icmp .ne 7, 3) := by decide +kernel
theorem dL_beds_502 : decode cL_beds 502 = .ok (.iconst 1, 1) := by decide +kernel
theorem dL_beds_503 : decode cL_beds 503 = .ok (.goto 4, 3) := by decide +kernel
theorem dL_beds_506 : decode cL_beds 506 = .ok (.iconst 0, 1) := by decide +kernel
theorem dL_beds_507 : decode cL_beds 507 = .ok (.ireturn, 1) := by decide +kernel
theorem dL_roots_0 : decode cL_roots 0 = .ok (.aload_n 0, 1) := by decide +kernel
theorem dL_roots_1 : decode cL_roots 1 = .ok (.iconst 1, 1) := by decide +kernel
theorem dL_roots_2 : decode cL_roots 2 = .ok (.iconst 3, 1) := by decide +kernel
theorem dL_roots_3 : decode cL_roots 3 = .ok (.invokevirtual 67, 3) := by decide +kernel
theorem dL_roots_6 : decode cL_roots 6 = .ok (.istore_n 1, 1) := by decide +kernel
theorem dL_roots_7 : decode cL_roots 7 = .ok (.aload_n 0, 1) := by decide +kernel
theorem dL_roots_8 : decode cL_roots 8 = .ok (.iload_n 1, 1) := by decide +kernel
theorem dL_roots_9 : decode cL_roots 9 = .ok (.iconst 0, 1) := by decide +kernel
theorem dL_roots_10 : decode cL_roots 10 = .ok (.invokevirtual 67, 3) := by decide +kernel
theorem dL_roots_13 : decode cL_roots 13 = .ok (.istore_n 2, 1) := by decide +kernel
theorem dL_roots_14 : decode cL_roots 14 = .ok (.iload_n 2, 1) := by decide +kernel
theorem dL_roots_15 : decode cL_roots 15 = .ok (.istore_n 3, 1) := by decide +kernel
theorem dL_roots_16 : decode cL_roots 16 = .ok (.iconst 0, 1) := by decide +kernel
theorem dL_roots_17 : decode cL_roots 17 = .ok (.istore 4, 2) := by decide +kernel
theorem dL_roots_19 : decode cL_roots 19 = .ok (.iconst 0, 1) := by decide +kernel
theorem dL_roots_20 : decode cL_roots 20 = .ok (.istore 5, 2) := by decide +kernel
theorem dL_roots_22 : decode cL_roots 22 = .ok (.iload 5, 2) := by decide +kernel
theorem dL_roots_24 : decode cL_roots 24 = .ok (.iconst 2, 1) := by decide +kernel
theorem dL_roots_25 : decode cL_roots 25 = .ok (.if_icmp .ge 103, 3) := by decide +kernel
theorem dL_roots_28 : decode cL_roots 28 = .ok (.aload_n 0, 1) := by decide +kernel
theorem dL_roots_29 : decode cL_roots 29 = .ok (.iload 5, 2) := by decide +kernel
theorem dL_roots_31 : decode cL_roots 31 = .ok (.iconst 2, 1) := by decide +kernel
theorem dL_roots_32 : decode cL_roots 32 = .ok (.invokevirtual 67, 3) := by decide +kernel
theorem dL_roots_35 : decode cL_roots 35 = .ok (.iconst 1, 1) := by decide +kernel
theorem dL_roots_36 : decode cL_roots 36 = .ok (.if_icmp .ne 24, 3) := by decide +kernel
theorem dL_roots_39 : decode cL_roots 39 = .ok (.aload_n 0, 1) := by decide +kernel
theorem dL_roots_40 : decode cL_roots 40 = .ok (.iload 5, 2) := by decide +kernel
theorem dL_roots_42 : decode cL_roots 42 = .ok (.iconst 0, 1) := by decide +kernel
theorem dL_roots_43 : decode cL_roots 43 = .ok (.invokevirtual 67, 3) := by decide +kernel
theorem dL_roots_46 : decode cL_roots 46 = .ok (.iload_n 3, 1) := by decide +kernel
theorem dL_roots_47 : decode cL_roots 47 = .ok (.if_icmp .ge 13, 3) := by decide +kernel
theorem dL_roots_50 : decode cL_roots 50 = .ok (.aload_n 0, 1) := by decide +kernel
theorem dL_roots_51 : decode cL_roots 51 = .ok (.iload 5, 2) := by decide +kernel
theorem dL_roots_53 : decode cL_roots 53 = .ok (.iconst 0, 1) := by decide +kernel
theorem dL_roots_54 : decode cL_roots 54 = .ok (.invokevirtual 67, 3) := by decide +kernel
theorem dL_roots_57 : decode cL_roots 57 = .ok (.goto 4, 3) := by decide +kernel
theorem dL_roots_60 : decode cL_roots 60 = .ok (.iload_n 3, 1) := by decide +kernel
theorem dL_roots_61 : decode cL_roots 61 = .ok (.istore_n 3, 1) := by decide +kernel
theorem dL_roots_62 : decode cL_roots 62 = .ok (.aload_n 0, 1) := by decide +kernel
theorem dL_roots_63 : decode cL_roots 63 = .ok (.iload 5, 2) := by decide +kernel
theorem dL_roots_65 : decode cL_roots 65 = .ok (.iconst 2, 1) := by decide +kernel
theorem dL_roots_66 : decode cL_roots 66 = .ok (.invokevirtual 67, 3) := by decide +kernel
theorem dL_roots_69 : decode cL_roots 69 = .ok (.iconst 1, 1) := by decide +kernel
theorem dL_roots_70 : decode cL_roots 70 = .ok (.if_icmp .ne 52, 3) := by decide +kernel
theorem dL_roots_73 : decode cL_roots 73 = .ok (.aload_n 0, 1) := by decide +kernel
theorem dL_roots_74 : decode cL_roots 74 = .ok (.aload_n 0, 1) := by decide +kernel
theorem dL_roots_75 : decode cL_roots 75 = .ok (.iload 5, 2) := by decide +kernel
theorem dL_roots_77 : decode cL_roots 77 = .ok (.iconst 1, 1) := by decide +kernel
theorem dL_roots_78 : decode cL_roots 78 = .ok (.invokevirtual 67, 3) := by decide +kernel
theorem dL_roots_81 : decode cL_roots 81 = .ok (.iconst 0, 1) := by decide +kernel
theorem dL_roots_82 : decode cL_roots 82 = .ok (.invokevirtual 56, 3) := by decide +kernel
theorem dL_roots_85 : decode cL_roots 85 = .ok (.ifCond .eq 35, 3) := by decide +kernel
theorem dL_roots_88 : decode cL_roots 88 = .ok (.aload_n 0, 1) := by decide +kernel
theorem dL_roots_89 : decode cL_roots 89 = .ok (.aload_n 0, 1) := by decide +kernel
theorem dL_roots_90 : decode cL_roots 90 = .ok (.iload 5, 2) := by decide +kernel
theorem dL_roots_92 : decode cL_roots 92 = .ok (.iconst 1, 1) := by decide +kernel
theorem dL_roots_93 : decode cL_roots 93 = .ok (.invokevirtual 67, 3) := by decide +kernel
theorem dL_roots_96 : decode cL_roots 96 = .ok (.iconst 4, 1) := by decide +kernel
theorem dL_roots_97 : decode cL_roots 97 = .ok (.invokevirtual 56, 3) := by decide +kernel
theorem dL_roots_100 : decode cL_roots 100 = .ok (.iconst 1, 1) := by decide +kernel
theorem dL_roots_101 : decode cL_roots 101 = .ok (.if_icmp .eq 19, 3) := by decide +kernel
theorem dL_roots_104 : decode cL_roots 104 = .ok (.aload_n 0, 1) := by decide +kernel
theorem dL_roots_105 : decode cL_roots 105 = .ok (.aload_n 0, 1) := by decide +kernel
theorem dL_roots_106 : decode cL_roots 106 = .ok (.iload 5, 2) := by decide +kernel
theorem dL_roots_108 : decode cL_roots 108 = .ok (.iconst 1, 1) := by decide +kernel
theorem dL_roots_109 : decode cL_roots 109 = .ok (.invokevirtual 67, 3) := by decide +kernel
theorem dL_roots_112 : decode cL_roots 112 = .ok (.iconst 1, 1) := by decide +kernel
theorem dL_roots_113 : decode cL_roots 113 = .ok (.invokevirtual 56, 3) := by decide +kernel
theorem dL_roots_116 : decode cL_roots 116 = .ok (.iconst 1, 1) := by decide +kernel
theorem dL_roots_117 : decode cL_roots 117 = .ok (.if_icmp .eq 5, 3) := by decide +kernel
theorem dL_roots_120 : decode cL_roots 120 = .ok (.iconst 0, 1) := by decide +kernel
theorem dL_roots_121 : decode cL_roots 121 = .ok (.ireturn, 1) := by decide +kernel
theorem dL_roots_122 : decode cL_roots 122 = .ok (.iinc 5 1, 3) := by decide +kernel
theorem dL_roots_125 : decode cL_roots 125 = .ok (.goto (-103), 3) := by decide +kernel
theorem dL_roots_128 : decode cL_roots 128 = .ok (.iconst 0, 1) := by decide +kernel
theorem dL_roots_129 : decode cL_roots 129 = .ok (.istore 5, 2) := by decide +kernel
theorem dL_roots_131 : decode cL_roots 131 = .ok (.iload 5, 2) := by decide +kernel
theorem dL_roots_133 : decode cL_roots 133 = .ok (.iconst 4, 1) := by decide +kernel
theorem dL_roots_134 : decode cL_roots 134 = .ok (.if_icmp .ge 198, 3) := by decide +kernel
theorem dL_roots_137 : decode cL_roots 137 = .ok (.aload_n 0, 1) := by decide +kernel
theorem dL_roots_138 : decode cL_roots 138 = .ok (.iload 5, 2) := by decide +kernel
theorem dL_roots_140 : decode cL_roots 140 = .ok (.iconst 0, 1) := by decide +kernel
theorem dL_roots_141 : decode cL_roots 141 = .ok (.invokevirtual 70, 3) := by decide +kernel
theorem dL_roots_144 : decode cL_roots 144 = .ok (.sipush (-1000), 3) := by decide +kernel
theorem dL_roots_147 : decode cL_roots 147 = .ok (.if_icmp .eq 7, 3) := by decide +kernel
theorem dL_roots_150 : decode cL_roots 150 = .ok (.iconst 1, 1) := by decide +kernel
theorem dL_roots_151 : decode cL_roots 151 = .ok (.goto 4, 3) := by decide +kernel
theorem dL_roots_154 : decode cL_roots 154 = .ok (.iconst 0, 1) := by decide +kernel
theorem dL_roots_155 : decode cL_roots 155 = .ok (.istore 6, 2) := by decide +kernel
theorem dL_roots_157 : decode cL_roots 157 = .ok (.iload 4, 2) := by decide +kernel
theorem dL_roots_159 : decode cL_roots 159 = .ok (.iload 6, 2) := by decide +kernel
theorem dL_roots_161 : decode cL_roots 161 = .ok (.ifCond .eq 7, 3) := by decide +kernel
theorem dL_roots_164 : decode cL_roots 164 = .ok (.iconst 1, 1) := by decide +kernel
theorem dL_roots_165 : decode cL_roots 165 = .ok (.goto 4, 3) := by decide +kernel
theorem dL_roots_168 : decode cL_roots 168 = .ok (.iconst 0, 1) := by decide +kernel
theorem dL_roots_169 : decode cL_roots 169 = .ok (.iadd, 1) := by decide +kernel
theorem dL_roots_170 : decode cL_roots 170 = .ok (.istore 4, 2) := by decide +kernel
theorem dL_roots_172 : decode cL_roots 172 = .ok (.iload 6, 2) := by decide +kernel
theorem dL_roots_174 : decode cL_roots 174 = .ok (.ifCond .eq 24, 3) := by decide +kernel
theorem dL_roots_177 : decode cL_roots 177 = .ok (.aload_n 0, 1) := by decide +kernel
theorem dL_roots_178 : decode cL_roots 178 = .ok (.iload 5, 2) := by decide +kernel
theorem dL_roots_180 : decode cL_roots 180 = .ok (.iconst 0, 1) := by decide +kernel
theorem dL_roots_181 : decode cL_roots 181 = .ok (.invokevirtual 70, 3) := by decide +kernel
theorem dL_roots_184 : decode cL_roots 184 = .ok (.iload_n 3, 1) := by decide +kernel
theorem dL_roots_185 : decode cL_roots 185 = .ok (.if_icmp .ge 13, 3) := by decide +kernel
theorem dL_roots_188 : decode cL_roots 188 = .ok (.aload_n 0, 1) := by decide +kernel
theorem dL_roots_189 : decode cL_roots 189 = .ok (.iload 5, 2) := by decide +kernel
theorem dL_roots_191 : decode cL_roots 191 = .ok (.iconst 0, 1) := by decide +kernel
theorem dL_roots_192 : decode cL_roots 192 = .ok (.invokevirtual 70, 3) := by decide +kernel
theorem dL_roots_195 : decode cL_roots 195 = .ok (.goto 4, 3) := by decide +kernel
theorem dL_roots_198 : decode cL_roots 198 = .ok (.iload_n 3, 1) := by decide +kernel
theorem dL_roots_199 : decode cL_roots 199 = .ok (.istore_n 3, 1) := by decide +kernel
theorem dL_roots_200 : decode cL_roots 200 = .ok (.iload 6, 2) := by decide +kernel
theorem dL_roots_202 : decode cL_roots 202 = .ok (.ifCond .eq 79, 3) := by decide +kernel
theorem dL_roots_205 : decode cL_roots 205 = .ok (.aload_n 0, 1) := by decide +kernel
theorem dL_roots_206 : decode cL_roots 206 = .ok (.iload 5, 2) := by decide +kernel
theorem dL_roots_208 : decode cL_roots 208 = .ok (.iconst 0, 1) := by decide +kernel
theorem dL_roots_209 : decode cL_roots 209 = .ok (.invokevirtual 70, 3) := by decide +kernel
theorem dL_roots_212 : decode cL_roots 212 = .ok (.iload_n 2, 1) := by decide +kernel
theorem dL_roots_213 : decode cL_roots 213 = .ok (.if_icmp .gt 111, 3) := by decide +kernel
theorem dL_roots_216 : decode cL_roots 216 = .ok (.aload_n 0, 1) := by decide +kernel
theorem dL_roots_217 : decode cL_roots 217 = .ok (.aload_n 0, 1) := by decide +kernel
theorem dL_roots_218 : decode cL_roots 218 = .ok (.iload 5, 2) := by decide +kernel
theorem dL_roots_220 : decode cL_roots 220 = .ok (.iconst 1, 1) := by decide +kernel
theorem dL_roots_221 : decode cL_roots 221 = .ok (.invokevirtual 70, 3) := by decide +kernel
theorem dL_roots_224 : decode cL_roots 224 = .ok (.iconst 0, 1) := by decide +kernel
theorem dL_roots_225 : decode cL_roots 225 = .ok (.invokevirtual 56, 3) := by decide +kernel
theorem dL_roots_228 : decode cL_roots 228 = .ok (.ifCond .eq 96, 3) := by decide +kernel
theorem dL_roots_231 : decode cL_roots 231 = .ok (.aload_n 0, 1) := by decide +kernel
theorem dL_roots_232 : decode cL_roots 232 = .ok (.aload_n 0, 1) := by decide +kernel
theorem dL_roots_233 : decode cL_roots 233 = .ok (.iload 5, 2) := by decide +kernel
theorem dL_roots_235 : decode cL_roots 235 = .ok (.iconst 1, 1) := by decide +kernel
theorem dL_roots_236 : decode cL_roots 236 = .ok (.invokevirtual 70, 3) := by decide +kernel
theorem dL_roots_239 : decode cL_roots 239 = .ok (.iconst 4, 1) := by decide +kernel
theorem dL_roots_240 : decode cL_roots 240 = .ok (.invokevirtual 56, 3) := by decide +kernel
theorem dL_roots_243 : decode cL_roots 243 = .ok (.iconst 1, 1) := by decide +kernel
theorem dL_roots_244 : decode cL_roots 244 = .ok (.if_icmp .eq 80, 3) := by decide +kernel
theorem dL_roots_247 : decode cL_roots 247 = .ok (.aload_n 0, 1) := by decide +kernel
theorem dL_roots_248 : decode cL_roots 248 = .ok (.iload 5, 2) := by decide +kernel
theorem dL_roots_250 : decode cL_roots 250 = .ok (.iconst 0, 1) := by decide +kernel
theorem dL_roots_251 : decode cL_roots 251 = .ok (.invokevirtual 70, 3) := by decide +kernel
theorem dL_roots_254 : decode cL_roots 254 = .ok (.iload_n 2, 1) := by decide +kernel
theorem dL_roots_255 : decode cL_roots 255 = .ok (.if_icmp .ne 12, 3) := by decide +kernel
theorem dL_roots_258 : decode cL_roots 258 = .ok (.aload_n 0, 1) := by decide +kernel
theorem dL_roots_259 : decode cL_roots 259 = .ok (.iload 5, 2) := by decide +kernel
theorem dL_roots_261 : decode cL_roots 261 = .ok (.invokevirtual 50, 3) := by decide +kernel
theorem dL_roots_264 : decode cL_roots 264 = .ok (.ifCond .ne 60, 3) := by decide +kernel
theorem dL_roots_267 : decode cL_roots 267 = .ok (.aload_n 0, 1) := by decide +kernel
theorem dL_roots_268 : decode cL_roots 268 = .ok (.iload 5, 2) := by decide +kernel
theorem dL_roots_270 : decode cL_roots 270 = .ok (.invokevirtual 73, 3) := by decide +kernel
theorem dL_roots_273 : decode cL_roots 273 = .ok (.aload_n 0, 1) := by decide +kernel
theorem dL_roots_274 : decode cL_roots 274 = .ok (.iconst 4, 1) := by decide +kernel
theorem dL_roots_275 : decode cL_roots 275 = .ok (.invokevirtual 61, 3) := by decide +kernel
theorem dL_roots_278 : decode cL_roots 278 = .ok (.if_icmp .lt 46, 3) := by decide +kernel
theorem dL_roots_281 : decode cL_roots 281 = .ok (.iload 6, 2) := by decide +kernel
theorem dL_roots_283 : decode cL_roots 283 = .ok (.ifCond .ne 43, 3) := by decide +kernel
theorem dL_roots_286 : decode cL_roots 286 = .ok (.aload_n 0, 1) := by decide +kernel
theorem dL_roots_287 : decode cL_roots 287 = .ok (.iload 5, 2) := by decide +kernel
theorem dL_roots_289 : decode cL_roots 289 = .ok (.invokestatic 76, 3) := by decide +kernel
theorem dL_roots_292 : decode cL_roots 292 = .ok (.sipush (-2902), 3) := by decide +kernel
theorem dL_roots_295 : decode cL_roots 295 = .ok (.if_icmp .ne 29, 3) := by decide +kernel
theorem dL_roots_298 : decode cL_roots 298 = .ok (.aload_n 0, 1) := by decide +kernel
theorem dL_roots_299 : decode cL_roots 299 = .ok (.iload 5, 2) := by decide +kernel
theorem dL_roots_301 : decode cL_roots 301 = .ok (.iconst 0, 1) := by decide +kernel
theorem dL_roots_302 : decode cL_roots 302 = .ok (.invokestatic 80, 3) := by decide +kernel
theorem dL_roots_305 : decode cL_roots 305 = .ok (.sipush (-2902), 3) := by decide +kernel
theorem dL_roots_308 : decode cL_roots 308 = .ok (.if_icmp .ne 16, 3) := by decide +kernel
theorem dL_roots_311 : decode cL_roots 311 = .ok (.aload_n 0, 1) := by decide +kernel
theorem dL_roots_312 : decode cL_roots 312 = .ok (.iload 5, 2) := by decide +kernel
theorem dL_roots_314 : decode cL_roots 314 = .ok (.iconst 2, 1) := by decide +kernel
theorem dL_roots_315 : decode cL_roots 315 = .ok (.invokevirtual 70, 3) := by decide +kernel
theorem dL_roots_318 : decode cL_roots 318 = .ok (.sipush (-1000), 3) := by decide +kernel
theorem dL_roots_321 : decode cL_roots 321 = .ok (.if_icmp .eq 5, 3) := by decide +kernel
theorem dL_roots_324 : decode cL_roots 324 = .ok (.iconst 0, 1) := by decide +kernel
theorem dL_roots_325 : decode cL_roots 325 = .ok (.ireturn, 1) := by decide +kernel
theorem dL_roots_326 : decode cL_roots 326 = .ok (.iinc 5 1, 3) := by decide +kernel
theorem dL_roots_329 : decode cL_roots 329 = .ok (.goto (-198), 3) := by decide +kernel
theorem dL_roots_332 : decode cL_roots 332 = .ok (.iconst 1, 1) := by decide +kernel
theorem dL_roots_333 : decode cL_roots 333 = .ok (.iload_n 1, 1) := by decide +kernel
theorem dL_roots_334 : decode cL_roots 334 = .ok (.isub, 1) := by decide +kernel
theorem dL_roots_335 : decode cL_roots 335 = .ok (.istore 5, 2) := by decide +kernel
theorem dL_roots_337 : decode cL_roots 337 = .ok (.aload_n 0, 1) := by decide +kernel
theorem dL_roots_338 : decode cL_roots 338 = .ok (.iconst 0, 1) := by decide +kernel
theorem dL_roots_339 : decode cL_roots 339 = .ok (.iconst 3, 1) := by decide +kernel
theorem dL_roots_340 : decode cL_roots 340 = .ok (.invokevirtual 67, 3) := by decide +kernel
theorem dL_roots_343 : decode cL_roots 343 = .ok (.aload_n 0, 1) := by decide +kernel
theorem dL_roots_344 : decode cL_roots 344 = .ok (.iconst 1, 1) := by decide +kernel
theorem dL_roots_345 : decode cL_roots 345 = .ok (.iconst 3, 1) := by decide +kernel
theorem dL_roots_346 : decode cL_roots 346 = .ok (.invokevirtual 67, 3) := by decide +kernel
theorem dL_roots_349 : decode cL_roots 349 = .ok (.iadd, 1) := by decide +kernel
theorem dL_roots_350 : decode cL_roots 350 = .ok (.iconst 1, 1) := by decide +kernel
theorem dL_roots_351 : decode cL_roots 351 = .ok (.if_icmp .ne 93, 3) := by decide +kernel
theorem dL_roots_354 : decode cL_roots 354 = .ok (.aload_n 0, 1) := by decide +kernel
theorem dL_roots_355 : decode cL_roots 355 = .ok (.iload_n 1, 1) := by decide +kernel
