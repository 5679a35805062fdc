theorem dL_acts_18 : decode cL_acts 18 = .ok (.bipush 100, 2) := by decide +kernel
theorem dL_acts_20 : decode cL_acts 20 = .ok (.goto 5, 3) := by decide +kernel
theorem dL_acts_23 : decode cL_acts 23 = .ok (.bipush 26, 2) := by decide +kernel
theorem dL_acts_25 : decode cL_acts 25 = .ok (.invokestatic 102, 3) := by decide +kernel
theorem dL_acts_28 : decode cL_acts 28 = .ok (.istore 4, 2) := by decide +kernel
theorem dL_acts_30 : decode cL_acts 30 = .ok (.aload_n 0, 1) := by decide +kernel
theorem dL_acts_31 : decode cL_acts 31 = .ok (.bipush 8, 2) := by decide +kernel
theorem dL_acts_33 : decode cL_acts 33 = .ok (.invokevirtual 61, 3) := by decide +kernel
theorem dL_acts_36 : decode cL_acts 36 = .ok (.iconst 1, 1) := by decide +kernel
theorem dL_acts_37 : decode cL_acts 37 = .ok (.if_icmp .ne 7, 3) := by decide +kernel
theorem dL_acts_40 : decode cL_acts 40 = .ok (.iconst 1, 1) := by decide +kernel
theorem dL_acts_41 : decode cL_acts 41 = .ok (.goto 4, 3) := by decide +kernel
theorem dL_acts_44 : decode cL_acts 44 = .ok (.iconst 0, 1) := by decide +kernel
theorem dL_acts_45 : decode cL_acts 45 = .ok (.istore 5, 2) := by decide +kernel
theorem dL_acts_47 : decode cL_acts 47 = .ok (.iload_n 3, 1) := by decide +kernel
theorem dL_acts_48 : decode cL_acts 48 = .ok (.bipush 10, 2) := by decide +kernel
theorem dL_acts_50 : decode cL_acts 50 = .ok (.if_icmp .ge 24, 3) := by decide +kernel
theorem dL_acts_53 : decode cL_acts 53 = .ok (.aload_n 0, 1) := by decide +kernel
theorem dL_acts_54 : decode cL_acts 54 = .ok (.iload 4, 2) := by decide +kernel
theorem dL_acts_56 : decode cL_acts 56 = .ok (.iload_n 2, 1) := by decide +kernel
theorem dL_acts_57 : decode cL_acts 57 = .ok (.bipush 7, 2) := by decide +kernel
theorem dL_acts_59 : decode cL_acts 59 = .ok (.ishr, 1) := by decide +kernel
theorem dL_acts_60 : decode cL_acts 60 = .ok (.sipush 1999, 3) := by decide +kernel
theorem dL_acts_63 : decode cL_acts 63 = .ok (.invokestatic 102, 3) := by decide +kernel
theorem dL_acts_66 : decode cL_acts 66 = .ok (.sipush 999, 3) := by decide +kernel
theorem dL_acts_69 : decode cL_acts 69 = .ok (.isub, 1) := by decide +kernel
theorem dL_acts_70 : decode cL_acts 70 = .ok (.invokestatic 107, 3) := by decide +kernel
theorem dL_acts_73 : decode cL_acts 73 = .ok (.ireturn, 1) := by decide +kernel
theorem dL_acts_74 : decode cL_acts 74 = .ok (.iload_n 3, 1) := by decide +kernel
theorem dL_acts_75 : decode cL_acts 75 = .ok (.bipush 12, 2) := by decide +kernel
theorem dL_acts_77 : decode cL_acts 77 = .ok (.if_icmp .ge 128, 3) := by decide +kernel
theorem dL_acts_80 : decode cL_acts 80 = .ok (.aload_n 0, 1) := by decide +kernel
theorem dL_acts_81 : decode cL_acts 81 = .ok (.iload 4, 2) := by decide +kernel
theorem dL_acts_83 : decode cL_acts 83 = .ok (.invokestatic 95, 3) := by decide +kernel
theorem dL_acts_86 : decode cL_acts 86 = .ok (.istore 6, 2) := by decide +kernel
theorem dL_acts_88 : decode cL_acts 88 = .ok (.aload_n 0, 1) := by decide +kernel
theorem dL_acts_89 : decode cL_acts 89 = .ok (.bipush 9, 2) := by decide +kernel
theorem dL_acts_91 : decode cL_acts 91 = .ok (.invokevirtual 61, 3) := by decide +kernel
theorem dL_acts_94 : decode cL_acts 94 = .ok (.istore 7, 2) := by decide +kernel
theorem dL_acts_96 : decode cL_acts 96 = .ok (.aload_n 0, 1) := by decide +kernel
theorem dL_acts_97 : decode cL_acts 97 = .ok (.iload 4, 2) := by decide +kernel
theorem dL_acts_99 : decode cL_acts 99 = .ok (.invokestatic 111, 3) := by decide +kernel
theorem dL_acts_102 : decode cL_acts 102 = .ok (.istore 8, 2) := by decide +kernel
theorem dL_acts_104 : decode cL_acts 104 = .ok (.iload 8, 2) := by decide +kernel
theorem dL_acts_106 : decode cL_acts 106 = .ok (.sipush (-2902), 3) := by decide +kernel
theorem dL_acts_109 : decode cL_acts 109 = .ok (.if_icmp .ne 33, 3) := by decide +kernel
theorem dL_acts_112 : decode cL_acts 112 = .ok (.aload_n 0, 1) := by decide +kernel
theorem dL_acts_113 : decode cL_acts 113 = .ok (.iload 4, 2) := by decide +kernel
theorem dL_acts_115 : decode cL_acts 115 = .ok (.invokestatic 95, 3) := by decide +kernel
theorem dL_acts_118 : decode cL_acts 118 = .ok (.iload 6, 2) := by decide +kernel
theorem dL_acts_120 : decode cL_acts 120 = .ok (.if_icmp .ne 18, 3) := by decide +kernel
theorem dL_acts_123 : decode cL_acts 123 = .ok (.aload_n 0, 1) := by decide +kernel
theorem dL_acts_124 : decode cL_acts 124 = .ok (.bipush 9, 2) := by decide +kernel
theorem dL_acts_126 : decode cL_acts 126 = .ok (.invokevirtual 61, 3) := by decide +kernel
theorem dL_acts_129 : decode cL_acts 129 = .ok (.iload 7, 2) := by decide +kernel
theorem dL_acts_131 : decode cL_acts 131 = .ok (.if_icmp .ne 7, 3) := by decide +kernel
theorem dL_acts_134 : decode cL_acts 134 = .ok (.iconst 1, 1) := by decide +kernel
theorem dL_acts_135 : decode cL_acts 135 = .ok (.goto 69, 3) := by decide +kernel
theorem dL_acts_138 : decode cL_acts 138 = .ok (.iconst 0, 1) := by decide +kernel
theorem dL_acts_139 : decode cL_acts 139 = .ok (.goto 65, 3) := by decide +kernel
theorem dL_acts_142 : decode cL_acts 142 = .ok (.iload 8, 2) := by decide +kernel
theorem dL_acts_144 : decode cL_acts 144 = .ok (.iload 6, 2) := by decide +kernel
theorem dL_acts_146 : decode cL_acts 146 = .ok (.if_icmp .ne 57, 3) := by decide +kernel
theorem dL_acts_149 : decode cL_acts 149 = .ok (.iload 6, 2) := by decide +kernel
theorem dL_acts_151 : decode cL_acts 151 = .ok (.sipush (-1000), 3) := by decide +kernel
theorem dL_acts_154 : decode cL_acts 154 = .ok (.if_icmp .eq 49, 3) := by decide +kernel
theorem dL_acts_157 : decode cL_acts 157 = .ok (.aload_n 0, 1) := by decide +kernel
theorem dL_acts_158 : decode cL_acts 158 = .ok (.iload 4, 2) := by decide +kernel
theorem dL_acts_160 : decode cL_acts 160 = .ok (.invokevirtual 44, 3) := by decide +kernel
theorem dL_acts_163 : decode cL_acts 163 = .ok (.sipush (-1000), 3) := by decide +kernel
theorem dL_acts_166 : decode cL_acts 166 = .ok (.if_icmp .ne 37, 3) := by decide +kernel
theorem dL_acts_169 : decode cL_acts 169 = .ok (.aload_n 0, 1) := by decide +kernel
theorem dL_acts_170 : decode cL_acts 170 = .ok (.bipush 9, 2) := by decide +kernel
theorem dL_acts_172 : decode cL_acts 172 = .ok (.invokevirtual 61, 3) := by decide +kernel
theorem dL_acts_175 : decode cL_acts 175 = .ok (.iload 7, 2) := by decide +kernel
theorem dL_acts_177 : decode cL_acts 177 = .ok (.iconst 2, 1) := by decide +kernel
theorem dL_acts_178 : decode cL_acts 178 = .ok (.iadd, 1) := by decide +kernel
theorem dL_acts_179 : decode cL_acts 179 = .ok (.if_icmp .gt 24, 3) := by decide +kernel
theorem dL_acts_182 : decode cL_acts 182 = .ok (.aload_n 0, 1) := by decide +kernel
theorem dL_acts_183 : decode cL_acts 183 = .ok (.bipush 9, 2) := by decide +kernel
theorem dL_acts_185 : decode cL_acts 185 = .ok (.invokevirtual 61, 3) := by decide +kernel
theorem dL_acts_188 : decode cL_acts 188 = .ok (.iload 7, 2) := by decide +kernel
theorem dL_acts_190 : decode cL_acts 190 = .ok (.if_icmp .ge 9, 3) := by decide +kernel
theorem dL_acts_193 : decode cL_acts 193 = .ok (.iload 7, 2) := by decide +kernel
theorem dL_acts_195 : decode cL_acts 195 = .ok (.iconst 1, 1) := by decide +kernel
theorem dL_acts_196 : decode cL_acts 196 = .ok (.if_icmp .le 7, 3) := by decide +kernel
theorem dL_acts_199 : decode cL_acts 199 = .ok (.iconst 1, 1) := by decide +kernel
theorem dL_acts_200 : decode cL_acts 200 = .ok (.goto 4, 3) := by decide +kernel
theorem dL_acts_203 : decode cL_acts 203 = .ok (.iconst 0, 1) := by decide +kernel
theorem dL_acts_204 : decode cL_acts 204 = .ok (.ireturn, 1) := by decide +kernel
theorem dL_acts_205 : decode cL_acts 205 = .ok (.iload_n 3, 1) := by decide +kernel
theorem dL_acts_206 : decode cL_acts 206 = .ok (.bipush 15, 2) := by decide +kernel
theorem dL_acts_208 : decode cL_acts 208 = .ok (.if_icmp .ge 107, 3) := by decide +kernel
theorem dL_acts_211 : decode cL_acts 211 = .ok (.aload_n 0, 1) := by decide +kernel
theorem dL_acts_212 : decode cL_acts 212 = .ok (.aload_n 0, 1) := by decide +kernel
theorem dL_acts_213 : decode cL_acts 213 = .ok (.iconst 1, 1) := by decide +kernel
theorem dL_acts_214 : decode cL_acts 214 = .ok (.iconst 3, 1) := by decide +kernel
theorem dL_acts_215 : decode cL_acts 215 = .ok (.invokevirtual 67, 3) := by decide +kernel
theorem dL_acts_218 : decode cL_acts 218 = .ok (.iconst 0, 1) := by decide +kernel
theorem dL_acts_219 : decode cL_acts 219 = .ok (.invokevirtual 67, 3) := by decide +kernel
theorem dL_acts_222 : decode cL_acts 222 = .ok (.istore 6, 2) := by decide +kernel
theorem dL_acts_224 : decode cL_acts 224 = .ok (.aload_n 0, 1) := by decide +kernel
theorem dL_acts_225 : decode cL_acts 225 = .ok (.iload_n 3, 1) := by decide +kernel
theorem dL_acts_226 : decode cL_acts 226 = .ok (.bipush 12, 2) := by decide +kernel
theorem dL_acts_228 : decode cL_acts 228 = .ok (.if_icmp .ne 11, 3) := by decide +kernel
theorem dL_acts_231 : decode cL_acts 231 = .ok (.iload_n 2, 1) := by decide +kernel
theorem dL_acts_232 : decode cL_acts 232 = .ok (.iconst 4, 1) := by decide +kernel
theorem dL_acts_233 : decode cL_acts 233 = .ok (.invokestatic 102, 3) := by decide +kernel
theorem dL_acts_236 : decode cL_acts 236 = .ok (.goto 4, 3) := by decide +kernel
theorem dL_acts_239 : decode cL_acts 239 = .ok (.iconst 3, 1) := by decide +kernel
theorem dL_acts_240 : decode cL_acts 240 = .ok (.iload_n 2, 1) := by decide +kernel
theorem dL_acts_241 : decode cL_acts 241 = .ok (.iconst 3, 1) := by decide +kernel
theorem dL_acts_242 : decode cL_acts 242 = .ok (.ishr, 1) := by decide +kernel
theorem dL_acts_243 : decode cL_acts 243 = .ok (.invokestatic 113, 3) := by decide +kernel
theorem dL_acts_246 : decode cL_acts 246 = .ok (.istore 7, 2) := by decide +kernel
theorem dL_acts_248 : decode cL_acts 248 = .ok (.aload_n 0, 1) := by decide +kernel
theorem dL_acts_249 : decode cL_acts 249 = .ok (.aload_n 0, 1) := by decide +kernel
theorem dL_acts_250 : decode cL_acts 250 = .ok (.iconst 1, 1) := by decide +kernel
theorem dL_acts_251 : decode cL_acts 251 = .ok (.iconst 3, 1) := by decide +kernel
theorem dL_acts_252 : decode cL_acts 252 = .ok (.invokevirtual 67, 3) := by decide +kernel
theorem dL_acts_255 : decode cL_acts 255 = .ok (.iconst 0, 1) := by decide +kernel
theorem dL_acts_256 : decode cL_acts 256 = .ok (.invokevirtual 67, 3) := by decide +kernel
theorem dL_acts_259 : decode cL_acts 259 = .ok (.istore 6, 2) := by decide +kernel
theorem dL_acts_261 : decode cL_acts 261 = .ok (.iload 7, 2) := by decide +kernel
theorem dL_acts_263 : decode cL_acts 263 = .ok (.ifCond .eq 50, 3) := by decide +kernel
theorem dL_acts_266 : decode cL_acts 266 = .ok (.aload_n 0, 1) := by decide +kernel
theorem dL_acts_267 : decode cL_acts 267 = .ok (.invokevirtual 23, 3) := by decide +kernel
theorem dL_acts_270 : decode cL_acts 270 = .ok (.iload 6, 2) := by decide +kernel
theorem dL_acts_272 : decode cL_acts 272 = .ok (.if_icmp .ne 41, 3) := by decide +kernel
theorem dL_acts_275 : decode cL_acts 275 = .ok (.aload_n 0, 1) := by decide +kernel
theorem dL_acts_276 : decode cL_acts 276 = .ok (.invokestatic 116, 3) := by decide +kernel
theorem dL_acts_279 : decode cL_acts 279 = .ok (.sipush (-2902), 3) := by decide +kernel
theorem dL_acts_282 : decode cL_acts 282 = .ok (.if_icmp .ne 31, 3) := by decide +kernel
theorem dL_acts_285 : decode cL_acts 285 = .ok (.aload_n 0, 1) := by decide +kernel
theorem dL_acts_286 : decode cL_acts 286 = .ok (.iload 4, 2) := by decide +kernel
theorem dL_acts_288 : decode cL_acts 288 = .ok (.invokestatic 95, 3) := by decide +kernel
theorem dL_acts_291 : decode cL_acts 291 = .ok (.aload_n 0, 1) := by decide +kernel
theorem dL_acts_292 : decode cL_acts 292 = .ok (.iload 4, 2) := by decide +kernel
theorem dL_acts_294 : decode cL_acts 294 = .ok (.invokevirtual 83, 3) := by decide +kernel
theorem dL_acts_297 : decode cL_acts 297 = .ok (.if_icmp .ne 16, 3) := by decide +kernel
theorem dL_acts_300 : decode cL_acts 300 = .ok (.aload_n 0, 1) := by decide +kernel
theorem dL_acts_301 : decode cL_acts 301 = .ok (.bipush 9, 2) := by decide +kernel
theorem dL_acts_303 : decode cL_acts 303 = .ok (.invokevirtual 61, 3) := by decide +kernel
theorem dL_acts_306 : decode cL_acts 306 = .ok (.ifCond .ne 7, 3) := by decide +kernel
theorem dL_acts_309 : decode cL_acts 309 = .ok (.iconst 1, 1) := by decide +kernel
theorem dL_acts_310 : decode cL_acts 310 = .ok (.goto 4, 3) := by decide +kernel
theorem dL_acts_313 : decode cL_acts 313 = .ok (.iconst 0, 1) := by decide +kernel
theorem dL_acts_314 : decode cL_acts 314 = .ok (.ireturn, 1) := by decide +kernel
theorem dL_acts_315 : decode cL_acts 315 = .ok (.iload_n 3, 1) := by decide +kernel
theorem dL_acts_316 : decode cL_acts 316 = .ok (.bipush 15, 2) := by decide +kernel
theorem dL_acts_318 : decode cL_acts 318 = .ok (.if_icmp .ne 89, 3) := by decide +kernel
theorem dL_acts_321 : decode cL_acts 321 = .ok (.aload_n 0, 1) := by decide +kernel
theorem dL_acts_322 : decode cL_acts 322 = .ok (.bipush 9, 2) := by decide +kernel
theorem dL_acts_324 : decode cL_acts 324 = .ok (.invokevirtual 61, 3) := by decide +kernel
theorem dL_acts_327 : decode cL_acts 327 = .ok (.istore 6, 2) := by decide +kernel
theorem dL_acts_329 : decode cL_acts 329 = .ok (.aload_n 0, 1) := by decide +kernel
theorem dL_acts_330 : decode cL_acts 330 = .ok (.iconst 0, 1) := by decide +kernel
theorem dL_acts_331 : decode cL_acts 331 = .ok (.invokevirtual 61, 3) := by decide +kernel
theorem dL_acts_334 : decode cL_acts 334 = .ok (.istore 7, 2) := by decide +kernel
theorem dL_acts_336 : decode cL_acts 336 = .ok (.aload_n 0, 1) := by decide +kernel
theorem dL_acts_337 : decode cL_acts 337 = .ok (.invokestatic 119, 3) := by decide +kernel
theorem dL_acts_340 : decode cL_acts 340 = .ok (.istore 8, 2) := by decide +kernel
theorem dL_acts_342 : decode cL_acts 342 = .ok (.iload 8, 2) := by decide +kernel
theorem dL_acts_344 : decode cL_acts 344 = .ok (.sipush (-2902), 3) := by decide +kernel
theorem dL_acts_347 : decode cL_acts 347 = .ok (.if_icmp .ne 16, 3) := by decide +kernel
theorem dL_acts_350 : decode cL_acts 350 = .ok (.iload 5, 2) := by decide +kernel
theorem dL_acts_352 : decode cL_acts 352 = .ok (.ifCond .ne 7, 3) := by decide +kernel
theorem dL_acts_355 : decode cL_acts 355 = .ok (.iconst 1, 1) := by decide +kernel
theorem dL_acts_356 : decode cL_acts 356 = .ok (.goto 50, 3) := by decide +kernel
theorem dL_acts_359 : decode cL_acts 359 = .ok (.iconst 0, 1) := by decide +kernel
theorem dL_acts_360 : decode cL_acts 360 = .ok (.goto 46, 3) := by decide +kernel
theorem dL_acts_363 : decode cL_acts 363 = .ok (.iload 8, 2) := by decide +kernel
theorem dL_acts_365 : decode cL_acts 365 = .ok (.iload 6, 2) := by decide +kernel
theorem dL_acts_367 : decode cL_acts 367 = .ok (.if_icmp .ne 38, 3) := by decide +kernel
theorem dL_acts_370 : decode cL_acts 370 = .ok (.aload_n 0, 1) := by decide +kernel
theorem dL_acts_371 : decode cL_acts 371 = .ok (.iconst 0, 1) := by decide +kernel
theorem dL_acts_372 : decode cL_acts 372 = .ok (.invokevirtual 61, 3) := by decide +kernel
theorem dL_acts_375 : decode cL_acts 375 = .ok (.iload 7, 2) := by decide +kernel
theorem dL_acts_377 : decode cL_acts 377 = .ok (.iload 6, 2) := by decide +kernel
theorem dL_acts_379 : decode cL_acts 379 = .ok (.iadd, 1) := by decide +kernel
theorem dL_acts_380 : decode cL_acts 380 = .ok (.if_icmp .ne 25, 3) := by decide +kernel
theorem dL_acts_383 : decode cL_acts 383 = .ok (.aload_n 0, 1) := by decide +kernel
theorem dL_acts_384 : decode cL_acts 384 = .ok (.bipush 9, 2) := by decide +kernel
theorem dL_acts_386 : decode cL_acts 386 = .ok (.invokevirtual 61, 3) := by decide +kernel
theorem dL_acts_389 : decode cL_acts 389 = .ok (.ifCond .ne 16, 3) := by decide +kernel
theorem dL_acts_392 : decode cL_acts 392 = .ok (.aload_n 0, 1) := by decide +kernel
theorem dL_acts_393 : decode cL_acts 393 = .ok (.bipush 8, 2) := by decide +kernel
theorem dL_acts_395 : decode cL_acts 395 = .ok (.invokevirtual 61, 3) := by decide +kernel
theorem dL_acts_398 : decode cL_acts 398 = .ok (.ifCond .ne 7, 3) := by decide +kernel
theorem dL_acts_401 : decode cL_acts 401 = .ok (.iconst 1, 1) := by decide +kernel
theorem dL_acts_402 : decode cL_acts 402 = .ok (.goto 4, 3) := by decide +kernel
theorem dL_acts_405 : decode cL_acts 405 = .ok (.iconst 0, 1) := by decide +kernel
theorem dL_acts_406 : decode cL_acts 406 = .ok (.ireturn, 1) := by decide +kernel
theorem dL_acts_407 : decode cL_acts 407 = .ok (.iload_n 3, 1) := by decide +kernel
theorem dL_acts_408 : decode cL_acts 408 = .ok (.bipush 16, 2) := by decide +kernel
theorem dL_acts_410 : decode cL_acts 410 = .ok (.if_icmp .ne 103, 3) := by decide +kernel
theorem dL_acts_413 : decode cL_acts 413 = .ok (.aload_n 0, 1) := by decide +kernel
theorem dL_acts_414 : decode cL_acts 414 = .ok (.bipush 7, 2) := by decide +kernel
theorem dL_acts_416 : decode cL_acts 416 = .ok (.invokevirtual 61, 3) := by decide +kernel
theorem dL_acts_419 : decode cL_acts 419 = .ok (.istore 6, 2) := by decide +kernel
theorem dL_acts_421 : decode cL_acts 421 = .ok (.aload_n 0, 1) := by decide +kernel
theorem dL_acts_422 : decode cL_acts 422 = .ok (.invokestatic 121, 3) := by decide +kernel
theorem dL_acts_425 : decode cL_acts 425 = .ok (.istore 7, 2) := by decide +kernel
theorem dL_acts_427 : decode cL_acts 427 = .ok (.iload 7, 2) := by decide +kernel
theorem dL_acts_429 : decode cL_acts 429 = .ok (.sipush (-2902), 3) := by decide +kernel
theorem dL_acts_432 : decode cL_acts 432 = .ok (.if_icmp .ne 17, 3) := by decide +kernel
theorem dL_acts_435 : decode cL_acts 435 = .ok (.iload 6, 2) := by decide +kernel
theorem dL_acts_437 : decode cL_acts 437 = .ok (.iconst 4, 1) := by decide +kernel
theorem dL_acts_438 : decode cL_acts 438 = .ok (.if_icmp .ne 7, 3) := by decide +kernel
theorem dL_acts_441 : decode cL_acts 441 = .ok (.iconst 1, 1) := by decide +kernel
theorem dL_acts_442 : decode cL_acts 442 = .ok (.goto 70, 3) := by decide +kernel
theorem dL_acts_445 : decode cL_acts 445 = .ok (.iconst 0, 1) := by decide +kernel
theorem dL_acts_446 : decode cL_acts 446 = .ok (.goto 66, 3) := by decide +kernel
theorem dL_acts_449 : decode cL_acts 449 = .ok (.aload_n 0, 1) := by decide +kernel
theorem dL_acts_450 : decode cL_acts 450 = .ok (.iload 7, 2) := by decide +kernel
theorem dL_acts_452 : decode cL_acts 452 = .ok (.iconst 0, 1) := by decide +kernel
theorem dL_acts_453 : decode cL_acts 453 = .ok (.invokevirtual 70, 3) := by decide +kernel
theorem dL_acts_456 : decode cL_acts 456 = .ok (.aload_n 0, 1) := by decide +kernel
theorem dL_acts_457 : decode cL_acts 457 = .ok (.aload_n 0, 1) := by decide +kernel
theorem dL_acts_458 : decode cL_acts 458 = .ok (.iconst 1, 1) := by decide +kernel
theorem dL_acts_459 : decode cL_acts 459 = .ok (.iconst 3, 1) := by decide +kernel
theorem dL_acts_460 : decode cL_acts 460 = .ok (.invokevirtual 67, 3) := by decide +kernel
theorem dL_acts_463 : decode cL_acts 463 = .ok (.iconst 0, 1) := by decide +kernel
theorem dL_acts_464 : decode cL_acts 464 = .ok (.invokevirtual 67, 3) := by decide +kernel
theorem dL_acts_467 : decode cL_acts 467 = .ok (.if_icmp .ne 44, 3) := by decide +kernel
theorem dL_acts_470 : decode cL_acts 470 = .ok (.aload_n 0, 1) := by decide +kernel
theorem dL_acts_471 : decode cL_acts 471 = .ok (.iload 7, 2) := by decide +kernel
theorem dL_acts_473 : decode cL_acts 473 = .ok (.iconst 2, 1) := by decide +kernel
theorem dL_acts_474 : decode cL_acts 474 = .ok (.invokevirtual 70, 3) := by decide +kernel
theorem dL_acts_477 : decode cL_acts 477 = .ok (.aload_n 0, 1) := by decide +kernel
theorem dL_acts_478 : decode cL_acts 478 = .ok (.iconst 5, 1) := by decide +kernel
theorem dL_acts_479 : decode cL_acts 479 = .ok (.invokevirtual 61, 3) := by decide +kernel
theorem dL_acts_482 : decode cL_acts 482 = .ok (.if_icmp .ne 29, 3) := by decide +kernel
theorem dL_acts_485 : decode cL_acts 485 = .ok (.aload_n 0, 1) := by decide +kernel
theorem dL_acts_486 : decode cL_acts 486 = .ok (.bipush 7, 2) := by decide +kernel
theorem dL_acts_488 : decode cL_acts 488 = .ok (.invokevirtual 61, 3) := by decide +kernel
theorem dL_acts_491 : decode cL_acts 491 = .ok (.iload 6, 2) := by decide +kernel
theorem dL_acts_493 : decode cL_acts 493 = .ok (.iconst 1, 1) := by decide +kernel
theorem dL_acts_494 : decode cL_acts 494 = .ok (.iadd, 1) := by decide +kernel
theorem dL_acts_495 : decode cL_acts 495 = .ok (.if_icmp .ne 16, 3) := by decide +kernel
theorem dL_acts_498 : decode cL_acts 498 = .ok (.aload_n 0, 1) := by decide +kernel
theorem dL_acts_499 : decode cL_acts 499 = .ok (.iload 7, 2) := by decide +kernel
theorem dL_acts_501 : decode cL_acts 501 = .ok (.invokevirtual 50, 3) := by decide +kernel
theorem dL_acts_504 : decode cL_acts 504 = .ok (.ifCond .ne 7, 3) := by decide +kernel
theorem dL_acts_507 : decode cL_acts 507 = .ok (.iconst 1, 1) := by decide +kernel
theorem dL_acts_508 : decode cL_acts 508 = .ok (.goto 4, 3) := by decide +kernel
theorem dL_acts_511 : decode cL_acts 511 = .ok (.iconst 0, 1) := by decide +kernel
theorem dL_acts_512 : decode cL_acts 512 = .ok (.ireturn, 1) := by decide +kernel
theorem dL_acts_513 : decode cL_acts 513 = .ok (.iload_n 3, 1) := by decide +kernel
theorem dL_acts_514 : decode cL_acts 514 = .ok (.bipush 17, 2) := by decide +kernel
theorem dL_acts_516 : decode cL_acts 516 = .ok (.if_icmp .ne 122, 3) := by decide +kernel
theorem dL_acts_519 : decode cL_acts 519 = .ok (.iload_n 2, 1) := by decide +kernel
theorem dL_acts_520 : decode cL_acts 520 = .ok (.iconst 4, 1) := by decide +kernel
theorem dL_acts_521 : decode cL_acts 521 = .ok (.invokestatic 102, 3) := by decide +kernel
theorem dL_acts_524 : decode cL_acts 524 = .ok (.istore 6, 2) := by decide +kernel
theorem dL_acts_526 : decode cL_acts 526 = .ok (.aload_n 0, 1) := by decide +kernel
theorem dL_acts_527 : decode cL_acts 527 = .ok (.iconst 3, 1) := by decide +kernel
theorem dL_acts_528 : decode cL_acts 528 = .ok (.invokevirtual 61, 3) := by decide +kernel
theorem dL_acts_531 : decode cL_acts 531 = .ok (.istore 7, 2) := by decide +kernel
theorem dL_acts_533 : decode cL_acts 533 = .ok (.aload_n 0, 1) := by decide +kernel
theorem dL_acts_534 : decode cL_acts 534 = .ok (.iload 6, 2) := by decide +kernel
theorem dL_acts_536 : decode cL_acts 536 = .ok (.iconst 0, 1) := by decide +kernel
theorem dL_acts_537 : decode cL_acts 537 = .ok (.invokevirtual 70, 3) := by decide +kernel
theorem dL_acts_540 : decode cL_acts 540 = .ok (.sipush (-1000), 3) := by decide +kernel
theorem dL_acts_543 : decode cL_acts 543 = .ok (.if_icmp .eq 7, 3) := by decide +kernel
theorem dL_acts_546 : decode cL_acts 546 = .ok (.iconst 1, 1) := by decide +kernel
theorem dL_acts_547 : decode cL_acts 547 = .ok (.goto 4, 3) := by decide +kernel
theorem dL_acts_550 : decode cL_acts 550 = .ok (.iconst 0, 1) := by decide +kernel
theorem dL_acts_551 : decode cL_acts 551 = .ok (.istore 8, 2) := by decide +kernel
theorem dL_acts_553 : decode cL_acts 553 = .ok (.iload 8, 2) := by decide +kernel
theorem dL_acts_555 : decode cL_acts 555 = .ok (.ifCond .eq 12, 3) := by decide +kernel
theorem dL_acts_558 : decode cL_acts 558 = .ok (.aload_n 0, 1) := by decide +kernel
theorem dL_acts_559 : decode cL_acts 559 = .ok (.iload 6, 2) := by decide +kernel
theorem dL_acts_561 : decode cL_acts 561 = .ok (.invokevirtual 73, 3) := by decide +kernel
theorem dL_acts_564 : decode cL_acts 564 = .ok (.goto 4, 3) := by decide +kernel
theorem dL_acts_567 : decode cL_acts 567 = .ok (.iconst 0, 1) := by decide +kernel
theorem dL_acts_568 : decode cL_acts 568 = .ok (.istore 9, 2) := by decide +kernel
theorem dL_acts_570 : decode cL_acts 570 = .ok (.aload_n 0, 1) := by decide +kernel
theorem dL_acts_571 : decode cL_acts 571 = .ok (.iload 6, 2) := by decide +kernel
theorem dL_acts_573 : decode cL_acts 573 = .ok (.invokestatic 123, 3) := by decide +kernel
theorem dL_acts_576 : decode cL_acts 576 = .ok (.istore 10, 2) := by decide +kernel
theorem dL_acts_578 : decode cL_acts 578 = .ok (.iload 10, 2) := by decide +kernel
theorem dL_acts_580 : decode cL_acts 580 = .ok (.sipush (-2902), 3) := by decide +kernel
theorem dL_acts_583 : decode cL_acts 583 = .ok (.if_icmp .ne 16, 3) := by decide +kernel
theorem dL_acts_586 : decode cL_acts 586 = .ok (.iload 8, 2) := by decide +kernel
theorem dL_acts_588 : decode cL_acts 588 = .ok (.ifCond .ne 7, 3) := by decide +kernel
theorem dL_acts_591 : decode cL_acts 591 = .ok (.iconst 1, 1) := by decide +kernel
theorem dL_acts_592 : decode cL_acts 592 = .ok (.goto 45, 3) := by decide +kernel
theorem dL_acts_595 : decode cL_acts 595 = .ok (.iconst 0, 1) := by decide +kernel
theorem dL_acts_596 : decode cL_acts 596 = .ok (.goto 41, 3) := by decide +kernel
theorem dL_acts_599 : decode cL_acts 599 = .ok (.iload 8, 2) := by decide +kernel
theorem dL_acts_601 : decode cL_acts 601 = .ok (.ifCond .eq 35, 3) := by decide +kernel
theorem dL_acts_604 : decode cL_acts 604 = .ok (.iload 10, 2) := by decide +kernel
theorem dL_acts_606 : decode cL_acts 606 = .ok (.aload_n 0, 1) := by decide +kernel
theorem dL_acts_607 : decode cL_acts 607 = .ok (.iconst 3, 1) := by decide +kernel
theorem dL_acts_608 : decode cL_acts 608 = .ok (.invokevirtual 61, 3) := by decide +kernel
theorem dL_acts_611 : decode cL_acts 611 = .ok (.iload 7, 2) := by decide +kernel
theorem dL_acts_613 : decode cL_acts 613 = .ok (.isub, 1) := by decide +kernel
theorem dL_acts_614 : decode cL_acts 614 = .ok (.if_icmp .ne 22, 3) := by decide +kernel
theorem dL_acts_617 : decode cL_acts 617 = .ok (.iload 10, 2) := by decide +kernel
