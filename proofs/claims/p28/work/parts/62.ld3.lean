theorem dL_roots_356 : decode cL_roots 356 = .ok (.iconst 2, 1) := by decide +kernel
theorem dL_roots_357 : decode cL_roots 357 = .ok (.invokevirtual 67, 3) := by decide +kernel
theorem dL_roots_360 : decode cL_roots 360 = .ok (.iconst 1, 1) := by decide +kernel
theorem dL_roots_361 : decode cL_roots 361 = .ok (.if_icmp .ne 83, 3) := by decide +kernel
theorem dL_roots_364 : decode cL_roots 364 = .ok (.aload_n 0, 1) := by decide +kernel
theorem dL_roots_365 : decode cL_roots 365 = .ok (.iload 5, 2) := by decide +kernel
theorem dL_roots_367 : decode cL_roots 367 = .ok (.iconst 2, 1) := by decide +kernel
theorem dL_roots_368 : decode cL_roots 368 = .ok (.invokevirtual 67, 3) := by decide +kernel
theorem dL_roots_371 : decode cL_roots 371 = .ok (.ifCond .eq 14, 3) := by decide +kernel
theorem dL_roots_374 : decode cL_roots 374 = .ok (.aload_n 0, 1) := by decide +kernel
theorem dL_roots_375 : decode cL_roots 375 = .ok (.iload 5, 2) := by decide +kernel
theorem dL_roots_377 : decode cL_roots 377 = .ok (.iconst 0, 1) := by decide +kernel
theorem dL_roots_378 : decode cL_roots 378 = .ok (.invokevirtual 67, 3) := by decide +kernel
theorem dL_roots_381 : decode cL_roots 381 = .ok (.iload_n 2, 1) := by decide +kernel
theorem dL_roots_382 : decode cL_roots 382 = .ok (.if_icmp .ge 62, 3) := by decide +kernel
theorem dL_roots_385 : decode cL_roots 385 = .ok (.aload_n 0, 1) := by decide +kernel
theorem dL_roots_386 : decode cL_roots 386 = .ok (.iconst 4, 1) := by decide +kernel
theorem dL_roots_387 : decode cL_roots 387 = .ok (.invokevirtual 61, 3) := by decide +kernel
theorem dL_roots_390 : decode cL_roots 390 = .ok (.iload_n 3, 1) := by decide +kernel
theorem dL_roots_391 : decode cL_roots 391 = .ok (.if_icmp .ne 53, 3) := by decide +kernel
theorem dL_roots_394 : decode cL_roots 394 = .ok (.aload_n 0, 1) := by decide +kernel
theorem dL_roots_395 : decode cL_roots 395 = .ok (.bipush 7, 2) := by decide +kernel
theorem dL_roots_397 : decode cL_roots 397 = .ok (.invokevirtual 61, 3) := by decide +kernel
theorem dL_roots_400 : decode cL_roots 400 = .ok (.iload 4, 2) := by decide +kernel
theorem dL_roots_402 : decode cL_roots 402 = .ok (.if_icmp .ne 42, 3) := by decide +kernel
theorem dL_roots_405 : decode cL_roots 405 = .ok (.aload_n 0, 1) := by decide +kernel
theorem dL_roots_406 : decode cL_roots 406 = .ok (.aload_n 0, 1) := by decide +kernel
theorem dL_roots_407 : decode cL_roots 407 = .ok (.iload_n 1, 1) := by decide +kernel
theorem dL_roots_408 : decode cL_roots 408 = .ok (.iconst 1, 1) := by decide +kernel
theorem dL_roots_409 : decode cL_roots 409 = .ok (.invokevirtual 67, 3) := by decide +kernel
theorem dL_roots_412 : decode cL_roots 412 = .ok (.iconst 0, 1) := by decide +kernel
theorem dL_roots_413 : decode cL_roots 413 = .ok (.invokevirtual 56, 3) := by decide +kernel
theorem dL_roots_416 : decode cL_roots 416 = .ok (.iconst 1, 1) := by decide +kernel
theorem dL_roots_417 : decode cL_roots 417 = .ok (.if_icmp .ne 27, 3) := by decide +kernel
theorem dL_roots_420 : decode cL_roots 420 = .ok (.aload_n 0, 1) := by decide +kernel
theorem dL_roots_421 : decode cL_roots 421 = .ok (.aload_n 0, 1) := by decide +kernel
theorem dL_roots_422 : decode cL_roots 422 = .ok (.iload_n 1, 1) := by decide +kernel
theorem dL_roots_423 : decode cL_roots 423 = .ok (.iconst 1, 1) := by decide +kernel
theorem dL_roots_424 : decode cL_roots 424 = .ok (.invokevirtual 67, 3) := by decide +kernel
theorem dL_roots_427 : decode cL_roots 427 = .ok (.iconst 2, 1) := by decide +kernel
theorem dL_roots_428 : decode cL_roots 428 = .ok (.invokevirtual 56, 3) := by decide +kernel
theorem dL_roots_431 : decode cL_roots 431 = .ok (.aload_n 0, 1) := by decide +kernel
theorem dL_roots_432 : decode cL_roots 432 = .ok (.bipush 6, 2) := by decide +kernel
theorem dL_roots_434 : decode cL_roots 434 = .ok (.invokevirtual 61, 3) := by decide +kernel
theorem dL_roots_437 : decode cL_roots 437 = .ok (.if_icmp .ne 7, 3) := by decide +kernel
theorem dL_roots_440 : decode cL_roots 440 = .ok (.iconst 1, 1) := by decide +kernel
theorem dL_roots_441 : decode cL_roots 441 = .ok (.goto 4, 3) := by decide +kernel
theorem dL_roots_444 : decode cL_roots 444 = .ok (.iconst 0, 1) := by decide +kernel
theorem dL_roots_445 : decode cL_roots 445 = .ok (.ireturn, 1) := by decide +kernel
theorem dL_entries_0 : decode cL_entries 0 = .ok (.iconst 0, 1) := by decide +kernel
theorem dL_entries_1 : decode cL_entries 1 = .ok (.istore_n 1, 1) := by decide +kernel
theorem dL_entries_2 : decode cL_entries 2 = .ok (.iconst 0, 1) := by decide +kernel
theorem dL_entries_3 : decode cL_entries 3 = .ok (.istore_n 2, 1) := by decide +kernel
theorem dL_entries_4 : decode cL_entries 4 = .ok (.iconst 0, 1) := by decide +kernel
theorem dL_entries_5 : decode cL_entries 5 = .ok (.istore_n 3, 1) := by decide +kernel
theorem dL_entries_6 : decode cL_entries 6 = .ok (.iconst 0, 1) := by decide +kernel
theorem dL_entries_7 : decode cL_entries 7 = .ok (.istore 4, 2) := by decide +kernel
theorem dL_entries_9 : decode cL_entries 9 = .ok (.iload 4, 2) := by decide +kernel
theorem dL_entries_11 : decode cL_entries 11 = .ok (.bipush 100, 2) := by decide +kernel
theorem dL_entries_13 : decode cL_entries 13 = .ok (.if_icmp .ge 208, 3) := by decide +kernel
theorem dL_entries_16 : decode cL_entries 16 = .ok (.aload_n 0, 1) := by decide +kernel
theorem dL_entries_17 : decode cL_entries 17 = .ok (.iload 4, 2) := by decide +kernel
theorem dL_entries_19 : decode cL_entries 19 = .ok (.invokevirtual 83, 3) := by decide +kernel
theorem dL_entries_22 : decode cL_entries 22 = .ok (.istore 5, 2) := by decide +kernel
theorem dL_entries_24 : decode cL_entries 24 = .ok (.iload 5, 2) := by decide +kernel
theorem dL_entries_26 : decode cL_entries 26 = .ok (.sipush (-1000), 3) := by decide +kernel
theorem dL_entries_29 : decode cL_entries 29 = .ok (.if_icmp .eq 186, 3) := by decide +kernel
theorem dL_entries_32 : decode cL_entries 32 = .ok (.aload_n 0, 1) := by decide +kernel
theorem dL_entries_33 : decode cL_entries 33 = .ok (.iload_n 1, 1) := by decide +kernel
theorem dL_entries_34 : decode cL_entries 34 = .ok (.iconst 2, 1) := by decide +kernel
theorem dL_entries_35 : decode cL_entries 35 = .ok (.invokevirtual 86, 3) := by decide +kernel
theorem dL_entries_38 : decode cL_entries 38 = .ok (.istore 6, 2) := by decide +kernel
theorem dL_entries_40 : decode cL_entries 40 = .ok (.aload_n 0, 1) := by decide +kernel
theorem dL_entries_41 : decode cL_entries 41 = .ok (.iload_n 1, 1) := by decide +kernel
theorem dL_entries_42 : decode cL_entries 42 = .ok (.iconst 3, 1) := by decide +kernel
theorem dL_entries_43 : decode cL_entries 43 = .ok (.invokevirtual 86, 3) := by decide +kernel
theorem dL_entries_46 : decode cL_entries 46 = .ok (.istore 7, 2) := by decide +kernel
theorem dL_entries_48 : decode cL_entries 48 = .ok (.iload_n 3, 1) := by decide +kernel
theorem dL_entries_49 : decode cL_entries 49 = .ok (.iload 7, 2) := by decide +kernel
theorem dL_entries_51 : decode cL_entries 51 = .ok (.ifCond .ne 7, 3) := by decide +kernel
theorem dL_entries_54 : decode cL_entries 54 = .ok (.iconst 1, 1) := by decide +kernel
theorem dL_entries_55 : decode cL_entries 55 = .ok (.goto 4, 3) := by decide +kernel
theorem dL_entries_58 : decode cL_entries 58 = .ok (.iconst 0, 1) := by decide +kernel
theorem dL_entries_59 : decode cL_entries 59 = .ok (.iadd, 1) := by decide +kernel
theorem dL_entries_60 : decode cL_entries 60 = .ok (.istore_n 3, 1) := by decide +kernel
theorem dL_entries_61 : decode cL_entries 61 = .ok (.aload_n 0, 1) := by decide +kernel
theorem dL_entries_62 : decode cL_entries 62 = .ok (.iload_n 1, 1) := by decide +kernel
theorem dL_entries_63 : decode cL_entries 63 = .ok (.iconst 0, 1) := by decide +kernel
theorem dL_entries_64 : decode cL_entries 64 = .ok (.invokevirtual 86, 3) := by decide +kernel
theorem dL_entries_67 : decode cL_entries 67 = .ok (.iload 4, 2) := by decide +kernel
theorem dL_entries_69 : decode cL_entries 69 = .ok (.if_icmp .ne 136, 3) := by decide +kernel
theorem dL_entries_72 : decode cL_entries 72 = .ok (.aload_n 0, 1) := by decide +kernel
theorem dL_entries_73 : decode cL_entries 73 = .ok (.iload_n 1, 1) := by decide +kernel
theorem dL_entries_74 : decode cL_entries 74 = .ok (.iconst 1, 1) := by decide +kernel
theorem dL_entries_75 : decode cL_entries 75 = .ok (.invokevirtual 86, 3) := by decide +kernel
theorem dL_entries_78 : decode cL_entries 78 = .ok (.iload 5, 2) := by decide +kernel
theorem dL_entries_80 : decode cL_entries 80 = .ok (.if_icmp .ne 125, 3) := by decide +kernel
theorem dL_entries_83 : decode cL_entries 83 = .ok (.iload 7, 2) := by decide +kernel
theorem dL_entries_85 : decode cL_entries 85 = .ok (.ifCond .lt 120, 3) := by decide +kernel
theorem dL_entries_88 : decode cL_entries 88 = .ok (.iload 7, 2) := by decide +kernel
theorem dL_entries_90 : decode cL_entries 90 = .ok (.iconst 3, 1) := by decide +kernel
theorem dL_entries_91 : decode cL_entries 91 = .ok (.if_icmp .gt 114, 3) := by decide +kernel
theorem dL_entries_94 : decode cL_entries 94 = .ok (.iload 7, 2) := by decide +kernel
theorem dL_entries_96 : decode cL_entries 96 = .ok (.aload_n 0, 1) := by decide +kernel
theorem dL_entries_97 : decode cL_entries 97 = .ok (.iload 6, 2) := by decide +kernel
theorem dL_entries_99 : decode cL_entries 99 = .ok (.iconst 2, 1) := by decide +kernel
theorem dL_entries_100 : decode cL_entries 100 = .ok (.invokevirtual 56, 3) := by decide +kernel
theorem dL_entries_103 : decode cL_entries 103 = .ok (.if_icmp .ge 102, 3) := by decide +kernel
theorem dL_entries_106 : decode cL_entries 106 = .ok (.aload_n 0, 1) := by decide +kernel
theorem dL_entries_107 : decode cL_entries 107 = .ok (.iload 6, 2) := by decide +kernel
theorem dL_entries_109 : decode cL_entries 109 = .ok (.iconst 0, 1) := by decide +kernel
theorem dL_entries_110 : decode cL_entries 110 = .ok (.invokevirtual 56, 3) := by decide +kernel
theorem dL_entries_113 : decode cL_entries 113 = .ok (.iconst 1, 1) := by decide +kernel
theorem dL_entries_114 : decode cL_entries 114 = .ok (.if_icmp .ne 91, 3) := by decide +kernel
theorem dL_entries_117 : decode cL_entries 117 = .ok (.aload_n 0, 1) := by decide +kernel
theorem dL_entries_118 : decode cL_entries 118 = .ok (.iload 6, 2) := by decide +kernel
theorem dL_entries_120 : decode cL_entries 120 = .ok (.iconst 1, 1) := by decide +kernel
theorem dL_entries_121 : decode cL_entries 121 = .ok (.invokevirtual 56, 3) := by decide +kernel
theorem dL_entries_124 : decode cL_entries 124 = .ok (.ifCond .ne 81, 3) := by decide +kernel
theorem dL_entries_127 : decode cL_entries 127 = .ok (.aload_n 0, 1) := by decide +kernel
theorem dL_entries_128 : decode cL_entries 128 = .ok (.iload 6, 2) := by decide +kernel
theorem dL_entries_130 : decode cL_entries 130 = .ok (.iconst 5, 1) := by decide +kernel
theorem dL_entries_131 : decode cL_entries 131 = .ok (.invokevirtual 56, 3) := by decide +kernel
theorem dL_entries_134 : decode cL_entries 134 = .ok (.ifCond .ne 71, 3) := by decide +kernel
theorem dL_entries_137 : decode cL_entries 137 = .ok (.iload 7, 2) := by decide +kernel
theorem dL_entries_139 : decode cL_entries 139 = .ok (.ifCond .le 31, 3) := by decide +kernel
theorem dL_entries_142 : decode cL_entries 142 = .ok (.iload 6, 2) := by decide +kernel
theorem dL_entries_144 : decode cL_entries 144 = .ok (.aload_n 0, 1) := by decide +kernel
theorem dL_entries_145 : decode cL_entries 145 = .ok (.iload_n 1, 1) := by decide +kernel
theorem dL_entries_146 : decode cL_entries 146 = .ok (.iconst 1, 1) := by decide +kernel
theorem dL_entries_147 : decode cL_entries 147 = .ok (.isub, 1) := by decide +kernel
theorem dL_entries_148 : decode cL_entries 148 = .ok (.iconst 2, 1) := by decide +kernel
theorem dL_entries_149 : decode cL_entries 149 = .ok (.invokevirtual 86, 3) := by decide +kernel
theorem dL_entries_152 : decode cL_entries 152 = .ok (.if_icmp .ne 53, 3) := by decide +kernel
theorem dL_entries_155 : decode cL_entries 155 = .ok (.iload 7, 2) := by decide +kernel
theorem dL_entries_157 : decode cL_entries 157 = .ok (.aload_n 0, 1) := by decide +kernel
theorem dL_entries_158 : decode cL_entries 158 = .ok (.iload_n 1, 1) := by decide +kernel
theorem dL_entries_159 : decode cL_entries 159 = .ok (.iconst 1, 1) := by decide +kernel
theorem dL_entries_160 : decode cL_entries 160 = .ok (.isub, 1) := by decide +kernel
theorem dL_entries_161 : decode cL_entries 161 = .ok (.iconst 3, 1) := by decide +kernel
theorem dL_entries_162 : decode cL_entries 162 = .ok (.invokevirtual 86, 3) := by decide +kernel
theorem dL_entries_165 : decode cL_entries 165 = .ok (.iconst 1, 1) := by decide +kernel
theorem dL_entries_166 : decode cL_entries 166 = .ok (.iadd, 1) := by decide +kernel
theorem dL_entries_167 : decode cL_entries 167 = .ok (.if_icmp .ne 38, 3) := by decide +kernel
theorem dL_entries_170 : decode cL_entries 170 = .ok (.iload 7, 2) := by decide +kernel
theorem dL_entries_172 : decode cL_entries 172 = .ok (.ifCond .ne 35, 3) := by decide +kernel
theorem dL_entries_175 : decode cL_entries 175 = .ok (.iload_n 1, 1) := by decide +kernel
theorem dL_entries_176 : decode cL_entries 176 = .ok (.ifCond .le 31, 3) := by decide +kernel
theorem dL_entries_179 : decode cL_entries 179 = .ok (.aload_n 0, 1) := by decide +kernel
theorem dL_entries_180 : decode cL_entries 180 = .ok (.iload_n 1, 1) := by decide +kernel
theorem dL_entries_181 : decode cL_entries 181 = .ok (.iconst 1, 1) := by decide +kernel
theorem dL_entries_182 : decode cL_entries 182 = .ok (.isub, 1) := by decide +kernel
theorem dL_entries_183 : decode cL_entries 183 = .ok (.iconst 3, 1) := by decide +kernel
theorem dL_entries_184 : decode cL_entries 184 = .ok (.invokevirtual 86, 3) := by decide +kernel
theorem dL_entries_187 : decode cL_entries 187 = .ok (.iconst 1, 1) := by decide +kernel
theorem dL_entries_188 : decode cL_entries 188 = .ok (.iadd, 1) := by decide +kernel
theorem dL_entries_189 : decode cL_entries 189 = .ok (.aload_n 0, 1) := by decide +kernel
theorem dL_entries_190 : decode cL_entries 190 = .ok (.aload_n 0, 1) := by decide +kernel
theorem dL_entries_191 : decode cL_entries 191 = .ok (.iload_n 1, 1) := by decide +kernel
theorem dL_entries_192 : decode cL_entries 192 = .ok (.iconst 1, 1) := by decide +kernel
theorem dL_entries_193 : decode cL_entries 193 = .ok (.isub, 1) := by decide +kernel
theorem dL_entries_194 : decode cL_entries 194 = .ok (.iconst 2, 1) := by decide +kernel
theorem dL_entries_195 : decode cL_entries 195 = .ok (.invokevirtual 86, 3) := by decide +kernel
theorem dL_entries_198 : decode cL_entries 198 = .ok (.iconst 2, 1) := by decide +kernel
theorem dL_entries_199 : decode cL_entries 199 = .ok (.invokevirtual 56, 3) := by decide +kernel
theorem dL_entries_202 : decode cL_entries 202 = .ok (.if_icmp .eq 5, 3) := by decide +kernel
theorem dL_entries_205 : decode cL_entries 205 = .ok (.iconst 0, 1) := by decide +kernel
theorem dL_entries_206 : decode cL_entries 206 = .ok (.ireturn, 1) := by decide +kernel
theorem dL_entries_207 : decode cL_entries 207 = .ok (.iinc 1 1, 3) := by decide +kernel
theorem dL_entries_210 : decode cL_entries 210 = .ok (.iload_n 2, 1) := by decide +kernel
theorem dL_entries_211 : decode cL_entries 211 = .ok (.iload 5, 2) := by decide +kernel
theorem dL_entries_213 : decode cL_entries 213 = .ok (.iadd, 1) := by decide +kernel
theorem dL_entries_214 : decode cL_entries 214 = .ok (.istore_n 2, 1) := by decide +kernel
theorem dL_entries_215 : decode cL_entries 215 = .ok (.iinc 4 1, 3) := by decide +kernel
theorem dL_entries_218 : decode cL_entries 218 = .ok (.goto (-209), 3) := by decide +kernel
theorem dL_entries_221 : decode cL_entries 221 = .ok (.aload_n 0, 1) := by decide +kernel
theorem dL_entries_222 : decode cL_entries 222 = .ok (.iconst 5, 1) := by decide +kernel
theorem dL_entries_223 : decode cL_entries 223 = .ok (.invokevirtual 61, 3) := by decide +kernel
theorem dL_entries_226 : decode cL_entries 226 = .ok (.iload_n 1, 1) := by decide +kernel
theorem dL_entries_227 : decode cL_entries 227 = .ok (.if_icmp .ne 27, 3) := by decide +kernel
theorem dL_entries_230 : decode cL_entries 230 = .ok (.aload_n 0, 1) := by decide +kernel
theorem dL_entries_231 : decode cL_entries 231 = .ok (.bipush 13, 2) := by decide +kernel
theorem dL_entries_233 : decode cL_entries 233 = .ok (.invokevirtual 61, 3) := by decide +kernel
theorem dL_entries_236 : decode cL_entries 236 = .ok (.iload_n 2, 1) := by decide +kernel
theorem dL_entries_237 : decode cL_entries 237 = .ok (.if_icmp .ne 17, 3) := by decide +kernel
theorem dL_entries_240 : decode cL_entries 240 = .ok (.aload_n 0, 1) := by decide +kernel
theorem dL_entries_241 : decode cL_entries 241 = .ok (.bipush 6, 2) := by decide +kernel
theorem dL_entries_243 : decode cL_entries 243 = .ok (.invokevirtual 61, 3) := by decide +kernel
theorem dL_entries_246 : decode cL_entries 246 = .ok (.iload_n 3, 1) := by decide +kernel
theorem dL_entries_247 : decode cL_entries 247 = .ok (.if_icmp .ne 7, 3) := by decide +kernel
theorem dL_entries_250 : decode cL_entries 250 = .ok (.iconst 1, 1) := by decide +kernel
theorem dL_entries_251 : decode cL_entries 251 = .ok (.goto 4, 3) := by decide +kernel
theorem dL_entries_254 : decode cL_entries 254 = .ok (.iconst 0, 1) := by decide +kernel
theorem dL_entries_255 : decode cL_entries 255 = .ok (.ireturn, 1) := by decide +kernel
theorem dL_sight_0 : decode cL_sight 0 = .ok (.ldc2_w 89, 3) := by decide +kernel
theorem dL_sight_3 : decode cL_sight 3 = .ok (.lstore_n 1, 1) := by decide +kernel
theorem dL_sight_4 : decode cL_sight 4 = .ok (.iconst 0, 1) := by decide +kernel
theorem dL_sight_5 : decode cL_sight 5 = .ok (.istore_n 3, 1) := by decide +kernel
theorem dL_sight_6 : decode cL_sight 6 = .ok (.iload_n 3, 1) := by decide +kernel
theorem dL_sight_7 : decode cL_sight 7 = .ok (.bipush 100, 2) := by decide +kernel
theorem dL_sight_9 : decode cL_sight 9 = .ok (.if_icmp .ge 58, 3) := by decide +kernel
theorem dL_sight_12 : decode cL_sight 12 = .ok (.ldc2_w 91, 3) := by decide +kernel
theorem dL_sight_15 : decode cL_sight 15 = .ok (.lload_n 1, 1) := by decide +kernel
theorem dL_sight_16 : decode cL_sight 16 = .ok (.lmul, 1) := by decide +kernel
theorem dL_sight_17 : decode cL_sight 17 = .ok (.aload_n 0, 1) := by decide +kernel
theorem dL_sight_18 : decode cL_sight 18 = .ok (.iload_n 3, 1) := by decide +kernel
theorem dL_sight_19 : decode cL_sight 19 = .ok (.invokevirtual 83, 3) := by decide +kernel
theorem dL_sight_22 : decode cL_sight 22 = .ok (.i2l, 1) := by decide +kernel
theorem dL_sight_23 : decode cL_sight 23 = .ok (.ladd, 1) := by decide +kernel
theorem dL_sight_24 : decode cL_sight 24 = .ok (.lstore_n 1, 1) := by decide +kernel
theorem dL_sight_25 : decode cL_sight 25 = .ok (.iconst 0, 1) := by decide +kernel
theorem dL_sight_26 : decode cL_sight 26 = .ok (.istore 4, 2) := by decide +kernel
theorem dL_sight_28 : decode cL_sight 28 = .ok (.iload 4, 2) := by decide +kernel
theorem dL_sight_30 : decode cL_sight 30 = .ok (.iconst 4, 1) := by decide +kernel
theorem dL_sight_31 : decode cL_sight 31 = .ok (.if_icmp .ge 30, 3) := by decide +kernel
theorem dL_sight_34 : decode cL_sight 34 = .ok (.iload_n 3, 1) := by decide +kernel
theorem dL_sight_35 : decode cL_sight 35 = .ok (.bipush 30, 2) := by decide +kernel
theorem dL_sight_37 : decode cL_sight 37 = .ok (.if_icmp .ge 24, 3) := by decide +kernel
theorem dL_sight_40 : decode cL_sight 40 = .ok (.ldc2_w 91, 3) := by decide +kernel
theorem dL_sight_43 : decode cL_sight 43 = .ok (.lload_n 1, 1) := by decide +kernel
theorem dL_sight_44 : decode cL_sight 44 = .ok (.lmul, 1) := by decide +kernel
theorem dL_sight_45 : decode cL_sight 45 = .ok (.aload_n 0, 1) := by decide +kernel
theorem dL_sight_46 : decode cL_sight 46 = .ok (.iload 4, 2) := by decide +kernel
theorem dL_sight_48 : decode cL_sight 48 = .ok (.iload_n 3, 1) := by decide +kernel
theorem dL_sight_49 : decode cL_sight 49 = .ok (.invokestatic 80, 3) := by decide +kernel
theorem dL_sight_52 : decode cL_sight 52 = .ok (.i2l, 1) := by decide +kernel
theorem dL_sight_53 : decode cL_sight 53 = .ok (.ladd, 1) := by decide +kernel
theorem dL_sight_54 : decode cL_sight 54 = .ok (.lstore_n 1, 1) := by decide +kernel
theorem dL_sight_55 : decode cL_sight 55 = .ok (.iinc 4 1, 3) := by decide +kernel
theorem dL_sight_58 : decode cL_sight 58 = .ok (.goto (-30), 3) := by decide +kernel
theorem dL_sight_61 : decode cL_sight 61 = .ok (.iinc 3 1, 3) := by decide +kernel
theorem dL_sight_64 : decode cL_sight 64 = .ok (.goto (-58), 3) := by decide +kernel
theorem dL_sight_67 : decode cL_sight 67 = .ok (.lload_n 1, 1) := by decide +kernel
theorem dL_sight_68 : decode cL_sight 68 = .ok (.lreturn, 1) := by decide +kernel
theorem dL_puts_0 : decode cL_puts 0 = .ok (.aload_n 0, 1) := by decide +kernel
theorem dL_puts_1 : decode cL_puts 1 = .ok (.bipush 8, 2) := by decide +kernel
theorem dL_puts_3 : decode cL_puts 3 = .ok (.invokevirtual 61, 3) := by decide +kernel
theorem dL_puts_6 : decode cL_puts 6 = .ok (.iconst 1, 1) := by decide +kernel
theorem dL_puts_7 : decode cL_puts 7 = .ok (.if_icmp .ne 7, 3) := by decide +kernel
theorem dL_puts_10 : decode cL_puts 10 = .ok (.iconst 1, 1) := by decide +kernel
theorem dL_puts_11 : decode cL_puts 11 = .ok (.goto 4, 3) := by decide +kernel
theorem dL_puts_14 : decode cL_puts 14 = .ok (.iconst 0, 1) := by decide +kernel
theorem dL_puts_15 : decode cL_puts 15 = .ok (.istore_n 3, 1) := by decide +kernel
theorem dL_puts_16 : decode cL_puts 16 = .ok (.aload_n 0, 1) := by decide +kernel
theorem dL_puts_17 : decode cL_puts 17 = .ok (.iload_n 1, 1) := by decide +kernel
theorem dL_puts_18 : decode cL_puts 18 = .ok (.invokestatic 93, 3) := by decide +kernel
theorem dL_puts_21 : decode cL_puts 21 = .ok (.istore 4, 2) := by decide +kernel
theorem dL_puts_23 : decode cL_puts 23 = .ok (.aload_n 0, 1) := by decide +kernel
theorem dL_puts_24 : decode cL_puts 24 = .ok (.iload_n 1, 1) := by decide +kernel
theorem dL_puts_25 : decode cL_puts 25 = .ok (.invokestatic 95, 3) := by decide +kernel
theorem dL_puts_28 : decode cL_puts 28 = .ok (.istore 5, 2) := by decide +kernel
theorem dL_puts_30 : decode cL_puts 30 = .ok (.aload_n 0, 1) := by decide +kernel
theorem dL_puts_31 : decode cL_puts 31 = .ok (.bipush 9, 2) := by decide +kernel
theorem dL_puts_33 : decode cL_puts 33 = .ok (.invokevirtual 61, 3) := by decide +kernel
theorem dL_puts_36 : decode cL_puts 36 = .ok (.istore 6, 2) := by decide +kernel
theorem dL_puts_38 : decode cL_puts 38 = .ok (.iload_n 3, 1) := by decide +kernel
theorem dL_puts_39 : decode cL_puts 39 = .ok (.ifCond .eq 11, 3) := by decide +kernel
theorem dL_puts_42 : decode cL_puts 42 = .ok (.aload_n 0, 1) := by decide +kernel
theorem dL_puts_43 : decode cL_puts 43 = .ok (.iload_n 1, 1) := by decide +kernel
theorem dL_puts_44 : decode cL_puts 44 = .ok (.invokevirtual 97, 3) := by decide +kernel
theorem dL_puts_47 : decode cL_puts 47 = .ok (.goto 4, 3) := by decide +kernel
theorem dL_puts_50 : decode cL_puts 50 = .ok (.iconst 0, 1) := by decide +kernel
theorem dL_puts_51 : decode cL_puts 51 = .ok (.istore 7, 2) := by decide +kernel
theorem dL_puts_53 : decode cL_puts 53 = .ok (.aload_n 0, 1) := by decide +kernel
theorem dL_puts_54 : decode cL_puts 54 = .ok (.invokevirtual 64, 3) := by decide +kernel
theorem dL_puts_57 : decode cL_puts 57 = .ok (.istore 8, 2) := by decide +kernel
theorem dL_puts_59 : decode cL_puts 59 = .ok (.aload_n 0, 1) := by decide +kernel
theorem dL_puts_60 : decode cL_puts 60 = .ok (.iload_n 1, 1) := by decide +kernel
theorem dL_puts_61 : decode cL_puts 61 = .ok (.iload_n 2, 1) := by decide +kernel
theorem dL_puts_62 : decode cL_puts 62 = .ok (.invokestatic 100, 3) := by decide +kernel
theorem dL_puts_65 : decode cL_puts 65 = .ok (.istore 9, 2) := by decide +kernel
theorem dL_puts_67 : decode cL_puts 67 = .ok (.iload 9, 2) := by decide +kernel
theorem dL_puts_69 : decode cL_puts 69 = .ok (.sipush (-2902), 3) := by decide +kernel
theorem dL_puts_72 : decode cL_puts 72 = .ok (.if_icmp .ne 68, 3) := by decide +kernel
theorem dL_puts_75 : decode cL_puts 75 = .ok (.iload_n 3, 1) := by decide +kernel
theorem dL_puts_76 : decode cL_puts 76 = .ok (.ifCond .eq 28, 3) := by decide +kernel
theorem dL_puts_79 : decode cL_puts 79 = .ok (.iload 4, 2) := by decide +kernel
theorem dL_puts_81 : decode cL_puts 81 = .ok (.iconst 1, 1) := by decide +kernel
theorem dL_puts_82 : decode cL_puts 82 = .ok (.if_icmp .ne 11, 3) := by decide +kernel
theorem dL_puts_85 : decode cL_puts 85 = .ok (.iload 7, 2) := by decide +kernel
theorem dL_puts_87 : decode cL_puts 87 = .ok (.sipush (-1000), 3) := by decide +kernel
theorem dL_puts_90 : decode cL_puts 90 = .ok (.if_icmp .eq 14, 3) := by decide +kernel
theorem dL_puts_93 : decode cL_puts 93 = .ok (.iload 4, 2) := by decide +kernel
theorem dL_puts_95 : decode cL_puts 95 = .ok (.iconst 2, 1) := by decide +kernel
theorem dL_puts_96 : decode cL_puts 96 = .ok (.if_icmp .ne 42, 3) := by decide +kernel
theorem dL_puts_99 : decode cL_puts 99 = .ok (.iload 7, 2) := by decide +kernel
theorem dL_puts_101 : decode cL_puts 101 = .ok (.ifCond .le 37, 3) := by decide +kernel
theorem dL_puts_104 : decode cL_puts 104 = .ok (.aload_n 0, 1) := by decide +kernel
theorem dL_puts_105 : decode cL_puts 105 = .ok (.bipush 9, 2) := by decide +kernel
theorem dL_puts_107 : decode cL_puts 107 = .ok (.invokevirtual 61, 3) := by decide +kernel
theorem dL_puts_110 : decode cL_puts 110 = .ok (.iload 6, 2) := by decide +kernel
theorem dL_puts_112 : decode cL_puts 112 = .ok (.if_icmp .ne 26, 3) := by decide +kernel
theorem dL_puts_115 : decode cL_puts 115 = .ok (.aload_n 0, 1) := by decide +kernel
theorem dL_puts_116 : decode cL_puts 116 = .ok (.iload_n 1, 1) := by decide +kernel
theorem dL_puts_117 : decode cL_puts 117 = .ok (.invokestatic 95, 3) := by decide +kernel
theorem dL_puts_120 : decode cL_puts 120 = .ok (.iload 5, 2) := by decide +kernel
theorem dL_puts_122 : decode cL_puts 122 = .ok (.if_icmp .ne 16, 3) := by decide +kernel
theorem dL_puts_125 : decode cL_puts 125 = .ok (.aload_n 0, 1) := by decide +kernel
theorem dL_puts_126 : decode cL_puts 126 = .ok (.invokevirtual 64, 3) := by decide +kernel
theorem dL_puts_129 : decode cL_puts 129 = .ok (.iload 8, 2) := by decide +kernel
