theorem dL_puts_131 : decode cL_puts 131 = .ok (.if_icmp .ne 7, 3) := by decide +kernel
theorem dL_puts_134 : decode cL_puts 134 = .ok (.iconst 1, 1) := by decide +kernel
theorem dL_puts_135 : decode cL_puts 135 = .ok (.goto 4, 3) := by decide +kernel
theorem dL_puts_138 : decode cL_puts 138 = .ok (.iconst 0, 1) := by decide +kernel
theorem dL_puts_139 : decode cL_puts 139 = .ok (.ireturn, 1) := by decide +kernel
theorem dL_puts_140 : decode cL_puts 140 = .ok (.iload_n 3, 1) := by decide +kernel
theorem dL_puts_141 : decode cL_puts 141 = .ok (.ifCond .eq 74, 3) := by decide +kernel
theorem dL_puts_144 : decode cL_puts 144 = .ok (.iload 4, 2) := by decide +kernel
theorem dL_puts_146 : decode cL_puts 146 = .ok (.ifCond .ne 69, 3) := by decide +kernel
theorem dL_puts_149 : decode cL_puts 149 = .ok (.iload 9, 2) := by decide +kernel
theorem dL_puts_151 : decode cL_puts 151 = .ok (.iload 5, 2) := by decide +kernel
theorem dL_puts_153 : decode cL_puts 153 = .ok (.if_icmp .ne 62, 3) := by decide +kernel
theorem dL_puts_156 : decode cL_puts 156 = .ok (.aload_n 0, 1) := by decide +kernel
theorem dL_puts_157 : decode cL_puts 157 = .ok (.iload_n 1, 1) := by decide +kernel
theorem dL_puts_158 : decode cL_puts 158 = .ok (.invokevirtual 44, 3) := by decide +kernel
theorem dL_puts_161 : decode cL_puts 161 = .ok (.iload_n 2, 1) := by decide +kernel
theorem dL_puts_162 : decode cL_puts 162 = .ok (.if_icmp .ne 53, 3) := by decide +kernel
theorem dL_puts_165 : decode cL_puts 165 = .ok (.aload_n 0, 1) := by decide +kernel
theorem dL_puts_166 : decode cL_puts 166 = .ok (.bipush 9, 2) := by decide +kernel
theorem dL_puts_168 : decode cL_puts 168 = .ok (.invokevirtual 61, 3) := by decide +kernel
theorem dL_puts_171 : decode cL_puts 171 = .ok (.iload 6, 2) := by decide +kernel
theorem dL_puts_173 : decode cL_puts 173 = .ok (.iload 7, 2) := by decide +kernel
theorem dL_puts_175 : decode cL_puts 175 = .ok (.iadd, 1) := by decide +kernel
theorem dL_puts_176 : decode cL_puts 176 = .ok (.if_icmp .ne 39, 3) := by decide +kernel
theorem dL_puts_179 : decode cL_puts 179 = .ok (.iload 7, 2) := by decide +kernel
theorem dL_puts_181 : decode cL_puts 181 = .ok (.ifCond .eq 14, 3) := by decide +kernel
theorem dL_puts_184 : decode cL_puts 184 = .ok (.aload_n 0, 1) := by decide +kernel
theorem dL_puts_185 : decode cL_puts 185 = .ok (.iload 8, 2) := by decide +kernel
theorem dL_puts_187 : decode cL_puts 187 = .ok (.iconst 5, 1) := by decide +kernel
theorem dL_puts_188 : decode cL_puts 188 = .ok (.invokevirtual 56, 3) := by decide +kernel
theorem dL_puts_191 : decode cL_puts 191 = .ok (.iconst 1, 1) := by decide +kernel
theorem dL_puts_192 : decode cL_puts 192 = .ok (.if_icmp .ne 23, 3) := by decide +kernel
theorem dL_puts_195 : decode cL_puts 195 = .ok (.aload_n 0, 1) := by decide +kernel
theorem dL_puts_196 : decode cL_puts 196 = .ok (.iload_n 1, 1) := by decide +kernel
theorem dL_puts_197 : decode cL_puts 197 = .ok (.invokevirtual 47, 3) := by decide +kernel
theorem dL_puts_200 : decode cL_puts 200 = .ok (.ifCond .ne 15, 3) := by decide +kernel
theorem dL_puts_203 : decode cL_puts 203 = .ok (.aload_n 0, 1) := by decide +kernel
theorem dL_puts_204 : decode cL_puts 204 = .ok (.iload_n 1, 1) := by decide +kernel
theorem dL_puts_205 : decode cL_puts 205 = .ok (.invokevirtual 97, 3) := by decide +kernel
theorem dL_puts_208 : decode cL_puts 208 = .ok (.ifCond .ne 7, 3) := by decide +kernel
theorem dL_puts_211 : decode cL_puts 211 = .ok (.iconst 1, 1) := by decide +kernel
theorem dL_puts_212 : decode cL_puts 212 = .ok (.goto 4, 3) := by decide +kernel
theorem dL_puts_215 : decode cL_puts 215 = .ok (.iconst 0, 1) := by decide +kernel
theorem dL_puts_216 : decode cL_puts 216 = .ok (.ireturn, 1) := by decide +kernel
theorem dL_commits_0 : decode cL_commits 0 = .ok (.aload_n 0, 1) := by decide +kernel
theorem dL_commits_1 : decode cL_commits 1 = .ok (.bipush 8, 2) := by decide +kernel
theorem dL_commits_3 : decode cL_commits 3 = .ok (.invokevirtual 61, 3) := by decide +kernel
theorem dL_commits_6 : decode cL_commits 6 = .ok (.iconst 1, 1) := by decide +kernel
theorem dL_commits_7 : decode cL_commits 7 = .ok (.if_icmp .ne 7, 3) := by decide +kernel
theorem dL_commits_10 : decode cL_commits 10 = .ok (.iconst 1, 1) := by decide +kernel
theorem dL_commits_11 : decode cL_commits 11 = .ok (.goto 4, 3) := by decide +kernel
theorem dL_commits_14 : decode cL_commits 14 = .ok (.iconst 0, 1) := by decide +kernel
theorem dL_commits_15 : decode cL_commits 15 = .ok (.istore_n 3, 1) := by decide +kernel
theorem dL_commits_16 : decode cL_commits 16 = .ok (.iload_n 2, 1) := by decide +kernel
theorem dL_commits_17 : decode cL_commits 17 = .ok (.bipush 30, 2) := by decide +kernel
theorem dL_commits_19 : decode cL_commits 19 = .ok (.invokestatic 102, 3) := by decide +kernel
theorem dL_commits_22 : decode cL_commits 22 = .ok (.istore 4, 2) := by decide +kernel
theorem dL_commits_24 : decode cL_commits 24 = .ok (.aload_n 0, 1) := by decide +kernel
theorem dL_commits_25 : decode cL_commits 25 = .ok (.iload 4, 2) := by decide +kernel
theorem dL_commits_27 : decode cL_commits 27 = .ok (.invokestatic 95, 3) := by decide +kernel
theorem dL_commits_30 : decode cL_commits 30 = .ok (.istore 5, 2) := by decide +kernel
theorem dL_commits_32 : decode cL_commits 32 = .ok (.aload_n 0, 1) := by decide +kernel
theorem dL_commits_33 : decode cL_commits 33 = .ok (.bipush 9, 2) := by decide +kernel
theorem dL_commits_35 : decode cL_commits 35 = .ok (.invokevirtual 61, 3) := by decide +kernel
theorem dL_commits_38 : decode cL_commits 38 = .ok (.istore 6, 2) := by decide +kernel
theorem dL_commits_40 : decode cL_commits 40 = .ok (.aload_n 0, 1) := by decide +kernel
theorem dL_commits_41 : decode cL_commits 41 = .ok (.bipush 10, 2) := by decide +kernel
theorem dL_commits_43 : decode cL_commits 43 = .ok (.invokevirtual 61, 3) := by decide +kernel
theorem dL_commits_46 : decode cL_commits 46 = .ok (.istore 7, 2) := by decide +kernel
theorem dL_commits_48 : decode cL_commits 48 = .ok (.aload_n 0, 1) := by decide +kernel
theorem dL_commits_49 : decode cL_commits 49 = .ok (.iconst 1, 1) := by decide +kernel
theorem dL_commits_50 : decode cL_commits 50 = .ok (.iconst 3, 1) := by decide +kernel
theorem dL_commits_51 : decode cL_commits 51 = .ok (.invokevirtual 67, 3) := by decide +kernel
theorem dL_commits_54 : decode cL_commits 54 = .ok (.istore 8, 2) := by decide +kernel
theorem dL_commits_56 : decode cL_commits 56 = .ok (.aload_n 0, 1) := by decide +kernel
theorem dL_commits_57 : decode cL_commits 57 = .ok (.iload 8, 2) := by decide +kernel
theorem dL_commits_59 : decode cL_commits 59 = .ok (.iconst 0, 1) := by decide +kernel
theorem dL_commits_60 : decode cL_commits 60 = .ok (.invokevirtual 67, 3) := by decide +kernel
theorem dL_commits_63 : decode cL_commits 63 = .ok (.istore 9, 2) := by decide +kernel
theorem dL_commits_65 : decode cL_commits 65 = .ok (.aload_n 0, 1) := by decide +kernel
theorem dL_commits_66 : decode cL_commits 66 = .ok (.iconst 2, 1) := by decide +kernel
theorem dL_commits_67 : decode cL_commits 67 = .ok (.invokevirtual 61, 3) := by decide +kernel
theorem dL_commits_70 : decode cL_commits 70 = .ok (.istore 10, 2) := by decide +kernel
theorem dL_commits_72 : decode cL_commits 72 = .ok (.aload_n 0, 1) := by decide +kernel
theorem dL_commits_73 : decode cL_commits 73 = .ok (.bipush 11, 2) := by decide +kernel
theorem dL_commits_75 : decode cL_commits 75 = .ok (.invokevirtual 61, 3) := by decide +kernel
theorem dL_commits_78 : decode cL_commits 78 = .ok (.istore 11, 2) := by decide +kernel
theorem dL_commits_80 : decode cL_commits 80 = .ok (.aload_n 0, 1) := by decide +kernel
theorem dL_commits_81 : decode cL_commits 81 = .ok (.bipush 12, 2) := by decide +kernel
theorem dL_commits_83 : decode cL_commits 83 = .ok (.invokevirtual 61, 3) := by decide +kernel
theorem dL_commits_86 : decode cL_commits 86 = .ok (.istore 12, 2) := by decide +kernel
theorem dL_commits_88 : decode cL_commits 88 = .ok (.aload_n 0, 1) := by decide +kernel
theorem dL_commits_89 : decode cL_commits 89 = .ok (.iconst 5, 1) := by decide +kernel
theorem dL_commits_90 : decode cL_commits 90 = .ok (.invokevirtual 61, 3) := by decide +kernel
theorem dL_commits_93 : decode cL_commits 93 = .ok (.istore 13, 2) := by decide +kernel
theorem dL_commits_95 : decode cL_commits 95 = .ok (.aload_n 0, 1) := by decide +kernel
theorem dL_commits_96 : decode cL_commits 96 = .ok (.iload_n 1, 1) := by decide +kernel
theorem dL_commits_97 : decode cL_commits 97 = .ok (.invokestatic 105, 3) := by decide +kernel
theorem dL_commits_100 : decode cL_commits 100 = .ok (.istore 14, 2) := by decide +kernel
theorem dL_commits_102 : decode cL_commits 102 = .ok (.iload 14, 2) := by decide +kernel
theorem dL_commits_104 : decode cL_commits 104 = .ok (.sipush (-2902), 3) := by decide +kernel
theorem dL_commits_107 : decode cL_commits 107 = .ok (.if_icmp .ne 24, 3) := by decide +kernel
theorem dL_commits_110 : decode cL_commits 110 = .ok (.iload_n 3, 1) := by decide +kernel
theorem dL_commits_111 : decode cL_commits 111 = .ok (.ifCond .ne 18, 3) := by decide +kernel
theorem dL_commits_114 : decode cL_commits 114 = .ok (.aload_n 0, 1) := by decide +kernel
theorem dL_commits_115 : decode cL_commits 115 = .ok (.bipush 11, 2) := by decide +kernel
theorem dL_commits_117 : decode cL_commits 117 = .ok (.invokevirtual 61, 3) := by decide +kernel
theorem dL_commits_120 : decode cL_commits 120 = .ok (.iload 11, 2) := by decide +kernel
theorem dL_commits_122 : decode cL_commits 122 = .ok (.if_icmp .ne 7, 3) := by decide +kernel
theorem dL_commits_125 : decode cL_commits 125 = .ok (.iconst 1, 1) := by decide +kernel
theorem dL_commits_126 : decode cL_commits 126 = .ok (.goto 4, 3) := by decide +kernel
theorem dL_commits_129 : decode cL_commits 129 = .ok (.iconst 0, 1) := by decide +kernel
theorem dL_commits_130 : decode cL_commits 130 = .ok (.ireturn, 1) := by decide +kernel
theorem dL_commits_131 : decode cL_commits 131 = .ok (.iload_n 3, 1) := by decide +kernel
theorem dL_commits_132 : decode cL_commits 132 = .ok (.ifCond .eq 34, 3) := by decide +kernel
theorem dL_commits_135 : decode cL_commits 135 = .ok (.aload_n 0, 1) := by decide +kernel
theorem dL_commits_136 : decode cL_commits 136 = .ok (.bipush 8, 2) := by decide +kernel
theorem dL_commits_138 : decode cL_commits 138 = .ok (.invokevirtual 61, 3) := by decide +kernel
theorem dL_commits_141 : decode cL_commits 141 = .ok (.ifCond .ne 25, 3) := by decide +kernel
theorem dL_commits_144 : decode cL_commits 144 = .ok (.aload_n 0, 1) := by decide +kernel
theorem dL_commits_145 : decode cL_commits 145 = .ok (.bipush 9, 2) := by decide +kernel
theorem dL_commits_147 : decode cL_commits 147 = .ok (.invokevirtual 61, 3) := by decide +kernel
theorem dL_commits_150 : decode cL_commits 150 = .ok (.ifCond .ne 16, 3) := by decide +kernel
theorem dL_commits_153 : decode cL_commits 153 = .ok (.aload_n 0, 1) := by decide +kernel
theorem dL_commits_154 : decode cL_commits 154 = .ok (.bipush 10, 2) := by decide +kernel
theorem dL_commits_156 : decode cL_commits 156 = .ok (.invokevirtual 61, 3) := by decide +kernel
theorem dL_commits_159 : decode cL_commits 159 = .ok (.ifCond .ne 7, 3) := by decide +kernel
theorem dL_commits_162 : decode cL_commits 162 = .ok (.iconst 1, 1) := by decide +kernel
theorem dL_commits_163 : decode cL_commits 163 = .ok (.goto 4, 3) := by decide +kernel
theorem dL_commits_166 : decode cL_commits 166 = .ok (.iconst 0, 1) := by decide +kernel
theorem dL_commits_167 : decode cL_commits 167 = .ok (.istore 15, 2) := by decide +kernel
theorem dL_commits_169 : decode cL_commits 169 = .ok (.iload 6, 2) := by decide +kernel
theorem dL_commits_171 : decode cL_commits 171 = .ok (.ifCond .ne 63, 3) := by decide +kernel
theorem dL_commits_174 : decode cL_commits 174 = .ok (.iload 15, 2) := by decide +kernel
theorem dL_commits_176 : decode cL_commits 176 = .ok (.ifCond .eq 56, 3) := by decide +kernel
theorem dL_commits_179 : decode cL_commits 179 = .ok (.iload 14, 2) := by decide +kernel
theorem dL_commits_181 : decode cL_commits 181 = .ok (.ifCond .ne 51, 3) := by decide +kernel
theorem dL_commits_184 : decode cL_commits 184 = .ok (.aload_n 0, 1) := by decide +kernel
theorem dL_commits_185 : decode cL_commits 185 = .ok (.iload 8, 2) := by decide +kernel
theorem dL_commits_187 : decode cL_commits 187 = .ok (.iconst 3, 1) := by decide +kernel
theorem dL_commits_188 : decode cL_commits 188 = .ok (.invokevirtual 67, 3) := by decide +kernel
theorem dL_commits_191 : decode cL_commits 191 = .ok (.iconst 1, 1) := by decide +kernel
theorem dL_commits_192 : decode cL_commits 192 = .ok (.if_icmp .ne 40, 3) := by decide +kernel
theorem dL_commits_195 : decode cL_commits 195 = .ok (.aload_n 0, 1) := by decide +kernel
theorem dL_commits_196 : decode cL_commits 196 = .ok (.bipush 11, 2) := by decide +kernel
theorem dL_commits_198 : decode cL_commits 198 = .ok (.invokevirtual 61, 3) := by decide +kernel
theorem dL_commits_201 : decode cL_commits 201 = .ok (.iload 11, 2) := by decide +kernel
theorem dL_commits_203 : decode cL_commits 203 = .ok (.if_icmp .ne 29, 3) := by decide +kernel
theorem dL_commits_206 : decode cL_commits 206 = .ok (.aload_n 0, 1) := by decide +kernel
theorem dL_commits_207 : decode cL_commits 207 = .ok (.bipush 12, 2) := by decide +kernel
theorem dL_commits_209 : decode cL_commits 209 = .ok (.invokevirtual 61, 3) := by decide +kernel
theorem dL_commits_212 : decode cL_commits 212 = .ok (.iload 12, 2) := by decide +kernel
theorem dL_commits_214 : decode cL_commits 214 = .ok (.if_icmp .ne 18, 3) := by decide +kernel
theorem dL_commits_217 : decode cL_commits 217 = .ok (.aload_n 0, 1) := by decide +kernel
theorem dL_commits_218 : decode cL_commits 218 = .ok (.iload 4, 2) := by decide +kernel
theorem dL_commits_220 : decode cL_commits 220 = .ok (.invokevirtual 83, 3) := by decide +kernel
theorem dL_commits_223 : decode cL_commits 223 = .ok (.iload 5, 2) := by decide +kernel
theorem dL_commits_225 : decode cL_commits 225 = .ok (.if_icmp .ne 7, 3) := by decide +kernel
theorem dL_commits_228 : decode cL_commits 228 = .ok (.iconst 1, 1) := by decide +kernel
theorem dL_commits_229 : decode cL_commits 229 = .ok (.goto 4, 3) := by decide +kernel
theorem dL_commits_232 : decode cL_commits 232 = .ok (.iconst 0, 1) := by decide +kernel
theorem dL_commits_233 : decode cL_commits 233 = .ok (.ireturn, 1) := by decide +kernel
theorem dL_commits_234 : decode cL_commits 234 = .ok (.iload_n 1, 1) := by decide +kernel
theorem dL_commits_235 : decode cL_commits 235 = .ok (.iconst 3, 1) := by decide +kernel
theorem dL_commits_236 : decode cL_commits 236 = .ok (.if_icmp .ne 114, 3) := by decide +kernel
theorem dL_commits_239 : decode cL_commits 239 = .ok (.iload 15, 2) := by decide +kernel
theorem dL_commits_241 : decode cL_commits 241 = .ok (.ifCond .eq 107, 3) := by decide +kernel
theorem dL_commits_244 : decode cL_commits 244 = .ok (.iload 14, 2) := by decide +kernel
theorem dL_commits_246 : decode cL_commits 246 = .ok (.iload 7, 2) := by decide +kernel
theorem dL_commits_248 : decode cL_commits 248 = .ok (.if_icmp .ne 100, 3) := by decide +kernel
theorem dL_commits_251 : decode cL_commits 251 = .ok (.iload 7, 2) := by decide +kernel
theorem dL_commits_253 : decode cL_commits 253 = .ok (.ifCond .le 95, 3) := by decide +kernel
theorem dL_commits_256 : decode cL_commits 256 = .ok (.aload_n 0, 1) := by decide +kernel
theorem dL_commits_257 : decode cL_commits 257 = .ok (.iconst 1, 1) := by decide +kernel
theorem dL_commits_258 : decode cL_commits 258 = .ok (.iload 8, 2) := by decide +kernel
theorem dL_commits_260 : decode cL_commits 260 = .ok (.isub, 1) := by decide +kernel
theorem dL_commits_261 : decode cL_commits 261 = .ok (.iconst 3, 1) := by decide +kernel
theorem dL_commits_262 : decode cL_commits 262 = .ok (.invokevirtual 67, 3) := by decide +kernel
theorem dL_commits_265 : decode cL_commits 265 = .ok (.iconst 1, 1) := by decide +kernel
theorem dL_commits_266 : decode cL_commits 266 = .ok (.if_icmp .ne 82, 3) := by decide +kernel
theorem dL_commits_269 : decode cL_commits 269 = .ok (.aload_n 0, 1) := by decide +kernel
theorem dL_commits_270 : decode cL_commits 270 = .ok (.iconst 1, 1) := by decide +kernel
theorem dL_commits_271 : decode cL_commits 271 = .ok (.iload 8, 2) := by decide +kernel
theorem dL_commits_273 : decode cL_commits 273 = .ok (.isub, 1) := by decide +kernel
theorem dL_commits_274 : decode cL_commits 274 = .ok (.iconst 0, 1) := by decide +kernel
theorem dL_commits_275 : decode cL_commits 275 = .ok (.invokevirtual 67, 3) := by decide +kernel
theorem dL_commits_278 : decode cL_commits 278 = .ok (.iload 9, 2) := by decide +kernel
theorem dL_commits_280 : decode cL_commits 280 = .ok (.iconst 1, 1) := by decide +kernel
theorem dL_commits_281 : decode cL_commits 281 = .ok (.iadd, 1) := by decide +kernel
theorem dL_commits_282 : decode cL_commits 282 = .ok (.if_icmp .ne 66, 3) := by decide +kernel
theorem dL_commits_285 : decode cL_commits 285 = .ok (.aload_n 0, 1) := by decide +kernel
theorem dL_commits_286 : decode cL_commits 286 = .ok (.iload 8, 2) := by decide +kernel
theorem dL_commits_288 : decode cL_commits 288 = .ok (.iconst 2, 1) := by decide +kernel
theorem dL_commits_289 : decode cL_commits 289 = .ok (.invokevirtual 67, 3) := by decide +kernel
theorem dL_commits_292 : decode cL_commits 292 = .ok (.iconst 1, 1) := by decide +kernel
theorem dL_commits_293 : decode cL_commits 293 = .ok (.if_icmp .ne 55, 3) := by decide +kernel
theorem dL_commits_296 : decode cL_commits 296 = .ok (.aload_n 0, 1) := by decide +kernel
theorem dL_commits_297 : decode cL_commits 297 = .ok (.bipush 11, 2) := by decide +kernel
theorem dL_commits_299 : decode cL_commits 299 = .ok (.invokevirtual 61, 3) := by decide +kernel
theorem dL_commits_302 : decode cL_commits 302 = .ok (.iload 11, 2) := by decide +kernel
theorem dL_commits_304 : decode cL_commits 304 = .ok (.iconst 1, 1) := by decide +kernel
theorem dL_commits_305 : decode cL_commits 305 = .ok (.iadd, 1) := by decide +kernel
theorem dL_commits_306 : decode cL_commits 306 = .ok (.if_icmp .ne 42, 3) := by decide +kernel
theorem dL_commits_309 : decode cL_commits 309 = .ok (.aload_n 0, 1) := by decide +kernel
theorem dL_commits_310 : decode cL_commits 310 = .ok (.bipush 12, 2) := by decide +kernel
theorem dL_commits_312 : decode cL_commits 312 = .ok (.invokevirtual 61, 3) := by decide +kernel
theorem dL_commits_315 : decode cL_commits 315 = .ok (.iload 12, 2) := by decide +kernel
theorem dL_commits_317 : decode cL_commits 317 = .ok (.if_icmp .ne 31, 3) := by decide +kernel
theorem dL_commits_320 : decode cL_commits 320 = .ok (.aload_n 0, 1) := by decide +kernel
theorem dL_commits_321 : decode cL_commits 321 = .ok (.iload 4, 2) := by decide +kernel
theorem dL_commits_323 : decode cL_commits 323 = .ok (.invokevirtual 83, 3) := by decide +kernel
theorem dL_commits_326 : decode cL_commits 326 = .ok (.iload 5, 2) := by decide +kernel
theorem dL_commits_328 : decode cL_commits 328 = .ok (.if_icmp .ne 20, 3) := by decide +kernel
theorem dL_commits_331 : decode cL_commits 331 = .ok (.aload_n 0, 1) := by decide +kernel
theorem dL_commits_332 : decode cL_commits 332 = .ok (.iconst 2, 1) := by decide +kernel
theorem dL_commits_333 : decode cL_commits 333 = .ok (.invokevirtual 61, 3) := by decide +kernel
theorem dL_commits_336 : decode cL_commits 336 = .ok (.iload 10, 2) := by decide +kernel
theorem dL_commits_338 : decode cL_commits 338 = .ok (.iload 7, 2) := by decide +kernel
theorem dL_commits_340 : decode cL_commits 340 = .ok (.iadd, 1) := by decide +kernel
theorem dL_commits_341 : decode cL_commits 341 = .ok (.if_icmp .ne 7, 3) := by decide +kernel
theorem dL_commits_344 : decode cL_commits 344 = .ok (.iconst 1, 1) := by decide +kernel
theorem dL_commits_345 : decode cL_commits 345 = .ok (.goto 4, 3) := by decide +kernel
theorem dL_commits_348 : decode cL_commits 348 = .ok (.iconst 0, 1) := by decide +kernel
theorem dL_commits_349 : decode cL_commits 349 = .ok (.ireturn, 1) := by decide +kernel
theorem dL_commits_350 : decode cL_commits 350 = .ok (.iload 15, 2) := by decide +kernel
theorem dL_commits_352 : decode cL_commits 352 = .ok (.ifCond .eq 119, 3) := by decide +kernel
theorem dL_commits_355 : decode cL_commits 355 = .ok (.iload 14, 2) := by decide +kernel
theorem dL_commits_357 : decode cL_commits 357 = .ok (.sipush (-1000), 3) := by decide +kernel
theorem dL_commits_360 : decode cL_commits 360 = .ok (.if_icmp .ne 111, 3) := by decide +kernel
theorem dL_commits_363 : decode cL_commits 363 = .ok (.aload_n 0, 1) := by decide +kernel
theorem dL_commits_364 : decode cL_commits 364 = .ok (.iload 8, 2) := by decide +kernel
theorem dL_commits_366 : decode cL_commits 366 = .ok (.iconst 3, 1) := by decide +kernel
theorem dL_commits_367 : decode cL_commits 367 = .ok (.invokevirtual 67, 3) := by decide +kernel
theorem dL_commits_370 : decode cL_commits 370 = .ok (.iconst 1, 1) := by decide +kernel
theorem dL_commits_371 : decode cL_commits 371 = .ok (.if_icmp .ne 100, 3) := by decide +kernel
theorem dL_commits_374 : decode cL_commits 374 = .ok (.aload_n 0, 1) := by decide +kernel
theorem dL_commits_375 : decode cL_commits 375 = .ok (.iload 8, 2) := by decide +kernel
theorem dL_commits_377 : decode cL_commits 377 = .ok (.iconst 0, 1) := by decide +kernel
theorem dL_commits_378 : decode cL_commits 378 = .ok (.invokevirtual 67, 3) := by decide +kernel
theorem dL_commits_381 : decode cL_commits 381 = .ok (.iload 9, 2) := by decide +kernel
theorem dL_commits_383 : decode cL_commits 383 = .ok (.if_icmp .ne 88, 3) := by decide +kernel
theorem dL_commits_386 : decode cL_commits 386 = .ok (.iload_n 1, 1) := by decide +kernel
theorem dL_commits_387 : decode cL_commits 387 = .ok (.ifCond .eq 15, 3) := by decide +kernel
theorem dL_commits_390 : decode cL_commits 390 = .ok (.aload_n 0, 1) := by decide +kernel
theorem dL_commits_391 : decode cL_commits 391 = .ok (.iconst 1, 1) := by decide +kernel
theorem dL_commits_392 : decode cL_commits 392 = .ok (.iload 8, 2) := by decide +kernel
theorem dL_commits_394 : decode cL_commits 394 = .ok (.isub, 1) := by decide +kernel
theorem dL_commits_395 : decode cL_commits 395 = .ok (.iconst 2, 1) := by decide +kernel
theorem dL_commits_396 : decode cL_commits 396 = .ok (.invokevirtual 67, 3) := by decide +kernel
theorem dL_commits_399 : decode cL_commits 399 = .ok (.ifCond .ne 72, 3) := by decide +kernel
theorem dL_commits_402 : decode cL_commits 402 = .ok (.iload_n 1, 1) := by decide +kernel
theorem dL_commits_403 : decode cL_commits 403 = .ok (.iconst 2, 1) := by decide +kernel
theorem dL_commits_404 : decode cL_commits 404 = .ok (.if_icmp .lt 19, 3) := by decide +kernel
theorem dL_commits_407 : decode cL_commits 407 = .ok (.aload_n 0, 1) := by decide +kernel
theorem dL_commits_408 : decode cL_commits 408 = .ok (.iconst 1, 1) := by decide +kernel
theorem dL_commits_409 : decode cL_commits 409 = .ok (.iload 8, 2) := by decide +kernel
theorem dL_commits_411 : decode cL_commits 411 = .ok (.isub, 1) := by decide +kernel
theorem dL_commits_412 : decode cL_commits 412 = .ok (.iconst 0, 1) := by decide +kernel
theorem dL_commits_413 : decode cL_commits 413 = .ok (.invokevirtual 67, 3) := by decide +kernel
theorem dL_commits_416 : decode cL_commits 416 = .ok (.iload 9, 2) := by decide +kernel
theorem dL_commits_418 : decode cL_commits 418 = .ok (.iconst 1, 1) := by decide +kernel
theorem dL_commits_419 : decode cL_commits 419 = .ok (.iadd, 1) := by decide +kernel
theorem dL_commits_420 : decode cL_commits 420 = .ok (.if_icmp .ne 51, 3) := by decide +kernel
theorem dL_commits_423 : decode cL_commits 423 = .ok (.aload_n 0, 1) := by decide +kernel
theorem dL_commits_424 : decode cL_commits 424 = .ok (.bipush 11, 2) := by decide +kernel
theorem dL_commits_426 : decode cL_commits 426 = .ok (.invokevirtual 61, 3) := by decide +kernel
theorem dL_commits_429 : decode cL_commits 429 = .ok (.iload 11, 2) := by decide +kernel
theorem dL_commits_431 : decode cL_commits 431 = .ok (.if_icmp .ne 40, 3) := by decide +kernel
theorem dL_commits_434 : decode cL_commits 434 = .ok (.aload_n 0, 1) := by decide +kernel
theorem dL_commits_435 : decode cL_commits 435 = .ok (.bipush 12, 2) := by decide +kernel
theorem dL_commits_437 : decode cL_commits 437 = .ok (.invokevirtual 61, 3) := by decide +kernel
theorem dL_commits_440 : decode cL_commits 440 = .ok (.iload 12, 2) := by decide +kernel
theorem dL_commits_442 : decode cL_commits 442 = .ok (.iconst 1, 1) := by decide +kernel
theorem dL_commits_443 : decode cL_commits 443 = .ok (.iadd, 1) := by decide +kernel
theorem dL_commits_444 : decode cL_commits 444 = .ok (.if_icmp .ne 27, 3) := by decide +kernel
theorem dL_commits_447 : decode cL_commits 447 = .ok (.aload_n 0, 1) := by decide +kernel
theorem dL_commits_448 : decode cL_commits 448 = .ok (.iconst 5, 1) := by decide +kernel
theorem dL_commits_449 : decode cL_commits 449 = .ok (.invokevirtual 61, 3) := by decide +kernel
theorem dL_commits_452 : decode cL_commits 452 = .ok (.iload 13, 2) := by decide +kernel
theorem dL_commits_454 : decode cL_commits 454 = .ok (.if_icmp .ne 17, 3) := by decide +kernel
theorem dL_commits_457 : decode cL_commits 457 = .ok (.aload_n 0, 1) := by decide +kernel
theorem dL_commits_458 : decode cL_commits 458 = .ok (.iconst 2, 1) := by decide +kernel
theorem dL_commits_459 : decode cL_commits 459 = .ok (.invokevirtual 61, 3) := by decide +kernel
theorem dL_commits_462 : decode cL_commits 462 = .ok (.iload 10, 2) := by decide +kernel
theorem dL_commits_464 : decode cL_commits 464 = .ok (.if_icmp .ne 7, 3) := by decide +kernel
theorem dL_commits_467 : decode cL_commits 467 = .ok (.iconst 1, 1) := by decide +kernel
theorem dL_commits_468 : decode cL_commits 468 = .ok (.goto 4, 3) := by decide +kernel
theorem dL_commits_471 : decode cL_commits 471 = .ok (.iconst 0, 1) := by decide +kernel
theorem dL_commits_472 : decode cL_commits 472 = .ok (.ireturn, 1) := by decide +kernel
theorem dL_acts_0 : decode cL_acts 0 = .ok (.iload_n 1, 1) := by decide +kernel
theorem dL_acts_1 : decode cL_acts 1 = .ok (.bipush 20, 2) := by decide +kernel
theorem dL_acts_3 : decode cL_acts 3 = .ok (.invokestatic 102, 3) := by decide +kernel
theorem dL_acts_6 : decode cL_acts 6 = .ok (.istore_n 3, 1) := by decide +kernel
theorem dL_acts_7 : decode cL_acts 7 = .ok (.iload_n 2, 1) := by decide +kernel
theorem dL_acts_8 : decode cL_acts 8 = .ok (.iload_n 1, 1) := by decide +kernel
theorem dL_acts_9 : decode cL_acts 9 = .ok (.iconst 5, 1) := by decide +kernel
theorem dL_acts_10 : decode cL_acts 10 = .ok (.ishr, 1) := by decide +kernel
theorem dL_acts_11 : decode cL_acts 11 = .ok (.iconst 4, 1) := by decide +kernel
theorem dL_acts_12 : decode cL_acts 12 = .ok (.invokestatic 102, 3) := by decide +kernel
theorem dL_acts_15 : decode cL_acts 15 = .ok (.ifCond .ne 8, 3) := by decide +kernel
