theorem dL_told_0 : decode cL_told 0 = .ok (.iload_n 1, 1) := by decide +kernel
theorem dL_told_1 : decode cL_told 1 = .ok (.aload_n 0, 1) := by decide +kernel
theorem dL_told_2 : decode cL_told 2 = .ok (.arraylength, 1) := by decide +kernel
theorem dL_told_3 : decode cL_told 3 = .ok (.if_icmp .ge 9, 3) := by decide +kernel
theorem dL_told_6 : decode cL_told 6 = .ok (.aload_n 0, 1) := by decide +kernel
theorem dL_told_7 : decode cL_told 7 = .ok (.iload_n 1, 1) := by decide +kernel
theorem dL_told_8 : decode cL_told 8 = .ok (.iaload, 1) := by decide +kernel
theorem dL_told_9 : decode cL_told 9 = .ok (.goto 14, 3) := by decide +kernel
theorem dL_told_12 : decode cL_told 12 = .ok (.ldc 7, 2) := by decide +kernel
theorem dL_told_14 : decode cL_told 14 = .ok (.iload_n 1, 1) := by decide +kernel
theorem dL_told_15 : decode cL_told 15 = .ok (.iconst 5, 1) := by decide +kernel
theorem dL_told_16 : decode cL_told 16 = .ok (.iadd, 1) := by decide +kernel
theorem dL_told_17 : decode cL_told 17 = .ok (.imul, 1) := by decide +kernel
theorem dL_told_18 : decode cL_told 18 = .ok (.iload_n 1, 1) := by decide +kernel
theorem dL_told_19 : decode cL_told 19 = .ok (.bipush 6, 2) := by decide +kernel
theorem dL_told_21 : decode cL_told 21 = .ok (.iadd, 1) := by decide +kernel
theorem dL_told_22 : decode cL_told 22 = .ok (.imul, 1) := by decide +kernel
theorem dL_told_23 : decode cL_told 23 = .ok (.ldc 8, 2) := by decide +kernel
theorem dL_told_25 : decode cL_told 25 = .ok (.iand, 1) := by decide +kernel
theorem dL_told_26 : decode cL_told 26 = .ok (.ireturn, 1) := by decide +kernel
theorem dL_purses_0 : decode cL_purses 0 = .ok (.iconst 0, 1) := by decide +kernel
theorem dL_purses_1 : decode cL_purses 1 = .ok (.istore_n 1, 1) := by decide +kernel
theorem dL_purses_2 : decode cL_purses 2 = .ok (.iconst 0, 1) := by decide +kernel
theorem dL_purses_3 : decode cL_purses 3 = .ok (.istore_n 2, 1) := by decide +kernel
theorem dL_purses_4 : decode cL_purses 4 = .ok (.iload_n 2, 1) := by decide +kernel
theorem dL_purses_5 : decode cL_purses 5 = .ok (.bipush 8, 2) := by decide +kernel
theorem dL_purses_7 : decode cL_purses 7 = .ok (.if_icmp .ge 17, 3) := by decide +kernel
theorem dL_purses_10 : decode cL_purses 10 = .ok (.iload_n 1, 1) := by decide +kernel
theorem dL_purses_11 : decode cL_purses 11 = .ok (.aload_n 0, 1) := by decide +kernel
theorem dL_purses_12 : decode cL_purses 12 = .ok (.iload_n 2, 1) := by decide +kernel
theorem dL_purses_13 : decode cL_purses 13 = .ok (.invokevirtual 9, 3) := by decide +kernel
theorem dL_purses_16 : decode cL_purses 16 = .ok (.iadd, 1) := by decide +kernel
theorem dL_purses_17 : decode cL_purses 17 = .ok (.istore_n 1, 1) := by decide +kernel
theorem dL_purses_18 : decode cL_purses 18 = .ok (.iinc 2 1, 3) := by decide +kernel
theorem dL_purses_21 : decode cL_purses 21 = .ok (.goto (-17), 3) := by decide +kernel
theorem dL_purses_24 : decode cL_purses 24 = .ok (.iload_n 1, 1) := by decide +kernel
theorem dL_purses_25 : decode cL_purses 25 = .ok (.ireturn, 1) := by decide +kernel
theorem dL_does_0 : decode cL_does 0 = .ok (.aload_n 0, 1) := by decide +kernel
theorem dL_does_1 : decode cL_does 1 = .ok (.invokevirtual 15, 3) := by decide +kernel
theorem dL_does_4 : decode cL_does 4 = .ok (.istore 4, 2) := by decide +kernel
theorem dL_does_6 : decode cL_does 6 = .ok (.iload 4, 2) := by decide +kernel
theorem dL_does_8 : decode cL_does 8 = .ok (.ifCond .ne 7, 3) := by decide +kernel
theorem dL_does_11 : decode cL_does 11 = .ok (.iconst (-1), 1) := by decide +kernel
theorem dL_does_12 : decode cL_does 12 = .ok (.goto 10, 3) := by decide +kernel
theorem dL_does_15 : decode cL_does 15 = .ok (.iload_n 2, 1) := by decide +kernel
theorem dL_does_16 : decode cL_does 16 = .ok (.bipush 8, 2) := by decide +kernel
theorem dL_does_18 : decode cL_does 18 = .ok (.idiv, 1) := by decide +kernel
theorem dL_does_19 : decode cL_does 19 = .ok (.iload 4, 2) := by decide +kernel
theorem dL_does_21 : decode cL_does 21 = .ok (.irem, 1) := by decide +kernel
theorem dL_does_22 : decode cL_does 22 = .ok (.istore 5, 2) := by decide +kernel
theorem dL_does_24 : decode cL_does 24 = .ok (.iload 5, 2) := by decide +kernel
theorem dL_does_26 : decode cL_does 26 = .ok (.ifCond .lt 17, 3) := by decide +kernel
theorem dL_does_29 : decode cL_does 29 = .ok (.aload_n 0, 1) := by decide +kernel
theorem dL_does_30 : decode cL_does 30 = .ok (.iload 5, 2) := by decide +kernel
theorem dL_does_32 : decode cL_does 32 = .ok (.invokevirtual 19, 3) := by decide +kernel
theorem dL_does_35 : decode cL_does 35 = .ok (.iconst 5, 1) := by decide +kernel
theorem dL_does_36 : decode cL_does 36 = .ok (.if_icmp .ge 7, 3) := by decide +kernel
theorem dL_does_39 : decode cL_does 39 = .ok (.iconst 1, 1) := by decide +kernel
theorem dL_does_40 : decode cL_does 40 = .ok (.goto 4, 3) := by decide +kernel
theorem dL_does_43 : decode cL_does 43 = .ok (.iconst 0, 1) := by decide +kernel
theorem dL_does_44 : decode cL_does 44 = .ok (.istore 6, 2) := by decide +kernel
theorem dL_does_46 : decode cL_does 46 = .ok (.iload_n 2, 1) := by decide +kernel
theorem dL_does_47 : decode cL_does 47 = .ok (.bipush 8, 2) := by decide +kernel
theorem dL_does_49 : decode cL_does 49 = .ok (.irem, 1) := by decide +kernel
theorem dL_does_50 : decode cL_does 50 = .ok (.tableswitch 308 0 4 #[34, 34, 123, 210, 264], 34) := by decide +kernel
theorem dL_does_84 : decode cL_does 84 = .ok (.iconst 1, 1) := by decide +kernel
theorem dL_does_85 : decode cL_does 85 = .ok (.iload_n 3, 1) := by decide +kernel
theorem dL_does_86 : decode cL_does 86 = .ok (.iconst 3, 1) := by decide +kernel
theorem dL_does_87 : decode cL_does 87 = .ok (.irem, 1) := by decide +kernel
theorem dL_does_88 : decode cL_does 88 = .ok (.iadd, 1) := by decide +kernel
theorem dL_does_89 : decode cL_does 89 = .ok (.istore 7, 2) := by decide +kernel
theorem dL_does_91 : decode cL_does 91 = .ok (.iload_n 3, 1) := by decide +kernel
theorem dL_does_92 : decode cL_does 92 = .ok (.iconst 3, 1) := by decide +kernel
theorem dL_does_93 : decode cL_does 93 = .ok (.idiv, 1) := by decide +kernel
theorem dL_does_94 : decode cL_does 94 = .ok (.iconst 5, 1) := by decide +kernel
theorem dL_does_95 : decode cL_does 95 = .ok (.irem, 1) := by decide +kernel
theorem dL_does_96 : decode cL_does 96 = .ok (.istore 8, 2) := by decide +kernel
theorem dL_does_98 : decode cL_does 98 = .ok (.iload 4, 2) := by decide +kernel
theorem dL_does_100 : decode cL_does 100 = .ok (.bipush 24, 2) := by decide +kernel
theorem dL_does_102 : decode cL_does 102 = .ok (.if_icmp .ge 69, 3) := by decide +kernel
theorem dL_does_105 : decode cL_does 105 = .ok (.aload_n 0, 1) := by decide +kernel
theorem dL_does_106 : decode cL_does 106 = .ok (.iload 8, 2) := by decide +kernel
theorem dL_does_108 : decode cL_does 108 = .ok (.invokevirtual 22, 3) := by decide +kernel
theorem dL_does_111 : decode cL_does 111 = .ok (.iload 7, 2) := by decide +kernel
theorem dL_does_113 : decode cL_does 113 = .ok (.iadd, 1) := by decide +kernel
theorem dL_does_114 : decode cL_does 114 = .ok (.bipush 10, 2) := by decide +kernel
theorem dL_does_116 : decode cL_does 116 = .ok (.if_icmp .gt 55, 3) := by decide +kernel
theorem dL_does_119 : decode cL_does 119 = .ok (.aload_n 1, 1) := by decide +kernel
theorem dL_does_120 : decode cL_does 120 = .ok (.iload 4, 2) := by decide +kernel
theorem dL_does_122 : decode cL_does 122 = .ok (.iload 7, 2) := by decide +kernel
theorem dL_does_124 : decode cL_does 124 = .ok (.iastore, 1) := by decide +kernel
theorem dL_does_125 : decode cL_does 125 = .ok (.aload_n 0, 1) := by decide +kernel
theorem dL_does_126 : decode cL_does 126 = .ok (.iload_n 3, 1) := by decide +kernel
theorem dL_does_127 : decode cL_does 127 = .ok (.bipush 15, 2) := by decide +kernel
theorem dL_does_129 : decode cL_does 129 = .ok (.idiv, 1) := by decide +kernel
theorem dL_does_130 : decode cL_does 130 = .ok (.bipush 8, 2) := by decide +kernel
theorem dL_does_132 : decode cL_does 132 = .ok (.irem, 1) := by decide +kernel
theorem dL_does_133 : decode cL_does 133 = .ok (.iload 7, 2) := by decide +kernel
theorem dL_does_135 : decode cL_does 135 = .ok (.iload 8, 2) := by decide +kernel
theorem dL_does_137 : decode cL_does 137 = .ok (.invokevirtual 25, 3) := by decide +kernel
theorem dL_does_140 : decode cL_does 140 = .ok (.iload 4, 2) := by decide +kernel
theorem dL_does_142 : decode cL_does 142 = .ok (.if_icmp .ne 27, 3) := by decide +kernel
theorem dL_does_145 : decode cL_does 145 = .ok (.aload_n 0, 1) := by decide +kernel
theorem dL_does_146 : decode cL_does 146 = .ok (.iload 4, 2) := by decide +kernel
theorem dL_does_148 : decode cL_does 148 = .ok (.invokevirtual 19, 3) := by decide +kernel
theorem dL_does_151 : decode cL_does 151 = .ok (.iload 8, 2) := by decide +kernel
theorem dL_does_153 : decode cL_does 153 = .ok (.if_icmp .ne 16, 3) := by decide +kernel
theorem dL_does_156 : decode cL_does 156 = .ok (.aload_n 0, 1) := by decide +kernel
theorem dL_does_157 : decode cL_does 157 = .ok (.iload 4, 2) := by decide +kernel
theorem dL_does_159 : decode cL_does 159 = .ok (.invokevirtual 29, 3) := by decide +kernel
theorem dL_does_162 : decode cL_does 162 = .ok (.ifCond .ne 7, 3) := by decide +kernel
theorem dL_does_165 : decode cL_does 165 = .ok (.iconst 1, 1) := by decide +kernel
theorem dL_does_166 : decode cL_does 166 = .ok (.goto 4, 3) := by decide +kernel
theorem dL_does_169 : decode cL_does 169 = .ok (.iconst 0, 1) := by decide +kernel
theorem dL_does_170 : decode cL_does 170 = .ok (.ireturn, 1) := by decide +kernel
theorem dL_does_171 : decode cL_does 171 = .ok (.iconst 1, 1) := by decide +kernel
theorem dL_does_172 : decode cL_does 172 = .ok (.ireturn, 1) := by decide +kernel
theorem dL_does_173 : decode cL_does 173 = .ok (.iload 6, 2) := by decide +kernel
theorem dL_does_175 : decode cL_does 175 = .ok (.ifCond .eq 83, 3) := by decide +kernel
theorem dL_does_178 : decode cL_does 178 = .ok (.aload_n 0, 1) := by decide +kernel
theorem dL_does_179 : decode cL_does 179 = .ok (.iload 5, 2) := by decide +kernel
theorem dL_does_181 : decode cL_does 181 = .ok (.invokevirtual 32, 3) := by decide +kernel
theorem dL_does_184 : decode cL_does 184 = .ok (.ifCond .ne 74, 3) := by decide +kernel
theorem dL_does_187 : decode cL_does 187 = .ok (.iload_n 3, 1) := by decide +kernel
theorem dL_does_188 : decode cL_does 188 = .ok (.iconst 4, 1) := by decide +kernel
theorem dL_does_189 : decode cL_does 189 = .ok (.irem, 1) := by decide +kernel
theorem dL_does_190 : decode cL_does 190 = .ok (.ifCond .ne 68, 3) := by decide +kernel
theorem dL_does_193 : decode cL_does 193 = .ok (.aload_n 0, 1) := by decide +kernel
theorem dL_does_194 : decode cL_does 194 = .ok (.invokevirtual 35, 3) := by decide +kernel
theorem dL_does_197 : decode cL_does 197 = .ok (.istore 9, 2) := by decide +kernel
theorem dL_does_199 : decode cL_does 199 = .ok (.aload_n 0, 1) := by decide +kernel
theorem dL_does_200 : decode cL_does 200 = .ok (.iload 5, 2) := by decide +kernel
theorem dL_does_202 : decode cL_does 202 = .ok (.invokevirtual 29, 3) := by decide +kernel
theorem dL_does_205 : decode cL_does 205 = .ok (.istore 10, 2) := by decide +kernel
theorem dL_does_207 : decode cL_does 207 = .ok (.aload_n 0, 1) := by decide +kernel
theorem dL_does_208 : decode cL_does 208 = .ok (.iload 5, 2) := by decide +kernel
theorem dL_does_210 : decode cL_does 210 = .ok (.invokevirtual 38, 3) := by decide +kernel
theorem dL_does_213 : decode cL_does 213 = .ok (.iload 10, 2) := by decide +kernel
theorem dL_does_215 : decode cL_does 215 = .ok (.if_icmp .ne 41, 3) := by decide +kernel
theorem dL_does_218 : decode cL_does 218 = .ok (.aload_n 0, 1) := by decide +kernel
theorem dL_does_219 : decode cL_does 219 = .ok (.invokevirtual 35, 3) := by decide +kernel
theorem dL_does_222 : decode cL_does 222 = .ok (.iload 9, 2) := by decide +kernel
theorem dL_does_224 : decode cL_does 224 = .ok (.iload 10, 2) := by decide +kernel
theorem dL_does_226 : decode cL_does 226 = .ok (.iadd, 1) := by decide +kernel
theorem dL_does_227 : decode cL_does 227 = .ok (.if_icmp .ne 29, 3) := by decide +kernel
theorem dL_does_230 : decode cL_does 230 = .ok (.aload_n 0, 1) := by decide +kernel
theorem dL_does_231 : decode cL_does 231 = .ok (.iload 5, 2) := by decide +kernel
theorem dL_does_233 : decode cL_does 233 = .ok (.invokevirtual 19, 3) := by decide +kernel
theorem dL_does_236 : decode cL_does 236 = .ok (.bipush 10, 2) := by decide +kernel
theorem dL_does_238 : decode cL_does 238 = .ok (.if_icmp .ne 18, 3) := by decide +kernel
theorem dL_does_241 : decode cL_does 241 = .ok (.aload_n 0, 1) := by decide +kernel
theorem dL_does_242 : decode cL_does 242 = .ok (.iload 5, 2) := by decide +kernel
theorem dL_does_244 : decode cL_does 244 = .ok (.invokevirtual 29, 3) := by decide +kernel
theorem dL_does_247 : decode cL_does 247 = .ok (.iload 10, 2) := by decide +kernel
theorem dL_does_249 : decode cL_does 249 = .ok (.if_icmp .ne 7, 3) := by decide +kernel
theorem dL_does_252 : decode cL_does 252 = .ok (.iconst 1, 1) := by decide +kernel
theorem dL_does_253 : decode cL_does 253 = .ok (.goto 4, 3) := by decide +kernel
theorem dL_does_256 : decode cL_does 256 = .ok (.iconst 0, 1) := by decide +kernel
theorem dL_does_257 : decode cL_does 257 = .ok (.ireturn, 1) := by decide +kernel
theorem dL_does_258 : decode cL_does 258 = .ok (.iconst 1, 1) := by decide +kernel
theorem dL_does_259 : decode cL_does 259 = .ok (.ireturn, 1) := by decide +kernel
theorem dL_does_260 : decode cL_does 260 = .ok (.iload 6, 2) := by decide +kernel
theorem dL_does_262 : decode cL_does 262 = .ok (.ifCond .eq 46, 3) := by decide +kernel
theorem dL_does_265 : decode cL_does 265 = .ok (.aload_n 0, 1) := by decide +kernel
theorem dL_does_266 : decode cL_does 266 = .ok (.iload 5, 2) := by decide +kernel
theorem dL_does_268 : decode cL_does 268 = .ok (.invokevirtual 19, 3) := by decide +kernel
theorem dL_does_271 : decode cL_does 271 = .ok (.iload_n 3, 1) := by decide +kernel
theorem dL_does_272 : decode cL_does 272 = .ok (.iconst 5, 1) := by decide +kernel
theorem dL_does_273 : decode cL_does 273 = .ok (.irem, 1) := by decide +kernel
theorem dL_does_274 : decode cL_does 274 = .ok (.if_icmp .eq 34, 3) := by decide +kernel
theorem dL_does_277 : decode cL_does 277 = .ok (.aload_n 0, 1) := by decide +kernel
theorem dL_does_278 : decode cL_does 278 = .ok (.iload 5, 2) := by decide +kernel
theorem dL_does_280 : decode cL_does 280 = .ok (.iload_n 3, 1) := by decide +kernel
theorem dL_does_281 : decode cL_does 281 = .ok (.iconst 5, 1) := by decide +kernel
theorem dL_does_282 : decode cL_does 282 = .ok (.irem, 1) := by decide +kernel
theorem dL_does_283 : decode cL_does 283 = .ok (.invokevirtual 41, 3) := by decide +kernel
theorem dL_does_286 : decode cL_does 286 = .ok (.ifCond .le 26, 3) := by decide +kernel
theorem dL_does_289 : decode cL_does 289 = .ok (.aload_n 0, 1) := by decide +kernel
theorem dL_does_290 : decode cL_does 290 = .ok (.iload 5, 2) := by decide +kernel
theorem dL_does_292 : decode cL_does 292 = .ok (.invokevirtual 32, 3) := by decide +kernel
theorem dL_does_295 : decode cL_does 295 = .ok (.ifCond .gt 13, 3) := by decide +kernel
theorem dL_does_298 : decode cL_does 298 = .ok (.aload_n 0, 1) := by decide +kernel
theorem dL_does_299 : decode cL_does 299 = .ok (.iload 5, 2) := by decide +kernel
theorem dL_does_301 : decode cL_does 301 = .ok (.invokevirtual 19, 3) := by decide +kernel
theorem dL_does_304 : decode cL_does 304 = .ok (.iconst 5, 1) := by decide +kernel
theorem dL_does_305 : decode cL_does 305 = .ok (.if_icmp .ge 7, 3) := by decide +kernel
theorem dL_does_308 : decode cL_does 308 = .ok (.iconst 1, 1) := by decide +kernel
theorem dL_does_309 : decode cL_does 309 = .ok (.goto 4, 3) := by decide +kernel
theorem dL_does_312 : decode cL_does 312 = .ok (.iconst 0, 1) := by decide +kernel
theorem dL_does_313 : decode cL_does 313 = .ok (.ireturn, 1) := by decide +kernel
theorem dL_does_314 : decode cL_does 314 = .ok (.iload 6, 2) := by decide +kernel
theorem dL_does_316 : decode cL_does 316 = .ok (.ifCond .eq 36, 3) := by decide +kernel
theorem dL_does_319 : decode cL_does 319 = .ok (.aload_n 0, 1) := by decide +kernel
theorem dL_does_320 : decode cL_does 320 = .ok (.iload 5, 2) := by decide +kernel
theorem dL_does_322 : decode cL_does 322 = .ok (.iload_n 3, 1) := by decide +kernel
theorem dL_does_323 : decode cL_does 323 = .ok (.sipush 300, 3) := by decide +kernel
theorem dL_does_326 : decode cL_does 326 = .ok (.irem, 1) := by decide +kernel
theorem dL_does_327 : decode cL_does 327 = .ok (.invokevirtual 45, 3) := by decide +kernel
theorem dL_does_330 : decode cL_does 330 = .ok (.ifCond .lt 26, 3) := by decide +kernel
theorem dL_does_333 : decode cL_does 333 = .ok (.aload_n 0, 1) := by decide +kernel
theorem dL_does_334 : decode cL_does 334 = .ok (.iload 5, 2) := by decide +kernel
theorem dL_does_336 : decode cL_does 336 = .ok (.iload_n 3, 1) := by decide +kernel
theorem dL_does_337 : decode cL_does 337 = .ok (.sipush 300, 3) := by decide +kernel
theorem dL_does_340 : decode cL_does 340 = .ok (.irem, 1) := by decide +kernel
theorem dL_does_341 : decode cL_does 341 = .ok (.invokevirtual 45, 3) := by decide +kernel
theorem dL_does_344 : decode cL_does 344 = .ok (.iload_n 3, 1) := by decide +kernel
theorem dL_does_345 : decode cL_does 345 = .ok (.sipush 300, 3) := by decide +kernel
theorem dL_does_348 : decode cL_does 348 = .ok (.irem, 1) := by decide +kernel
theorem dL_does_349 : decode cL_does 349 = .ok (.if_icmp .ne 7, 3) := by decide +kernel
theorem dL_does_352 : decode cL_does 352 = .ok (.iconst 1, 1) := by decide +kernel
theorem dL_does_353 : decode cL_does 353 = .ok (.goto 4, 3) := by decide +kernel
theorem dL_does_356 : decode cL_does 356 = .ok (.iconst 0, 1) := by decide +kernel
theorem dL_does_357 : decode cL_does 357 = .ok (.ireturn, 1) := by decide +kernel
theorem dL_does_358 : decode cL_does 358 = .ok (.iconst 1, 1) := by decide +kernel
theorem dL_does_359 : decode cL_does 359 = .ok (.ireturn, 1) := by decide +kernel
theorem dL_lends_0 : decode cL_lends 0 = .ok (.aload_n 0, 1) := by decide +kernel
theorem dL_lends_1 : decode cL_lends 1 = .ok (.invokestatic 48, 3) := by decide +kernel
theorem dL_lends_4 : decode cL_lends 4 = .ok (.istore 5, 2) := by decide +kernel
theorem dL_lends_6 : decode cL_lends 6 = .ok (.aload_n 0, 1) := by decide +kernel
theorem dL_lends_7 : decode cL_lends 7 = .ok (.iload_n 2, 1) := by decide +kernel
theorem dL_lends_8 : decode cL_lends 8 = .ok (.invokevirtual 19, 3) := by decide +kernel
theorem dL_lends_11 : decode cL_lends 11 = .ok (.iconst 5, 1) := by decide +kernel
theorem dL_lends_12 : decode cL_lends 12 = .ok (.if_icmp .lt 17, 3) := by decide +kernel
theorem dL_lends_15 : decode cL_lends 15 = .ok (.aload_n 0, 1) := by decide +kernel
theorem dL_lends_16 : decode cL_lends 16 = .ok (.iload_n 2, 1) := by decide +kernel
theorem dL_lends_17 : decode cL_lends 17 = .ok (.invokevirtual 32, 3) := by decide +kernel
theorem dL_lends_20 : decode cL_lends 20 = .ok (.ifCond .ne 7, 3) := by decide +kernel
theorem dL_lends_23 : decode cL_lends 23 = .ok (.iconst 1, 1) := by decide +kernel
theorem dL_lends_24 : decode cL_lends 24 = .ok (.goto 4, 3) := by decide +kernel
theorem dL_lends_27 : decode cL_lends 27 = .ok (.iconst 0, 1) := by decide +kernel
theorem dL_lends_28 : decode cL_lends 28 = .ok (.ireturn, 1) := by decide +kernel
theorem dL_lends_29 : decode cL_lends 29 = .ok (.aload_n 0, 1) := by decide +kernel
theorem dL_lends_30 : decode cL_lends 30 = .ok (.iload_n 2, 1) := by decide +kernel
theorem dL_lends_31 : decode cL_lends 31 = .ok (.invokevirtual 32, 3) := by decide +kernel
theorem dL_lends_34 : decode cL_lends 34 = .ok (.istore 6, 2) := by decide +kernel
theorem dL_lends_36 : decode cL_lends 36 = .ok (.iload 6, 2) := by decide +kernel
theorem dL_lends_38 : decode cL_lends 38 = .ok (.ifCond .le 39, 3) := by decide +kernel
theorem dL_lends_41 : decode cL_lends 41 = .ok (.aload_n 0, 1) := by decide +kernel
theorem dL_lends_42 : decode cL_lends 42 = .ok (.iload_n 2, 1) := by decide +kernel
theorem dL_lends_43 : decode cL_lends 43 = .ok (.invokevirtual 54, 3) := by decide +kernel
theorem dL_lends_46 : decode cL_lends 46 = .ok (.iload 6, 2) := by decide +kernel
theorem dL_lends_48 : decode cL_lends 48 = .ok (.if_icmp .ne 27, 3) := by decide +kernel
theorem dL_lends_51 : decode cL_lends 51 = .ok (.aload_n 0, 1) := by decide +kernel
theorem dL_lends_52 : decode cL_lends 52 = .ok (.iload_n 2, 1) := by decide +kernel
theorem dL_lends_53 : decode cL_lends 53 = .ok (.invokevirtual 32, 3) := by decide +kernel
theorem dL_lends_56 : decode cL_lends 56 = .ok (.ifCond .ne 19, 3) := by decide +kernel
theorem dL_lends_59 : decode cL_lends 59 = .ok (.aload_n 0, 1) := by decide +kernel
theorem dL_lends_60 : decode cL_lends 60 = .ok (.invokestatic 48, 3) := by decide +kernel
theorem dL_lends_63 : decode cL_lends 63 = .ok (.iload 5, 2) := by decide +kernel
theorem dL_lends_65 : decode cL_lends 65 = .ok (.iload 6, 2) := by decide +kernel
theorem dL_lends_67 : decode cL_lends 67 = .ok (.iadd, 1) := by decide +kernel
theorem dL_lends_68 : decode cL_lends 68 = .ok (.if_icmp .ne 7, 3) := by decide +kernel
theorem dL_lends_71 : decode cL_lends 71 = .ok (.iconst 1, 1) := by decide +kernel
theorem dL_lends_72 : decode cL_lends 72 = .ok (.goto 4, 3) := by decide +kernel
theorem dL_lends_75 : decode cL_lends 75 = .ok (.iconst 0, 1) := by decide +kernel
theorem dL_lends_76 : decode cL_lends 76 = .ok (.ireturn, 1) := by decide +kernel
theorem dL_lends_77 : decode cL_lends 77 = .ok (.aload_n 0, 1) := by decide +kernel
theorem dL_lends_78 : decode cL_lends 78 = .ok (.iload_n 2, 1) := by decide +kernel
theorem dL_lends_79 : decode cL_lends 79 = .ok (.bipush 40, 2) := by decide +kernel
theorem dL_lends_81 : decode cL_lends 81 = .ok (.invokevirtual 45, 3) := by decide +kernel
theorem dL_lends_84 : decode cL_lends 84 = .ok (.pop, 1) := by decide +kernel
theorem dL_lends_85 : decode cL_lends 85 = .ok (.aload_n 1, 1) := by decide +kernel
theorem dL_lends_86 : decode cL_lends 86 = .ok (.iload_n 2, 1) := by decide +kernel
theorem dL_lends_87 : decode cL_lends 87 = .ok (.iaload, 1) := by decide +kernel
theorem dL_lends_88 : decode cL_lends 88 = .ok (.istore 7, 2) := by decide +kernel
theorem dL_lends_90 : decode cL_lends 90 = .ok (.iload 7, 2) := by decide +kernel
theorem dL_lends_92 : decode cL_lends 92 = .ok (.iload_n 3, 1) := by decide +kernel
theorem dL_lends_93 : decode cL_lends 93 = .ok (.if_icmp .ne 5, 3) := by decide +kernel
theorem dL_lends_96 : decode cL_lends 96 = .ok (.iconst 1, 1) := by decide +kernel
theorem dL_lends_97 : decode cL_lends 97 = .ok (.ireturn, 1) := by decide +kernel
theorem dL_lends_98 : decode cL_lends 98 = .ok (.aload_n 0, 1) := by decide +kernel
theorem dL_lends_99 : decode cL_lends 99 = .ok (.iload_n 2, 1) := by decide +kernel
theorem dL_lends_100 : decode cL_lends 100 = .ok (.iload_n 3, 1) := by decide +kernel
theorem dL_lends_101 : decode cL_lends 101 = .ok (.iconst 1, 1) := by decide +kernel
theorem dL_lends_102 : decode cL_lends 102 = .ok (.iload 4, 2) := by decide +kernel
theorem dL_lends_104 : decode cL_lends 104 = .ok (.bipush 20, 2) := by decide +kernel
theorem dL_lends_106 : decode cL_lends 106 = .ok (.irem, 1) := by decide +kernel
theorem dL_lends_107 : decode cL_lends 107 = .ok (.iadd, 1) := by decide +kernel
theorem dL_lends_108 : decode cL_lends 108 = .ok (.invokevirtual 57, 3) := by decide +kernel
theorem dL_lends_111 : decode cL_lends 111 = .ok (.iload 4, 2) := by decide +kernel
theorem dL_lends_113 : decode cL_lends 113 = .ok (.iconst 3, 1) := by decide +kernel
theorem dL_lends_114 : decode cL_lends 114 = .ok (.irem, 1) := by decide +kernel
theorem dL_lends_115 : decode cL_lends 115 = .ok (.ifCond .ne 11, 3) := by decide +kernel
theorem dL_lends_118 : decode cL_lends 118 = .ok (.aload_n 0, 1) := by decide +kernel
theorem dL_lends_119 : decode cL_lends 119 = .ok (.iload_n 2, 1) := by decide +kernel
theorem dL_lends_120 : decode cL_lends 120 = .ok (.invokevirtual 61, 3) := by decide +kernel
theorem dL_lends_123 : decode cL_lends 123 = .ok (.goto 9, 3) := by decide +kernel
theorem dL_lends_126 : decode cL_lends 126 = .ok (.aload_n 0, 1) := by decide +kernel
theorem dL_lends_127 : decode cL_lends 127 = .ok (.invokevirtual 64, 3) := by decide +kernel
theorem dL_lends_130 : decode cL_lends 130 = .ok (.iconst 3, 1) := by decide +kernel
theorem dL_lends_131 : decode cL_lends 131 = .ok (.iadd, 1) := by decide +kernel
theorem dL_lends_132 : decode cL_lends 132 = .ok (.istore 8, 2) := by decide +kernel
theorem dL_lends_134 : decode cL_lends 134 = .ok (.aload_n 0, 1) := by decide +kernel
theorem dL_lends_135 : decode cL_lends 135 = .ok (.iload_n 2, 1) := by decide +kernel
theorem dL_lends_136 : decode cL_lends 136 = .ok (.invokevirtual 32, 3) := by decide +kernel
theorem dL_lends_139 : decode cL_lends 139 = .ok (.iconst 1, 1) := by decide +kernel
theorem dL_lends_140 : decode cL_lends 140 = .ok (.iload 4, 2) := by decide +kernel
theorem dL_lends_142 : decode cL_lends 142 = .ok (.bipush 20, 2) := by decide +kernel
theorem dL_lends_144 : decode cL_lends 144 = .ok (.irem, 1) := by decide +kernel
theorem dL_lends_145 : decode cL_lends 145 = .ok (.iadd, 1) := by decide +kernel
theorem dL_lends_146 : decode cL_lends 146 = .ok (.if_icmp .ne 35, 3) := by decide +kernel
theorem dL_lends_149 : decode cL_lends 149 = .ok (.aload_n 0, 1) := by decide +kernel
theorem dL_lends_150 : decode cL_lends 150 = .ok (.invokestatic 48, 3) := by decide +kernel
theorem dL_lends_153 : decode cL_lends 153 = .ok (.iload 5, 2) := by decide +kernel
theorem dL_lends_155 : decode cL_lends 155 = .ok (.iconst 1, 1) := by decide +kernel
theorem dL_lends_156 : decode cL_lends 156 = .ok (.iadd, 1) := by decide +kernel
theorem dL_lends_157 : decode cL_lends 157 = .ok (.iload 4, 2) := by decide +kernel
theorem dL_lends_159 : decode cL_lends 159 = .ok (.bipush 20, 2) := by decide +kernel
theorem dL_lends_161 : decode cL_lends 161 = .ok (.irem, 1) := by decide +kernel
theorem dL_lends_162 : decode cL_lends 162 = .ok (.iadd, 1) := by decide +kernel
theorem dL_lends_163 : decode cL_lends 163 = .ok (.if_icmp .ne 18, 3) := by decide +kernel
theorem dL_lends_166 : decode cL_lends 166 = .ok (.iload 8, 2) := by decide +kernel
theorem dL_lends_168 : decode cL_lends 168 = .ok (.aload_n 0, 1) := by decide +kernel
theorem dL_lends_169 : decode cL_lends 169 = .ok (.invokevirtual 64, 3) := by decide +kernel
theorem dL_lends_172 : decode cL_lends 172 = .ok (.iconst 3, 1) := by decide +kernel
theorem dL_lends_173 : decode cL_lends 173 = .ok (.iadd, 1) := by decide +kernel
theorem dL_lends_174 : decode cL_lends 174 = .ok (.if_icmp .ne 7, 3) := by decide +kernel
theorem dL_lends_177 : decode cL_lends 177 = .ok (.iconst 1, 1) := by decide +kernel
theorem dL_lends_178 : decode cL_lends 178 = .ok (.goto 4, 3) := by decide +kernel
theorem dL_lends_181 : decode cL_lends 181 = .ok (.iconst 0, 1) := by decide +kernel
theorem dL_lends_182 : decode cL_lends 182 = .ok (.ireturn, 1) := by decide +kernel
theorem dL_areSo_0 : decode cL_areSo 0 = .ok (.aload_n 0, 1) := by decide +kernel
theorem dL_areSo_1 : decode cL_areSo 1 = .ok (.invokevirtual 64, 3) := by decide +kernel
theorem dL_areSo_4 : decode cL_areSo 4 = .ok (.istore_n 3, 1) := by decide +kernel
theorem dL_areSo_5 : decode cL_areSo 5 = .ok (.iconst 0, 1) := by decide +kernel
theorem dL_areSo_6 : decode cL_areSo 6 = .ok (.istore 4, 2) := by decide +kernel
theorem dL_areSo_8 : decode cL_areSo 8 = .ok (.iload 4, 2) := by decide +kernel
theorem dL_areSo_10 : decode cL_areSo 10 = .ok (.iconst 5, 1) := by decide +kernel
theorem dL_areSo_11 : decode cL_areSo 11 = .ok (.if_icmp .ge 74, 3) := by decide +kernel
theorem dL_areSo_14 : decode cL_areSo 14 = .ok (.iconst 0, 1) := by decide +kernel
theorem dL_areSo_15 : decode cL_areSo 15 = .ok (.istore 5, 2) := by decide +kernel
theorem dL_areSo_17 : decode cL_areSo 17 = .ok (.iconst 0, 1) := by decide +kernel
theorem dL_areSo_18 : decode cL_areSo 18 = .ok (.istore 6, 2) := by decide +kernel
theorem dL_areSo_20 : decode cL_areSo 20 = .ok (.iload 6, 2) := by decide +kernel
theorem dL_areSo_22 : decode cL_areSo 22 = .ok (.aload_n 0, 1) := by decide +kernel
theorem dL_areSo_23 : decode cL_areSo 23 = .ok (.invokevirtual 15, 3) := by decide +kernel
theorem dL_areSo_26 : decode cL_areSo 26 = .ok (.if_icmp .ge 33, 3) := by decide +kernel
theorem dL_areSo_29 : decode cL_areSo 29 = .ok (.iload 5, 2) := by decide +kernel
theorem dL_areSo_31 : decode cL_areSo 31 = .ok (.aload_n 0, 1) := by decide +kernel
theorem dL_areSo_32 : decode cL_areSo 32 = .ok (.iload 6, 2) := by decide +kernel
theorem dL_areSo_34 : decode cL_areSo 34 = .ok (.invokevirtual 19, 3) := by decide +kernel
theorem dL_areSo_37 : decode cL_areSo 37 = .ok (.iload 4, 2) := by decide +kernel
theorem dL_areSo_39 : decode cL_areSo 39 = .ok (.if_icmp .ne 10, 3) := by decide +kernel
theorem dL_areSo_42 : decode cL_areSo 42 = .ok (.aload_n 1, 1) := by decide +kernel
theorem dL_areSo_43 : decode cL_areSo 43 = .ok (.iload 6, 2) := by decide +kernel
theorem dL_areSo_45 : decode cL_areSo 45 = .ok (.iaload, 1) := by decide +kernel
theorem dL_areSo_46 : decode cL_areSo 46 = .ok (.goto 4, 3) := by decide +kernel
theorem dL_areSo_49 : decode cL_areSo 49 = .ok (.iconst 0, 1) := by decide +kernel
theorem dL_areSo_50 : decode cL_areSo 50 = .ok (.iadd, 1) := by decide +kernel
theorem dL_areSo_51 : decode cL_areSo 51 = .ok (.istore 5, 2) := by decide +kernel
theorem dL_areSo_53 : decode cL_areSo 53 = .ok (.iinc 6 1, 3) := by decide +kernel
theorem dL_areSo_56 : decode cL_areSo 56 = .ok (.goto (-36), 3) := by decide +kernel
theorem dL_areSo_59 : decode cL_areSo 59 = .ok (.iload 5, 2) := by decide +kernel
theorem dL_areSo_61 : decode cL_areSo 61 = .ok (.aload_n 0, 1) := by decide +kernel
theorem dL_areSo_62 : decode cL_areSo 62 = .ok (.iload 4, 2) := by decide +kernel
theorem dL_areSo_64 : decode cL_areSo 64 = .ok (.invokevirtual 22, 3) := by decide +kernel
theorem dL_areSo_67 : decode cL_areSo 67 = .ok (.if_icmp .ne 10, 3) := by decide +kernel
theorem dL_areSo_70 : decode cL_areSo 70 = .ok (.iload 5, 2) := by decide +kernel
theorem dL_areSo_72 : decode cL_areSo 72 = .ok (.bipush 10, 2) := by decide +kernel
theorem dL_areSo_74 : decode cL_areSo 74 = .ok (.if_icmp .le 5, 3) := by decide +kernel
theorem dL_areSo_77 : decode cL_areSo 77 = .ok (.iconst 0, 1) := by decide +kernel
theorem dL_areSo_78 : decode cL_areSo 78 = .ok (.ireturn, 1) := by decide +kernel
theorem dL_areSo_79 : decode cL_areSo 79 = .ok (.iinc 4 1, 3) := by decide +kernel
theorem dL_areSo_82 : decode cL_areSo 82 = .ok (.goto (-74), 3) := by decide +kernel
theorem dL_areSo_85 : decode cL_areSo 85 = .ok (.iconst 1, 1) := by decide +kernel
theorem dL_areSo_86 : decode cL_areSo 86 = .ok (.istore 4, 2) := by decide +kernel
theorem dL_areSo_88 : decode cL_areSo 88 = .ok (.iconst 0, 1) := by decide +kernel
theorem dL_areSo_89 : decode cL_areSo 89 = .ok (.istore 5, 2) := by decide +kernel
theorem dL_areSo_91 : decode cL_areSo 91 = .ok (.iload 5, 2) := by decide +kernel
theorem dL_areSo_93 : decode cL_areSo 93 = .ok (.aload_n 0, 1) := by decide +kernel
theorem dL_areSo_94 : decode cL_areSo 94 = .ok (.invokevirtual 15, 3) := by decide +kernel
theorem dL_areSo_97 : decode cL_areSo 97 = .ok (.if_icmp .ge 96, 3) := by decide +kernel
theorem dL_areSo_100 : decode cL_areSo 100 = .ok (.iload 4, 2) := by decide +kernel
theorem dL_areSo_102 : decode cL_areSo 102 = .ok (.ifCond .eq 91, 3) := by decide +kernel
theorem dL_areSo_105 : decode cL_areSo 105 = .ok (.aload_n 0, 1) := by decide +kernel
theorem dL_areSo_106 : decode cL_areSo 106 = .ok (.iload 5, 2) := by decide +kernel
theorem dL_areSo_108 : decode cL_areSo 108 = .ok (.invokevirtual 19, 3) := by decide +kernel
theorem dL_areSo_111 : decode cL_areSo 111 = .ok (.istore 6, 2) := by decide +kernel
theorem dL_areSo_113 : decode cL_areSo 113 = .ok (.aload_n 0, 1) := by decide +kernel
theorem dL_areSo_114 : decode cL_areSo 114 = .ok (.iload 5, 2) := by decide +kernel
theorem dL_areSo_116 : decode cL_areSo 116 = .ok (.iload_n 3, 1) := by decide +kernel
theorem dL_areSo_117 : decode cL_areSo 117 = .ok (.invokevirtual 67, 3) := by decide +kernel
theorem dL_areSo_120 : decode cL_areSo 120 = .ok (.iload 6, 2) := by decide +kernel
theorem dL_areSo_122 : decode cL_areSo 122 = .ok (.if_icmp .ne 56, 3) := by decide +kernel
theorem dL_areSo_125 : decode cL_areSo 125 = .ok (.aload_n 0, 1) := by decide +kernel
theorem dL_areSo_126 : decode cL_areSo 126 = .ok (.iload 5, 2) := by decide +kernel
theorem dL_areSo_128 : decode cL_areSo 128 = .ok (.invokevirtual 32, 3) := by decide +kernel
theorem dL_areSo_131 : decode cL_areSo 131 = .ok (.ifCond .eq 9, 3) := by decide +kernel
theorem dL_areSo_134 : decode cL_areSo 134 = .ok (.iload 6, 2) := by decide +kernel
theorem dL_areSo_136 : decode cL_areSo 136 = .ok (.iconst 5, 1) := by decide +kernel
theorem dL_areSo_137 : decode cL_areSo 137 = .ok (.if_icmp .ge 41, 3) := by decide +kernel
theorem dL_areSo_140 : decode cL_areSo 140 = .ok (.aload_n 2, 1) := by decide +kernel
theorem dL_areSo_141 : decode cL_areSo 141 = .ok (.iload 5, 2) := by decide +kernel
theorem dL_areSo_143 : decode cL_areSo 143 = .ok (.iaload, 1) := by decide +kernel
theorem dL_areSo_144 : decode cL_areSo 144 = .ok (.bipush 10, 2) := by decide +kernel
theorem dL_areSo_146 : decode cL_areSo 146 = .ok (.if_icmp .lt 12, 3) := by decide +kernel
theorem dL_areSo_149 : decode cL_areSo 149 = .ok (.aload_n 2, 1) := by decide +kernel
theorem dL_areSo_150 : decode cL_areSo 150 = .ok (.iload 5, 2) := by decide +kernel
theorem dL_areSo_152 : decode cL_areSo 152 = .ok (.iaload, 1) := by decide +kernel
theorem dL_areSo_153 : decode cL_areSo 153 = .ok (.iload 6, 2) := by decide +kernel
theorem dL_areSo_155 : decode cL_areSo 155 = .ok (.if_icmp .ne 23, 3) := by decide +kernel
theorem dL_areSo_158 : decode cL_areSo 158 = .ok (.iload_n 3, 1) := by decide +kernel
theorem dL_areSo_159 : decode cL_areSo 159 = .ok (.ifCond .eq 15, 3) := by decide +kernel
theorem dL_areSo_162 : decode cL_areSo 162 = .ok (.aload_n 0, 1) := by decide +kernel
theorem dL_areSo_163 : decode cL_areSo 163 = .ok (.iload 5, 2) := by decide +kernel
theorem dL_areSo_165 : decode cL_areSo 165 = .ok (.iconst 0, 1) := by decide +kernel
theorem dL_areSo_166 : decode cL_areSo 166 = .ok (.invokevirtual 67, 3) := by decide +kernel
theorem dL_areSo_169 : decode cL_areSo 169 = .ok (.bipush 12, 2) := by decide +kernel
theorem dL_areSo_171 : decode cL_areSo 171 = .ok (.if_icmp .ne 7, 3) := by decide +kernel
theorem dL_areSo_174 : decode cL_areSo 174 = .ok (.iconst 1, 1) := by decide +kernel
theorem dL_areSo_175 : decode cL_areSo 175 = .ok (.goto 4, 3) := by decide +kernel
theorem dL_areSo_178 : decode cL_areSo 178 = .ok (.iconst 0, 1) := by decide +kernel
theorem dL_areSo_179 : decode cL_areSo 179 = .ok (.istore 4, 2) := by decide +kernel
theorem dL_areSo_181 : decode cL_areSo 181 = .ok (.aload_n 2, 1) := by decide +kernel
theorem dL_areSo_182 : decode cL_areSo 182 = .ok (.iload 5, 2) := by decide +kernel
theorem dL_areSo_184 : decode cL_areSo 184 = .ok (.iload 6, 2) := by decide +kernel
theorem dL_areSo_186 : decode cL_areSo 186 = .ok (.iastore, 1) := by decide +kernel
theorem dL_areSo_187 : decode cL_areSo 187 = .ok (.iinc 5 1, 3) := by decide +kernel
theorem dL_areSo_190 : decode cL_areSo 190 = .ok (.goto (-99), 3) := by decide +kernel
theorem dL_areSo_193 : decode cL_areSo 193 = .ok (.iload 4, 2) := by decide +kernel
theorem dL_areSo_195 : decode cL_areSo 195 = .ok (.ireturn, 1) := by decide +kernel
theorem dL_law_0 : decode cL_law 0 = .ok (.new 10, 3) := by decide +kernel
theorem dL_law_3 : decode cL_law 3 = .ok (.dup, 1) := by decide +kernel
theorem dL_law_4 : decode cL_law 4 = .ok (.invokespecial 70, 3) := by decide +kernel
theorem dL_law_7 : decode cL_law 7 = .ok (.astore_n 1, 1) := by decide +kernel
theorem dL_law_8 : decode cL_law 8 = .ok (.bipush 24, 2) := by decide +kernel
theorem dL_law_10 : decode cL_law 10 = .ok (.newarray .int, 2) := by decide +kernel
theorem dL_law_12 : decode cL_law 12 = .ok (.astore_n 2, 1) := by decide +kernel
theorem dL_law_13 : decode cL_law 13 = .ok (.bipush 24, 2) := by decide +kernel
theorem dL_law_15 : decode cL_law 15 = .ok (.newarray .int, 2) := by decide +kernel
theorem dL_law_17 : decode cL_law 17 = .ok (.astore_n 3, 1) := by decide +kernel
theorem dL_law_18 : decode cL_law 18 = .ok (.bipush 24, 2) := by decide +kernel
theorem dL_law_20 : decode cL_law 20 = .ok (.newarray .int, 2) := by decide +kernel
theorem dL_law_22 : decode cL_law 22 = .ok (.astore 4, 2) := by decide +kernel
theorem dL_law_24 : decode cL_law 24 = .ok (.aload_n 1, 1) := by decide +kernel
theorem dL_law_25 : decode cL_law 25 = .ok (.invokevirtual 64, 3) := by decide +kernel
theorem dL_law_28 : decode cL_law 28 = .ok (.ifCond .ne 14, 3) := by decide +kernel
theorem dL_law_31 : decode cL_law 31 = .ok (.aload_n 1, 1) := by decide +kernel
theorem dL_law_32 : decode cL_law 32 = .ok (.invokevirtual 15, 3) := by decide +kernel
theorem dL_law_35 : decode cL_law 35 = .ok (.ifCond .ne 7, 3) := by decide +kernel
theorem dL_law_38 : decode cL_law 38 = .ok (.iconst 1, 1) := by decide +kernel
theorem dL_law_39 : decode cL_law 39 = .ok (.goto 4, 3) := by decide +kernel
theorem dL_law_42 : decode cL_law 42 = .ok (.iconst 0, 1) := by decide +kernel
theorem dL_law_43 : decode cL_law 43 = .ok (.istore 5, 2) := by decide +kernel
theorem dL_law_45 : decode cL_law 45 = .ok (.iconst 0, 1) := by decide +kernel
theorem dL_law_46 : decode cL_law 46 = .ok (.istore 6, 2) := by decide +kernel
theorem dL_law_48 : decode cL_law 48 = .ok (.iload 6, 2) := by decide +kernel
theorem dL_law_50 : decode cL_law 50 = .ok (.bipush 60, 2) := by decide +kernel
theorem dL_law_52 : decode cL_law 52 = .ok (.if_icmp .ge 380, 3) := by decide +kernel
theorem dL_law_55 : decode cL_law 55 = .ok (.iload 5, 2) := by decide +kernel
theorem dL_law_57 : decode cL_law 57 = .ok (.ifCond .eq 375, 3) := by decide +kernel
theorem dL_law_60 : decode cL_law 60 = .ok (.aload_n 0, 1) := by decide +kernel
theorem dL_law_61 : decode cL_law 61 = .ok (.iload 6, 2) := by decide +kernel
theorem dL_law_63 : decode cL_law 63 = .ok (.invokestatic 71, 3) := by decide +kernel
theorem dL_law_66 : decode cL_law 66 = .ok (.istore 7, 2) := by decide +kernel
theorem dL_law_68 : decode cL_law 68 = .ok (.aload_n 0, 1) := by decide +kernel
theorem dL_law_69 : decode cL_law 69 = .ok (.iload 6, 2) := by decide +kernel
theorem dL_law_71 : decode cL_law 71 = .ok (.iconst 2, 1) := by decide +kernel
theorem dL_law_72 : decode cL_law 72 = .ok (.iadd, 1) := by decide +kernel
theorem dL_law_73 : decode cL_law 73 = .ok (.invokestatic 71, 3) := by decide +kernel
theorem dL_law_76 : decode cL_law 76 = .ok (.istore 8, 2) := by decide +kernel
theorem dL_law_78 : decode cL_law 78 = .ok (.aload_n 1, 1) := by decide +kernel
theorem dL_law_79 : decode cL_law 79 = .ok (.invokevirtual 15, 3) := by decide +kernel
theorem dL_law_82 : decode cL_law 82 = .ok (.istore 9, 2) := by decide +kernel
theorem dL_law_84 : decode cL_law 84 = .ok (.aload_n 1, 1) := by decide +kernel
theorem dL_law_85 : decode cL_law 85 = .ok (.invokestatic 48, 3) := by decide +kernel
theorem dL_law_88 : decode cL_law 88 = .ok (.istore 10, 2) := by decide +kernel
theorem dL_law_90 : decode cL_law 90 = .ok (.aload_n 1, 1) := by decide +kernel
theorem dL_law_91 : decode cL_law 91 = .ok (.invokevirtual 35, 3) := by decide +kernel
theorem dL_law_94 : decode cL_law 94 = .ok (.istore 11, 2) := by decide +kernel
theorem dL_law_96 : decode cL_law 96 = .ok (.iload 7, 2) := by decide +kernel
theorem dL_law_98 : decode cL_law 98 = .ok (.bipush 8, 2) := by decide +kernel
theorem dL_law_100 : decode cL_law 100 = .ok (.irem, 1) := by decide +kernel
theorem dL_law_101 : decode cL_law 101 = .ok (.iconst 5, 1) := by decide +kernel
theorem dL_law_102 : decode cL_law 102 = .ok (.if_icmp .ne 36, 3) := by decide +kernel
theorem dL_law_105 : decode cL_law 105 = .ok (.iload 9, 2) := by decide +kernel
theorem dL_law_107 : decode cL_law 107 = .ok (.ifCond .le 31, 3) := by decide +kernel
theorem dL_law_110 : decode cL_law 110 = .ok (.aload_n 1, 1) := by decide +kernel
theorem dL_law_111 : decode cL_law 111 = .ok (.aload_n 3, 1) := by decide +kernel
theorem dL_law_112 : decode cL_law 112 = .ok (.iload 7, 2) := by decide +kernel
theorem dL_law_114 : decode cL_law 114 = .ok (.bipush 8, 2) := by decide +kernel
theorem dL_law_116 : decode cL_law 116 = .ok (.idiv, 1) := by decide +kernel
theorem dL_law_117 : decode cL_law 117 = .ok (.iload 9, 2) := by decide +kernel
theorem dL_law_119 : decode cL_law 119 = .ok (.irem, 1) := by decide +kernel
theorem dL_law_120 : decode cL_law 120 = .ok (.iload 8, 2) := by decide +kernel
theorem dL_law_122 : decode cL_law 122 = .ok (.bipush 8, 2) := by decide +kernel
theorem dL_law_124 : decode cL_law 124 = .ok (.irem, 1) := by decide +kernel
theorem dL_law_125 : decode cL_law 125 = .ok (.iload 8, 2) := by decide +kernel
theorem dL_law_127 : decode cL_law 127 = .ok (.bipush 8, 2) := by decide +kernel
theorem dL_law_129 : decode cL_law 129 = .ok (.idiv, 1) := by decide +kernel
theorem dL_law_130 : decode cL_law 130 = .ok (.invokestatic 75, 3) := by decide +kernel
theorem dL_law_133 : decode cL_law 133 = .ok (.istore 5, 2) := by decide +kernel
theorem dL_law_135 : decode cL_law 135 = .ok (.goto 251, 3) := by decide +kernel
theorem dL_law_138 : decode cL_law 138 = .ok (.iload 7, 2) := by decide +kernel
theorem dL_law_140 : decode cL_law 140 = .ok (.bipush 8, 2) := by decide +kernel
theorem dL_law_142 : decode cL_law 142 = .ok (.irem, 1) := by decide +kernel
theorem dL_law_143 : decode cL_law 143 = .ok (.bipush 6, 2) := by decide +kernel
theorem dL_law_145 : decode cL_law 145 = .ok (.if_icmp .lt 209, 3) := by decide +kernel
theorem dL_law_148 : decode cL_law 148 = .ok (.aload_n 1, 1) := by decide +kernel
theorem dL_law_149 : decode cL_law 149 = .ok (.invokevirtual 64, 3) := by decide +kernel
theorem dL_law_152 : decode cL_law 152 = .ok (.sipush 900, 3) := by decide +kernel
theorem dL_law_155 : decode cL_law 155 = .ok (.if_icmp .ge 199, 3) := by decide +kernel
theorem dL_law_158 : decode cL_law 158 = .ok (.iload 9, 2) := by decide +kernel
theorem dL_law_160 : decode cL_law 160 = .ok (.ifCond .ne 7, 3) := by decide +kernel
theorem dL_law_163 : decode cL_law 163 = .ok (.iconst (-1), 1) := by decide +kernel
theorem dL_law_164 : decode cL_law 164 = .ok (.goto 8, 3) := by decide +kernel
theorem dL_law_167 : decode cL_law 167 = .ok (.iload 8, 2) := by decide +kernel
theorem dL_law_169 : decode cL_law 169 = .ok (.iload 9, 2) := by decide +kernel
theorem dL_law_171 : decode cL_law 171 = .ok (.irem, 1) := by decide +kernel
theorem dL_law_172 : decode cL_law 172 = .ok (.istore 12, 2) := by decide +kernel
theorem dL_law_174 : decode cL_law 174 = .ok (.iload 12, 2) := by decide +kernel
theorem dL_law_176 : decode cL_law 176 = .ok (.ifCond .ge 7, 3) := by decide +kernel
theorem dL_law_179 : decode cL_law 179 = .ok (.iconst 0, 1) := by decide +kernel
theorem dL_law_180 : decode cL_law 180 = .ok (.goto 9, 3) := by decide +kernel
theorem dL_law_183 : decode cL_law 183 = .ok (.aload_n 1, 1) := by decide +kernel
theorem dL_law_184 : decode cL_law 184 = .ok (.iload 12, 2) := by decide +kernel
theorem dL_law_186 : decode cL_law 186 = .ok (.invokevirtual 19, 3) := by decide +kernel
theorem dL_law_189 : decode cL_law 189 = .ok (.istore 13, 2) := by decide +kernel
theorem dL_law_191 : decode cL_law 191 = .ok (.iload 12, 2) := by decide +kernel
theorem dL_law_193 : decode cL_law 193 = .ok (.ifCond .lt 16, 3) := by decide +kernel
theorem dL_law_196 : decode cL_law 196 = .ok (.aload_n 1, 1) := by decide +kernel
theorem dL_law_197 : decode cL_law 197 = .ok (.iload 12, 2) := by decide +kernel
theorem dL_law_199 : decode cL_law 199 = .ok (.invokevirtual 32, 3) := by decide +kernel
theorem dL_law_202 : decode cL_law 202 = .ok (.ifCond .le 7, 3) := by decide +kernel
theorem dL_law_205 : decode cL_law 205 = .ok (.iconst 1, 1) := by decide +kernel
theorem dL_law_206 : decode cL_law 206 = .ok (.goto 4, 3) := by decide +kernel
theorem dL_law_209 : decode cL_law 209 = .ok (.iconst 0, 1) := by decide +kernel
theorem dL_law_210 : decode cL_law 210 = .ok (.istore 14, 2) := by decide +kernel
theorem dL_law_212 : decode cL_law 212 = .ok (.aload_n 1, 1) := by decide +kernel
theorem dL_law_213 : decode cL_law 213 = .ok (.invokevirtual 64, 3) := by decide +kernel
theorem dL_law_216 : decode cL_law 216 = .ok (.istore 15, 2) := by decide +kernel
theorem dL_law_218 : decode cL_law 218 = .ok (.iconst 1, 1) := by decide +kernel
theorem dL_law_219 : decode cL_law 219 = .ok (.iload 8, 2) := by decide +kernel
theorem dL_law_221 : decode cL_law 221 = .ok (.iload 7, 2) := by decide +kernel
theorem dL_law_223 : decode cL_law 223 = .ok (.bipush 8, 2) := by decide +kernel
theorem dL_law_225 : decode cL_law 225 = .ok (.irem, 1) := by decide +kernel
theorem dL_law_226 : decode cL_law 226 = .ok (.bipush 6, 2) := by decide +kernel
theorem dL_law_228 : decode cL_law 228 = .ok (.if_icmp .ne 7, 3) := by decide +kernel
theorem dL_law_231 : decode cL_law 231 = .ok (.iconst 3, 1) := by decide +kernel
theorem dL_law_232 : decode cL_law 232 = .ok (.goto 5, 3) := by decide +kernel
theorem dL_law_235 : decode cL_law 235 = .ok (.bipush 20, 2) := by decide +kernel
theorem dL_law_237 : decode cL_law 237 = .ok (.irem, 1) := by decide +kernel
theorem dL_law_238 : decode cL_law 238 = .ok (.iadd, 1) := by decide +kernel
theorem dL_law_239 : decode cL_law 239 = .ok (.istore 16, 2) := by decide +kernel
theorem dL_law_241 : decode cL_law 241 = .ok (.aload_n 1, 1) := by decide +kernel
theorem dL_law_242 : decode cL_law 242 = .ok (.iload 16, 2) := by decide +kernel
theorem dL_law_244 : decode cL_law 244 = .ok (.invokevirtual 79, 3) := by decide +kernel
theorem dL_law_247 : decode cL_law 247 = .ok (.ifCond .lt 62, 3) := by decide +kernel
theorem dL_law_250 : decode cL_law 250 = .ok (.aload_n 1, 1) := by decide +kernel
theorem dL_law_251 : decode cL_law 251 = .ok (.invokevirtual 64, 3) := by decide +kernel
theorem dL_law_254 : decode cL_law 254 = .ok (.iload 15, 2) := by decide +kernel
theorem dL_law_256 : decode cL_law 256 = .ok (.iload 16, 2) := by decide +kernel
theorem dL_law_258 : decode cL_law 258 = .ok (.iadd, 1) := by decide +kernel
theorem dL_law_259 : decode cL_law 259 = .ok (.if_icmp .ne 50, 3) := by decide +kernel
theorem dL_law_262 : decode cL_law 262 = .ok (.iload 12, 2) := by decide +kernel
theorem dL_law_264 : decode cL_law 264 = .ok (.ifCond .lt 41, 3) := by decide +kernel
theorem dL_law_267 : decode cL_law 267 = .ok (.aload_n 1, 1) := by decide +kernel
theorem dL_law_268 : decode cL_law 268 = .ok (.iload 12, 2) := by decide +kernel
theorem dL_law_270 : decode cL_law 270 = .ok (.iload 15, 2) := by decide +kernel
theorem dL_law_272 : decode cL_law 272 = .ok (.invokevirtual 67, 3) := by decide +kernel
theorem dL_law_275 : decode cL_law 275 = .ok (.iload 13, 2) := by decide +kernel
theorem dL_law_277 : decode cL_law 277 = .ok (.if_icmp .eq 28, 3) := by decide +kernel
theorem dL_law_280 : decode cL_law 280 = .ok (.aload_n 1, 1) := by decide +kernel
theorem dL_law_281 : decode cL_law 281 = .ok (.iload 12, 2) := by decide +kernel
theorem dL_law_283 : decode cL_law 283 = .ok (.iload 15, 2) := by decide +kernel
theorem dL_law_285 : decode cL_law 285 = .ok (.invokevirtual 67, 3) := by decide +kernel
theorem dL_law_288 : decode cL_law 288 = .ok (.bipush 12, 2) := by decide +kernel
theorem dL_law_290 : decode cL_law 290 = .ok (.if_icmp .eq 15, 3) := by decide +kernel
theorem dL_law_293 : decode cL_law 293 = .ok (.aload_n 1, 1) := by decide +kernel
theorem dL_law_294 : decode cL_law 294 = .ok (.iload 12, 2) := by decide +kernel
theorem dL_law_296 : decode cL_law 296 = .ok (.iload 15, 2) := by decide +kernel
theorem dL_law_298 : decode cL_law 298 = .ok (.invokevirtual 67, 3) := by decide +kernel
theorem dL_law_301 : decode cL_law 301 = .ok (.iconst 5, 1) := by decide +kernel
theorem dL_law_302 : decode cL_law 302 = .ok (.if_icmp .ge 7, 3) := by decide +kernel
theorem dL_law_305 : decode cL_law 305 = .ok (.iconst 1, 1) := by decide +kernel
theorem dL_law_306 : decode cL_law 306 = .ok (.goto 4, 3) := by decide +kernel
theorem dL_law_309 : decode cL_law 309 = .ok (.iconst 0, 1) := by decide +kernel
theorem dL_law_310 : decode cL_law 310 = .ok (.istore 5, 2) := by decide +kernel
theorem dL_law_312 : decode cL_law 312 = .ok (.iload 5, 2) := by decide +kernel
theorem dL_law_314 : decode cL_law 314 = .ok (.ifCond .eq 34, 3) := by decide +kernel
theorem dL_law_317 : decode cL_law 317 = .ok (.iload 14, 2) := by decide +kernel
theorem dL_law_319 : decode cL_law 319 = .ok (.ifCond .eq 25, 3) := by decide +kernel
theorem dL_law_322 : decode cL_law 322 = .ok (.aload_n 1, 1) := by decide +kernel
theorem dL_law_323 : decode cL_law 323 = .ok (.iload 12, 2) := by decide +kernel
theorem dL_law_325 : decode cL_law 325 = .ok (.invokevirtual 19, 3) := by decide +kernel
theorem dL_law_328 : decode cL_law 328 = .ok (.iload 13, 2) := by decide +kernel
theorem dL_law_330 : decode cL_law 330 = .ok (.if_icmp .eq 14, 3) := by decide +kernel
theorem dL_law_333 : decode cL_law 333 = .ok (.aload_n 1, 1) := by decide +kernel
theorem dL_law_334 : decode cL_law 334 = .ok (.iload 12, 2) := by decide +kernel
theorem dL_law_336 : decode cL_law 336 = .ok (.invokevirtual 19, 3) := by decide +kernel
theorem dL_law_339 : decode cL_law 339 = .ok (.bipush 11, 2) := by decide +kernel
theorem dL_law_341 : decode cL_law 341 = .ok (.if_icmp .ne 7, 3) := by decide +kernel
theorem dL_law_344 : decode cL_law 344 = .ok (.iconst 1, 1) := by decide +kernel
theorem dL_law_345 : decode cL_law 345 = .ok (.goto 4, 3) := by decide +kernel
theorem dL_law_348 : decode cL_law 348 = .ok (.iconst 0, 1) := by decide +kernel
theorem dL_law_349 : decode cL_law 349 = .ok (.istore 5, 2) := by decide +kernel
theorem dL_law_351 : decode cL_law 351 = .ok (.goto 35, 3) := by decide +kernel
theorem dL_law_354 : decode cL_law 354 = .ok (.aload_n 1, 1) := by decide +kernel
theorem dL_law_355 : decode cL_law 355 = .ok (.aload_n 2, 1) := by decide +kernel
theorem dL_law_356 : decode cL_law 356 = .ok (.iload 7, 2) := by decide +kernel
theorem dL_law_358 : decode cL_law 358 = .ok (.iload 8, 2) := by decide +kernel
theorem dL_law_360 : decode cL_law 360 = .ok (.invokestatic 82, 3) := by decide +kernel
theorem dL_law_363 : decode cL_law 363 = .ok (.istore 5, 2) := by decide +kernel
theorem dL_law_365 : decode cL_law 365 = .ok (.aload_n 1, 1) := by decide +kernel
theorem dL_law_366 : decode cL_law 366 = .ok (.invokevirtual 15, 3) := by decide +kernel
theorem dL_law_369 : decode cL_law 369 = .ok (.iload 9, 2) := by decide +kernel
theorem dL_law_371 : decode cL_law 371 = .ok (.if_icmp .le 15, 3) := by decide +kernel
theorem dL_law_374 : decode cL_law 374 = .ok (.aload_n 3, 1) := by decide +kernel
theorem dL_law_375 : decode cL_law 375 = .ok (.iload 9, 2) := by decide +kernel
theorem dL_law_377 : decode cL_law 377 = .ok (.iload 8, 2) := by decide +kernel
theorem dL_law_379 : decode cL_law 379 = .ok (.bipush 15, 2) := by decide +kernel
theorem dL_law_381 : decode cL_law 381 = .ok (.idiv, 1) := by decide +kernel
theorem dL_law_382 : decode cL_law 382 = .ok (.bipush 8, 2) := by decide +kernel
theorem dL_law_384 : decode cL_law 384 = .ok (.irem, 1) := by decide +kernel
theorem dL_law_385 : decode cL_law 385 = .ok (.iastore, 1) := by decide +kernel
theorem dL_law_386 : decode cL_law 386 = .ok (.iload 5, 2) := by decide +kernel
theorem dL_law_388 : decode cL_law 388 = .ok (.ifCond .eq 35, 3) := by decide +kernel
theorem dL_law_391 : decode cL_law 391 = .ok (.aload_n 1, 1) := by decide +kernel
theorem dL_law_392 : decode cL_law 392 = .ok (.invokestatic 48, 3) := by decide +kernel
theorem dL_law_395 : decode cL_law 395 = .ok (.iload 10, 2) := by decide +kernel
theorem dL_law_397 : decode cL_law 397 = .ok (.if_icmp .lt 26, 3) := by decide +kernel
theorem dL_law_400 : decode cL_law 400 = .ok (.aload_n 1, 1) := by decide +kernel
theorem dL_law_401 : decode cL_law 401 = .ok (.invokevirtual 35, 3) := by decide +kernel
theorem dL_law_404 : decode cL_law 404 = .ok (.iload 11, 2) := by decide +kernel
theorem dL_law_406 : decode cL_law 406 = .ok (.if_icmp .lt 17, 3) := by decide +kernel
theorem dL_law_409 : decode cL_law 409 = .ok (.aload_n 1, 1) := by decide +kernel
theorem dL_law_410 : decode cL_law 410 = .ok (.aload_n 2, 1) := by decide +kernel
theorem dL_law_411 : decode cL_law 411 = .ok (.aload 4, 2) := by decide +kernel
theorem dL_law_413 : decode cL_law 413 = .ok (.invokestatic 86, 3) := by decide +kernel
theorem dL_law_416 : decode cL_law 416 = .ok (.ifCond .eq 7, 3) := by decide +kernel
theorem dL_law_419 : decode cL_law 419 = .ok (.iconst 1, 1) := by decide +kernel
theorem dL_law_420 : decode cL_law 420 = .ok (.goto 4, 3) := by decide +kernel
theorem dL_law_423 : decode cL_law 423 = .ok (.iconst 0, 1) := by decide +kernel
theorem dL_law_424 : decode cL_law 424 = .ok (.istore 5, 2) := by decide +kernel
theorem dL_law_426 : decode cL_law 426 = .ok (.iinc 6 1, 3) := by decide +kernel
theorem dL_law_429 : decode cL_law 429 = .ok (.goto (-381), 3) := by decide +kernel
theorem dL_law_432 : decode cL_law 432 = .ok (.iload 5, 2) := by decide +kernel
theorem dL_law_434 : decode cL_law 434 = .ok (.ireturn, 1) := by decide +kernel
