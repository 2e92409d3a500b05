/-! ===== 62b.ldec: the law's rows ===== -/
theorem dL_areAccounts_102 : decode cL_areAccounts 102 = .ok (.iload 7, 2) := by decide +kernel
theorem dL_areAccounts_104 : decode cL_areAccounts 104 = .ok (.ishl, 1) := by decide +kernel
theorem dL_areAccounts_105 : decode cL_areAccounts 105 = .ok (.ior, 1) := by decide +kernel
theorem dL_areAccounts_106 : decode cL_areAccounts 106 = .ok (.goto 5, 3) := by decide +kernel
theorem dL_areAccounts_109 : decode cL_areAccounts 109 = .ok (.iload 5, 2) := by decide +kernel
theorem dL_areAccounts_111 : decode cL_areAccounts 111 = .ok (.istore 5, 2) := by decide +kernel
theorem dL_areAccounts_113 : decode cL_areAccounts 113 = .ok (.aload_n 0, 1) := by decide +kernel
theorem dL_areAccounts_114 : decode cL_areAccounts 114 = .ok (.iload 7, 2) := by decide +kernel
theorem dL_areAccounts_116 : decode cL_areAccounts 116 = .ok (.iconst 1, 1) := by decide +kernel
theorem dL_areAccounts_117 : decode cL_areAccounts 117 = .ok (.invokevirtual 65, 3) := by decide +kernel
theorem dL_areAccounts_120 : decode cL_areAccounts 120 = .ok (.iload 6, 2) := by decide +kernel
theorem dL_areAccounts_122 : decode cL_areAccounts 122 = .ok (.if_icmp .le 13, 3) := by decide +kernel
theorem dL_areAccounts_125 : decode cL_areAccounts 125 = .ok (.aload_n 0, 1) := by decide +kernel
theorem dL_areAccounts_126 : decode cL_areAccounts 126 = .ok (.iload 7, 2) := by decide +kernel
theorem dL_areAccounts_128 : decode cL_areAccounts 128 = .ok (.iconst 1, 1) := by decide +kernel
theorem dL_areAccounts_129 : decode cL_areAccounts 129 = .ok (.invokevirtual 65, 3) := by decide +kernel
theorem dL_areAccounts_132 : decode cL_areAccounts 132 = .ok (.goto 5, 3) := by decide +kernel
theorem dL_areAccounts_135 : decode cL_areAccounts 135 = .ok (.iload 6, 2) := by decide +kernel
theorem dL_areAccounts_137 : decode cL_areAccounts 137 = .ok (.istore 6, 2) := by decide +kernel
theorem dL_areAccounts_139 : decode cL_areAccounts 139 = .ok (.iload 8, 2) := by decide +kernel
theorem dL_areAccounts_141 : decode cL_areAccounts 141 = .ok (.aload_n 0, 1) := by decide +kernel
theorem dL_areAccounts_142 : decode cL_areAccounts 142 = .ok (.iload 7, 2) := by decide +kernel
theorem dL_areAccounts_144 : decode cL_areAccounts 144 = .ok (.bipush 6, 2) := by decide +kernel
theorem dL_areAccounts_146 : decode cL_areAccounts 146 = .ok (.invokevirtual 65, 3) := by decide +kernel
theorem dL_areAccounts_149 : decode cL_areAccounts 149 = .ok (.aload_n 0, 1) := by decide +kernel
theorem dL_areAccounts_150 : decode cL_areAccounts 150 = .ok (.iload 7, 2) := by decide +kernel
theorem dL_areAccounts_152 : decode cL_areAccounts 152 = .ok (.bipush 7, 2) := by decide +kernel
theorem dL_areAccounts_154 : decode cL_areAccounts 154 = .ok (.invokevirtual 65, 3) := by decide +kernel
theorem dL_areAccounts_157 : decode cL_areAccounts 157 = .ok (.iadd, 1) := by decide +kernel
theorem dL_areAccounts_158 : decode cL_areAccounts 158 = .ok (.aload_n 0, 1) := by decide +kernel
theorem dL_areAccounts_159 : decode cL_areAccounts 159 = .ok (.iload 7, 2) := by decide +kernel
theorem dL_areAccounts_161 : decode cL_areAccounts 161 = .ok (.bipush 9, 2) := by decide +kernel
theorem dL_areAccounts_163 : decode cL_areAccounts 163 = .ok (.invokevirtual 65, 3) := by decide +kernel
theorem dL_areAccounts_166 : decode cL_areAccounts 166 = .ok (.iadd, 1) := by decide +kernel
theorem dL_areAccounts_167 : decode cL_areAccounts 167 = .ok (.aload_n 0, 1) := by decide +kernel
theorem dL_areAccounts_168 : decode cL_areAccounts 168 = .ok (.iload 7, 2) := by decide +kernel
theorem dL_areAccounts_170 : decode cL_areAccounts 170 = .ok (.bipush 10, 2) := by decide +kernel
theorem dL_areAccounts_172 : decode cL_areAccounts 172 = .ok (.invokevirtual 65, 3) := by decide +kernel
theorem dL_areAccounts_175 : decode cL_areAccounts 175 = .ok (.iadd, 1) := by decide +kernel
theorem dL_areAccounts_176 : decode cL_areAccounts 176 = .ok (.aload_n 0, 1) := by decide +kernel
theorem dL_areAccounts_177 : decode cL_areAccounts 177 = .ok (.iload 7, 2) := by decide +kernel
theorem dL_areAccounts_179 : decode cL_areAccounts 179 = .ok (.bipush 8, 2) := by decide +kernel
theorem dL_areAccounts_181 : decode cL_areAccounts 181 = .ok (.invokevirtual 65, 3) := by decide +kernel
theorem dL_areAccounts_184 : decode cL_areAccounts 184 = .ok (.isub, 1) := by decide +kernel
theorem dL_areAccounts_185 : decode cL_areAccounts 185 = .ok (.if_icmp .ne 59, 3) := by decide +kernel
theorem dL_areAccounts_188 : decode cL_areAccounts 188 = .ok (.iload 8, 2) := by decide +kernel
theorem dL_areAccounts_190 : decode cL_areAccounts 190 = .ok (.ifCond .lt 54, 3) := by decide +kernel
theorem dL_areAccounts_193 : decode cL_areAccounts 193 = .ok (.iload 8, 2) := by decide +kernel
theorem dL_areAccounts_195 : decode cL_areAccounts 195 = .ok (.ldc 68, 2) := by decide +kernel
theorem dL_areAccounts_197 : decode cL_areAccounts 197 = .ok (.if_icmp .gt 47, 3) := by decide +kernel
theorem dL_areAccounts_200 : decode cL_areAccounts 200 = .ok (.iload 9, 2) := by decide +kernel
theorem dL_areAccounts_202 : decode cL_areAccounts 202 = .ok (.aload_n 0, 1) := by decide +kernel
theorem dL_areAccounts_203 : decode cL_areAccounts 203 = .ok (.iload 7, 2) := by decide +kernel
theorem dL_areAccounts_205 : decode cL_areAccounts 205 = .ok (.iconst 1, 1) := by decide +kernel
theorem dL_areAccounts_206 : decode cL_areAccounts 206 = .ok (.invokevirtual 65, 3) := by decide +kernel
theorem dL_areAccounts_209 : decode cL_areAccounts 209 = .ok (.ifCond .le 7, 3) := by decide +kernel
theorem dL_areAccounts_212 : decode cL_areAccounts 212 = .ok (.iconst 1, 1) := by decide +kernel
theorem dL_areAccounts_213 : decode cL_areAccounts 213 = .ok (.goto 4, 3) := by decide +kernel
theorem dL_areAccounts_216 : decode cL_areAccounts 216 = .ok (.iconst 0, 1) := by decide +kernel
theorem dL_areAccounts_217 : decode cL_areAccounts 217 = .ok (.if_icmp .ne 27, 3) := by decide +kernel
theorem dL_areAccounts_220 : decode cL_areAccounts 220 = .ok (.iload 9, 2) := by decide +kernel
theorem dL_areAccounts_222 : decode cL_areAccounts 222 = .ok (.aload_n 0, 1) := by decide +kernel
theorem dL_areAccounts_223 : decode cL_areAccounts 223 = .ok (.iload 7, 2) := by decide +kernel
theorem dL_areAccounts_225 : decode cL_areAccounts 225 = .ok (.iconst 3, 1) := by decide +kernel
theorem dL_areAccounts_226 : decode cL_areAccounts 226 = .ok (.invokevirtual 65, 3) := by decide +kernel
theorem dL_areAccounts_229 : decode cL_areAccounts 229 = .ok (.ifCond .le 7, 3) := by decide +kernel
theorem dL_areAccounts_232 : decode cL_areAccounts 232 = .ok (.iconst 1, 1) := by decide +kernel
theorem dL_areAccounts_233 : decode cL_areAccounts 233 = .ok (.goto 4, 3) := by decide +kernel
theorem dL_areAccounts_236 : decode cL_areAccounts 236 = .ok (.iconst 0, 1) := by decide +kernel
theorem dL_areAccounts_237 : decode cL_areAccounts 237 = .ok (.if_icmp .ne 7, 3) := by decide +kernel
theorem dL_areAccounts_240 : decode cL_areAccounts 240 = .ok (.iconst 1, 1) := by decide +kernel
theorem dL_areAccounts_241 : decode cL_areAccounts 241 = .ok (.goto 4, 3) := by decide +kernel
theorem dL_areAccounts_244 : decode cL_areAccounts 244 = .ok (.iconst 0, 1) := by decide +kernel
theorem dL_areAccounts_245 : decode cL_areAccounts 245 = .ok (.istore 10, 2) := by decide +kernel
theorem dL_areAccounts_247 : decode cL_areAccounts 247 = .ok (.aload_n 0, 1) := by decide +kernel
theorem dL_areAccounts_248 : decode cL_areAccounts 248 = .ok (.iload 7, 2) := by decide +kernel
theorem dL_areAccounts_250 : decode cL_areAccounts 250 = .ok (.iconst 4, 1) := by decide +kernel
theorem dL_areAccounts_251 : decode cL_areAccounts 251 = .ok (.invokevirtual 65, 3) := by decide +kernel
theorem dL_areAccounts_254 : decode cL_areAccounts 254 = .ok (.istore 11, 2) := by decide +kernel
theorem dL_areAccounts_256 : decode cL_areAccounts 256 = .ok (.iload 10, 2) := by decide +kernel
theorem dL_areAccounts_258 : decode cL_areAccounts 258 = .ok (.ifCond .eq 31, 3) := by decide +kernel
theorem dL_areAccounts_261 : decode cL_areAccounts 261 = .ok (.iload 11, 2) := by decide +kernel
theorem dL_areAccounts_263 : decode cL_areAccounts 263 = .ok (.iload 7, 2) := by decide +kernel
theorem dL_areAccounts_265 : decode cL_areAccounts 265 = .ok (.if_icmp .eq 24, 3) := by decide +kernel
theorem dL_areAccounts_268 : decode cL_areAccounts 268 = .ok (.iload 11, 2) := by decide +kernel
theorem dL_areAccounts_270 : decode cL_areAccounts 270 = .ok (.ifCond .lt 15, 3) := by decide +kernel
theorem dL_areAccounts_273 : decode cL_areAccounts 273 = .ok (.aload_n 0, 1) := by decide +kernel
theorem dL_areAccounts_274 : decode cL_areAccounts 274 = .ok (.iload 11, 2) := by decide +kernel
theorem dL_areAccounts_276 : decode cL_areAccounts 276 = .ok (.iconst 4, 1) := by decide +kernel
theorem dL_areAccounts_277 : decode cL_areAccounts 277 = .ok (.invokevirtual 65, 3) := by decide +kernel
theorem dL_areAccounts_280 : decode cL_areAccounts 280 = .ok (.bipush (-9), 2) := by decide +kernel
theorem dL_areAccounts_282 : decode cL_areAccounts 282 = .ok (.if_icmp .ne 7, 3) := by decide +kernel
theorem dL_areAccounts_285 : decode cL_areAccounts 285 = .ok (.iconst 1, 1) := by decide +kernel
theorem dL_areAccounts_286 : decode cL_areAccounts 286 = .ok (.goto 4, 3) := by decide +kernel
theorem dL_areAccounts_289 : decode cL_areAccounts 289 = .ok (.iconst 0, 1) := by decide +kernel
theorem dL_areAccounts_290 : decode cL_areAccounts 290 = .ok (.istore 10, 2) := by decide +kernel
theorem dL_areAccounts_292 : decode cL_areAccounts 292 = .ok (.iload 10, 2) := by decide +kernel
theorem dL_areAccounts_294 : decode cL_areAccounts 294 = .ok (.ifCond .ne 5, 3) := by decide +kernel
theorem dL_areAccounts_297 : decode cL_areAccounts 297 = .ok (.iconst 0, 1) := by decide +kernel
theorem dL_areAccounts_298 : decode cL_areAccounts 298 = .ok (.ireturn, 1) := by decide +kernel
theorem dL_areAccounts_299 : decode cL_areAccounts 299 = .ok (.iinc 7 1, 3) := by decide +kernel
theorem dL_areAccounts_302 : decode cL_areAccounts 302 = .ok (.goto (-284), 3) := by decide +kernel
theorem dL_areAccounts_305 : decode cL_areAccounts 305 = .ok (.aload_n 0, 1) := by decide +kernel
theorem dL_areAccounts_306 : decode cL_areAccounts 306 = .ok (.iconst 0, 1) := by decide +kernel
theorem dL_areAccounts_307 : decode cL_areAccounts 307 = .ok (.invokevirtual 69, 3) := by decide +kernel
theorem dL_areAccounts_310 : decode cL_areAccounts 310 = .ok (.iload 4, 2) := by decide +kernel
theorem dL_areAccounts_312 : decode cL_areAccounts 312 = .ok (.if_icmp .ne 63, 3) := by decide +kernel
theorem dL_areAccounts_315 : decode cL_areAccounts 315 = .ok (.aload_n 0, 1) := by decide +kernel
theorem dL_areAccounts_316 : decode cL_areAccounts 316 = .ok (.iconst 1, 1) := by decide +kernel
theorem dL_areAccounts_317 : decode cL_areAccounts 317 = .ok (.invokevirtual 69, 3) := by decide +kernel
theorem dL_areAccounts_320 : decode cL_areAccounts 320 = .ok (.iload_n 1, 1) := by decide +kernel
theorem dL_areAccounts_321 : decode cL_areAccounts 321 = .ok (.if_icmp .ne 54, 3) := by decide +kernel
theorem dL_areAccounts_324 : decode cL_areAccounts 324 = .ok (.aload_n 0, 1) := by decide +kernel
theorem dL_areAccounts_325 : decode cL_areAccounts 325 = .ok (.iconst 2, 1) := by decide +kernel
theorem dL_areAccounts_326 : decode cL_areAccounts 326 = .ok (.invokevirtual 69, 3) := by decide +kernel
theorem dL_areAccounts_329 : decode cL_areAccounts 329 = .ok (.iload_n 2, 1) := by decide +kernel
theorem dL_areAccounts_330 : decode cL_areAccounts 330 = .ok (.if_icmp .ne 45, 3) := by decide +kernel
theorem dL_areAccounts_333 : decode cL_areAccounts 333 = .ok (.aload_n 0, 1) := by decide +kernel
theorem dL_areAccounts_334 : decode cL_areAccounts 334 = .ok (.iconst 4, 1) := by decide +kernel
theorem dL_areAccounts_335 : decode cL_areAccounts 335 = .ok (.invokevirtual 69, 3) := by decide +kernel
theorem dL_areAccounts_338 : decode cL_areAccounts 338 = .ok (.iload 6, 2) := by decide +kernel
theorem dL_areAccounts_340 : decode cL_areAccounts 340 = .ok (.if_icmp .ne 35, 3) := by decide +kernel
theorem dL_areAccounts_343 : decode cL_areAccounts 343 = .ok (.aload_n 0, 1) := by decide +kernel
theorem dL_areAccounts_344 : decode cL_areAccounts 344 = .ok (.iconst 5, 1) := by decide +kernel
theorem dL_areAccounts_345 : decode cL_areAccounts 345 = .ok (.invokevirtual 69, 3) := by decide +kernel
theorem dL_areAccounts_348 : decode cL_areAccounts 348 = .ok (.iload 5, 2) := by decide +kernel
theorem dL_areAccounts_350 : decode cL_areAccounts 350 = .ok (.if_icmp .ne 25, 3) := by decide +kernel
theorem dL_areAccounts_353 : decode cL_areAccounts 353 = .ok (.iload 6, 2) := by decide +kernel
theorem dL_areAccounts_355 : decode cL_areAccounts 355 = .ok (.bipush 8, 2) := by decide +kernel
theorem dL_areAccounts_357 : decode cL_areAccounts 357 = .ok (.if_icmp .gt 18, 3) := by decide +kernel
theorem dL_areAccounts_360 : decode cL_areAccounts 360 = .ok (.aload_n 0, 1) := by decide +kernel
theorem dL_areAccounts_361 : decode cL_areAccounts 361 = .ok (.bipush 20, 2) := by decide +kernel
theorem dL_areAccounts_363 : decode cL_areAccounts 363 = .ok (.iconst 0, 1) := by decide +kernel
theorem dL_areAccounts_364 : decode cL_areAccounts 364 = .ok (.invokevirtual 65, 3) := by decide +kernel
theorem dL_areAccounts_367 : decode cL_areAccounts 367 = .ok (.iconst (-1), 1) := by decide +kernel
theorem dL_areAccounts_368 : decode cL_areAccounts 368 = .ok (.if_icmp .ne 7, 3) := by decide +kernel
theorem dL_areAccounts_371 : decode cL_areAccounts 371 = .ok (.iconst 1, 1) := by decide +kernel
theorem dL_areAccounts_372 : decode cL_areAccounts 372 = .ok (.goto 4, 3) := by decide +kernel
theorem dL_areAccounts_375 : decode cL_areAccounts 375 = .ok (.iconst 0, 1) := by decide +kernel
theorem dL_areAccounts_376 : decode cL_areAccounts 376 = .ok (.istore 7, 2) := by decide +kernel
theorem dL_areAccounts_378 : decode cL_areAccounts 378 = .ok (.iload 7, 2) := by decide +kernel
theorem dL_areAccounts_380 : decode cL_areAccounts 380 = .ok (.ifCond .eq 32, 3) := by decide +kernel
theorem dL_areAccounts_383 : decode cL_areAccounts 383 = .ok (.aload_n 0, 1) := by decide +kernel
theorem dL_areAccounts_384 : decode cL_areAccounts 384 = .ok (.invokevirtual 72, 3) := by decide +kernel
theorem dL_areAccounts_387 : decode cL_areAccounts 387 = .ok (.iload_n 2, 1) := by decide +kernel
theorem dL_areAccounts_388 : decode cL_areAccounts 388 = .ok (.iload_n 3, 1) := by decide +kernel
theorem dL_areAccounts_389 : decode cL_areAccounts 389 = .ok (.iadd, 1) := by decide +kernel
theorem dL_areAccounts_390 : decode cL_areAccounts 390 = .ok (.ifCond .ne 7, 3) := by decide +kernel
theorem dL_areAccounts_393 : decode cL_areAccounts 393 = .ok (.fconst 0, 1) := by decide +kernel
theorem dL_areAccounts_394 : decode cL_areAccounts 394 = .ok (.goto 10, 3) := by decide +kernel
theorem dL_areAccounts_397 : decode cL_areAccounts 397 = .ok (.iload_n 2, 1) := by decide +kernel
theorem dL_areAccounts_398 : decode cL_areAccounts 398 = .ok (.i2f, 1) := by decide +kernel
theorem dL_areAccounts_399 : decode cL_areAccounts 399 = .ok (.iload_n 2, 1) := by decide +kernel
theorem dL_areAccounts_400 : decode cL_areAccounts 400 = .ok (.iload_n 3, 1) := by decide +kernel
theorem dL_areAccounts_401 : decode cL_areAccounts 401 = .ok (.iadd, 1) := by decide +kernel
theorem dL_areAccounts_402 : decode cL_areAccounts 402 = .ok (.i2f, 1) := by decide +kernel
theorem dL_areAccounts_403 : decode cL_areAccounts 403 = .ok (.fdiv, 1) := by decide +kernel
theorem dL_areAccounts_404 : decode cL_areAccounts 404 = .ok (.fcmp .l, 1) := by decide +kernel
theorem dL_areAccounts_405 : decode cL_areAccounts 405 = .ok (.ifCond .ne 7, 3) := by decide +kernel
theorem dL_areAccounts_408 : decode cL_areAccounts 408 = .ok (.iconst 1, 1) := by decide +kernel
theorem dL_areAccounts_409 : decode cL_areAccounts 409 = .ok (.goto 4, 3) := by decide +kernel
theorem dL_areAccounts_412 : decode cL_areAccounts 412 = .ok (.iconst 0, 1) := by decide +kernel
theorem dL_areAccounts_413 : decode cL_areAccounts 413 = .ok (.ireturn, 1) := by decide +kernel
theorem dL_isRanked_0 : decode cL_isRanked 0 = .ok (.iconst 0, 1) := by decide +kernel
theorem dL_isRanked_1 : decode cL_isRanked 1 = .ok (.istore_n 2, 1) := by decide +kernel
theorem dL_isRanked_2 : decode cL_isRanked 2 = .ok (.iconst 0, 1) := by decide +kernel
theorem dL_isRanked_3 : decode cL_isRanked 3 = .ok (.istore_n 3, 1) := by decide +kernel
theorem dL_isRanked_4 : decode cL_isRanked 4 = .ok (.iload_n 3, 1) := by decide +kernel
theorem dL_isRanked_5 : decode cL_isRanked 5 = .ok (.iconst 5, 1) := by decide +kernel
theorem dL_isRanked_6 : decode cL_isRanked 6 = .ok (.if_icmp .ge 189, 3) := by decide +kernel
theorem dL_isRanked_9 : decode cL_isRanked 9 = .ok (.aload_n 0, 1) := by decide +kernel
theorem dL_isRanked_10 : decode cL_isRanked 10 = .ok (.iload_n 1, 1) := by decide +kernel
theorem dL_isRanked_11 : decode cL_isRanked 11 = .ok (.iload_n 3, 1) := by decide +kernel
theorem dL_isRanked_12 : decode cL_isRanked 12 = .ok (.iconst 0, 1) := by decide +kernel
theorem dL_isRanked_13 : decode cL_isRanked 13 = .ok (.invokevirtual 76, 3) := by decide +kernel
theorem dL_isRanked_16 : decode cL_isRanked 16 = .ok (.istore 4, 2) := by decide +kernel
theorem dL_isRanked_18 : decode cL_isRanked 18 = .ok (.iload 4, 2) := by decide +kernel
theorem dL_isRanked_20 : decode cL_isRanked 20 = .ok (.ifCond .lt 169, 3) := by decide +kernel
theorem dL_isRanked_23 : decode cL_isRanked 23 = .ok (.aload_n 0, 1) := by decide +kernel
theorem dL_isRanked_24 : decode cL_isRanked 24 = .ok (.iload 4, 2) := by decide +kernel
theorem dL_isRanked_26 : decode cL_isRanked 26 = .ok (.iconst 1, 1) := by decide +kernel
theorem dL_isRanked_27 : decode cL_isRanked 27 = .ok (.invokevirtual 65, 3) := by decide +kernel
theorem dL_isRanked_30 : decode cL_isRanked 30 = .ok (.iload_n 2, 1) := by decide +kernel
theorem dL_isRanked_31 : decode cL_isRanked 31 = .ok (.if_icmp .lt 15, 3) := by decide +kernel
theorem dL_isRanked_34 : decode cL_isRanked 34 = .ok (.aload_n 0, 1) := by decide +kernel
theorem dL_isRanked_35 : decode cL_isRanked 35 = .ok (.iload 4, 2) := by decide +kernel
theorem dL_isRanked_37 : decode cL_isRanked 37 = .ok (.iconst 1, 1) := by decide +kernel
theorem dL_isRanked_38 : decode cL_isRanked 38 = .ok (.invokevirtual 65, 3) := by decide +kernel
theorem dL_isRanked_41 : decode cL_isRanked 41 = .ok (.iconst 1, 1) := by decide +kernel
theorem dL_isRanked_42 : decode cL_isRanked 42 = .ok (.iadd, 1) := by decide +kernel
theorem dL_isRanked_43 : decode cL_isRanked 43 = .ok (.goto 4, 3) := by decide +kernel
theorem dL_isRanked_46 : decode cL_isRanked 46 = .ok (.iload_n 2, 1) := by decide +kernel
theorem dL_isRanked_47 : decode cL_isRanked 47 = .ok (.istore_n 2, 1) := by decide +kernel
theorem dL_isRanked_48 : decode cL_isRanked 48 = .ok (.aload_n 0, 1) := by decide +kernel
theorem dL_isRanked_49 : decode cL_isRanked 49 = .ok (.iload 4, 2) := by decide +kernel
theorem dL_isRanked_51 : decode cL_isRanked 51 = .ok (.iload_n 1, 1) := by decide +kernel
theorem dL_isRanked_52 : decode cL_isRanked 52 = .ok (.invokevirtual 80, 3) := by decide +kernel
theorem dL_isRanked_55 : decode cL_isRanked 55 = .ok (.iconst 1, 1) := by decide +kernel
theorem dL_isRanked_56 : decode cL_isRanked 56 = .ok (.if_icmp .ne 27, 3) := by decide +kernel
theorem dL_isRanked_59 : decode cL_isRanked 59 = .ok (.aload_n 0, 1) := by decide +kernel
theorem dL_isRanked_60 : decode cL_isRanked 60 = .ok (.iload_n 1, 1) := by decide +kernel
theorem dL_isRanked_61 : decode cL_isRanked 61 = .ok (.iload 4, 2) := by decide +kernel
theorem dL_isRanked_63 : decode cL_isRanked 63 = .ok (.invokevirtual 80, 3) := by decide +kernel
theorem dL_isRanked_66 : decode cL_isRanked 66 = .ok (.ifCond .ne 17, 3) := by decide +kernel
theorem dL_isRanked_69 : decode cL_isRanked 69 = .ok (.aload_n 0, 1) := by decide +kernel
theorem dL_isRanked_70 : decode cL_isRanked 70 = .ok (.iload_n 1, 1) := by decide +kernel
theorem dL_isRanked_71 : decode cL_isRanked 71 = .ok (.iload_n 3, 1) := by decide +kernel
theorem dL_isRanked_72 : decode cL_isRanked 72 = .ok (.iconst 1, 1) := by decide +kernel
theorem dL_isRanked_73 : decode cL_isRanked 73 = .ok (.invokevirtual 76, 3) := by decide +kernel
theorem dL_isRanked_76 : decode cL_isRanked 76 = .ok (.ifCond .le 7, 3) := by decide +kernel
theorem dL_isRanked_79 : decode cL_isRanked 79 = .ok (.iconst 1, 1) := by decide +kernel
theorem dL_isRanked_80 : decode cL_isRanked 80 = .ok (.goto 4, 3) := by decide +kernel
theorem dL_isRanked_83 : decode cL_isRanked 83 = .ok (.iconst 0, 1) := by decide +kernel
theorem dL_isRanked_84 : decode cL_isRanked 84 = .ok (.istore 5, 2) := by decide +kernel
theorem dL_isRanked_86 : decode cL_isRanked 86 = .ok (.iconst 0, 1) := by decide +kernel
theorem dL_isRanked_87 : decode cL_isRanked 87 = .ok (.istore 6, 2) := by decide +kernel
theorem dL_isRanked_89 : decode cL_isRanked 89 = .ok (.iload 6, 2) := by decide +kernel
theorem dL_isRanked_91 : decode cL_isRanked 91 = .ok (.aload_n 0, 1) := by decide +kernel
theorem dL_isRanked_92 : decode cL_isRanked 92 = .ok (.iload 4, 2) := by decide +kernel
theorem dL_isRanked_94 : decode cL_isRanked 94 = .ok (.iconst 5, 1) := by decide +kernel
theorem dL_isRanked_95 : decode cL_isRanked 95 = .ok (.invokevirtual 65, 3) := by decide +kernel
theorem dL_isRanked_98 : decode cL_isRanked 98 = .ok (.if_icmp .ge 74, 3) := by decide +kernel
theorem dL_isRanked_101 : decode cL_isRanked 101 = .ok (.aload_n 0, 1) := by decide +kernel
theorem dL_isRanked_102 : decode cL_isRanked 102 = .ok (.iload 4, 2) := by decide +kernel
theorem dL_isRanked_104 : decode cL_isRanked 104 = .ok (.iload 6, 2) := by decide +kernel
theorem dL_isRanked_106 : decode cL_isRanked 106 = .ok (.invokevirtual 83, 3) := by decide +kernel
theorem dL_isRanked_109 : decode cL_isRanked 109 = .ok (.istore 7, 2) := by decide +kernel
theorem dL_isRanked_111 : decode cL_isRanked 111 = .ok (.aload_n 0, 1) := by decide +kernel
theorem dL_isRanked_112 : decode cL_isRanked 112 = .ok (.iload 7, 2) := by decide +kernel
theorem dL_isRanked_114 : decode cL_isRanked 114 = .ok (.iconst 1, 1) := by decide +kernel
theorem dL_isRanked_115 : decode cL_isRanked 115 = .ok (.invokevirtual 65, 3) := by decide +kernel
theorem dL_isRanked_118 : decode cL_isRanked 118 = .ok (.iload_n 2, 1) := by decide +kernel
theorem dL_isRanked_119 : decode cL_isRanked 119 = .ok (.if_icmp .lt 15, 3) := by decide +kernel
theorem dL_isRanked_122 : decode cL_isRanked 122 = .ok (.aload_n 0, 1) := by decide +kernel
theorem dL_isRanked_123 : decode cL_isRanked 123 = .ok (.iload 7, 2) := by decide +kernel
theorem dL_isRanked_125 : decode cL_isRanked 125 = .ok (.iconst 1, 1) := by decide +kernel
theorem dL_isRanked_126 : decode cL_isRanked 126 = .ok (.invokevirtual 65, 3) := by decide +kernel
theorem dL_isRanked_129 : decode cL_isRanked 129 = .ok (.iconst 1, 1) := by decide +kernel
theorem dL_isRanked_130 : decode cL_isRanked 130 = .ok (.iadd, 1) := by decide +kernel
theorem dL_isRanked_131 : decode cL_isRanked 131 = .ok (.goto 4, 3) := by decide +kernel
theorem dL_isRanked_134 : decode cL_isRanked 134 = .ok (.iload_n 2, 1) := by decide +kernel
theorem dL_isRanked_135 : decode cL_isRanked 135 = .ok (.istore_n 2, 1) := by decide +kernel
theorem dL_isRanked_136 : decode cL_isRanked 136 = .ok (.iload 5, 2) := by decide +kernel
theorem dL_isRanked_138 : decode cL_isRanked 138 = .ok (.ifCond .eq 25, 3) := by decide +kernel
theorem dL_isRanked_141 : decode cL_isRanked 141 = .ok (.iload 7, 2) := by decide +kernel
theorem dL_isRanked_143 : decode cL_isRanked 143 = .ok (.iload 4, 2) := by decide +kernel
theorem dL_isRanked_145 : decode cL_isRanked 145 = .ok (.if_icmp .eq 18, 3) := by decide +kernel
theorem dL_isRanked_148 : decode cL_isRanked 148 = .ok (.aload_n 0, 1) := by decide +kernel
theorem dL_isRanked_149 : decode cL_isRanked 149 = .ok (.iload 7, 2) := by decide +kernel
theorem dL_isRanked_151 : decode cL_isRanked 151 = .ok (.iload_n 1, 1) := by decide +kernel
theorem dL_isRanked_152 : decode cL_isRanked 152 = .ok (.invokevirtual 80, 3) := by decide +kernel
theorem dL_isRanked_155 : decode cL_isRanked 155 = .ok (.iconst 1, 1) := by decide +kernel
theorem dL_isRanked_156 : decode cL_isRanked 156 = .ok (.if_icmp .ne 7, 3) := by decide +kernel
theorem dL_isRanked_159 : decode cL_isRanked 159 = .ok (.iconst 1, 1) := by decide +kernel
theorem dL_isRanked_160 : decode cL_isRanked 160 = .ok (.goto 4, 3) := by decide +kernel
theorem dL_isRanked_163 : decode cL_isRanked 163 = .ok (.iconst 0, 1) := by decide +kernel
theorem dL_isRanked_164 : decode cL_isRanked 164 = .ok (.istore 5, 2) := by decide +kernel
theorem dL_isRanked_166 : decode cL_isRanked 166 = .ok (.iinc 6 1, 3) := by decide +kernel
theorem dL_isRanked_169 : decode cL_isRanked 169 = .ok (.goto (-80), 3) := by decide +kernel
theorem dL_isRanked_172 : decode cL_isRanked 172 = .ok (.iload 5, 2) := by decide +kernel
theorem dL_isRanked_174 : decode cL_isRanked 174 = .ok (.ifCond .eq 13, 3) := by decide +kernel
theorem dL_isRanked_177 : decode cL_isRanked 177 = .ok (.iload_n 3, 1) := by decide +kernel
theorem dL_isRanked_178 : decode cL_isRanked 178 = .ok (.aload_n 0, 1) := by decide +kernel
theorem dL_isRanked_179 : decode cL_isRanked 179 = .ok (.iload_n 1, 1) := by decide +kernel
theorem dL_isRanked_180 : decode cL_isRanked 180 = .ok (.iconst 3, 1) := by decide +kernel
theorem dL_isRanked_181 : decode cL_isRanked 181 = .ok (.invokevirtual 65, 3) := by decide +kernel
theorem dL_isRanked_184 : decode cL_isRanked 184 = .ok (.if_icmp .lt 5, 3) := by decide +kernel
theorem dL_isRanked_187 : decode cL_isRanked 187 = .ok (.iconst 0, 1) := by decide +kernel
theorem dL_isRanked_188 : decode cL_isRanked 188 = .ok (.ireturn, 1) := by decide +kernel
theorem dL_isRanked_189 : decode cL_isRanked 189 = .ok (.iinc 3 1, 3) := by decide +kernel
theorem dL_isRanked_192 : decode cL_isRanked 192 = .ok (.goto (-188), 3) := by decide +kernel
theorem dL_isRanked_195 : decode cL_isRanked 195 = .ok (.aload_n 0, 1) := by decide +kernel
theorem dL_isRanked_196 : decode cL_isRanked 196 = .ok (.iload_n 1, 1) := by decide +kernel
theorem dL_isRanked_197 : decode cL_isRanked 197 = .ok (.iconst 1, 1) := by decide +kernel
theorem dL_isRanked_198 : decode cL_isRanked 198 = .ok (.invokevirtual 65, 3) := by decide +kernel
theorem dL_isRanked_201 : decode cL_isRanked 201 = .ok (.iload_n 2, 1) := by decide +kernel
theorem dL_isRanked_202 : decode cL_isRanked 202 = .ok (.if_icmp .ne 32, 3) := by decide +kernel
theorem dL_isRanked_205 : decode cL_isRanked 205 = .ok (.aload_n 0, 1) := by decide +kernel
theorem dL_isRanked_206 : decode cL_isRanked 206 = .ok (.iload_n 1, 1) := by decide +kernel
theorem dL_isRanked_207 : decode cL_isRanked 207 = .ok (.iload_n 1, 1) := by decide +kernel
theorem dL_isRanked_208 : decode cL_isRanked 208 = .ok (.invokevirtual 80, 3) := by decide +kernel
theorem dL_isRanked_211 : decode cL_isRanked 211 = .ok (.ifCond .ne 23, 3) := by decide +kernel
theorem dL_isRanked_214 : decode cL_isRanked 214 = .ok (.aload_n 0, 1) := by decide +kernel
theorem dL_isRanked_215 : decode cL_isRanked 215 = .ok (.iload_n 1, 1) := by decide +kernel
theorem dL_isRanked_216 : decode cL_isRanked 216 = .ok (.aload_n 0, 1) := by decide +kernel
theorem dL_isRanked_217 : decode cL_isRanked 217 = .ok (.iload_n 1, 1) := by decide +kernel
theorem dL_isRanked_218 : decode cL_isRanked 218 = .ok (.iconst 5, 1) := by decide +kernel
theorem dL_isRanked_219 : decode cL_isRanked 219 = .ok (.invokevirtual 65, 3) := by decide +kernel
theorem dL_isRanked_222 : decode cL_isRanked 222 = .ok (.invokevirtual 83, 3) := by decide +kernel
theorem dL_isRanked_225 : decode cL_isRanked 225 = .ok (.bipush (-9), 2) := by decide +kernel
theorem dL_isRanked_227 : decode cL_isRanked 227 = .ok (.if_icmp .ne 7, 3) := by decide +kernel
theorem dL_isRanked_230 : decode cL_isRanked 230 = .ok (.iconst 1, 1) := by decide +kernel
theorem dL_isRanked_231 : decode cL_isRanked 231 = .ok (.goto 4, 3) := by decide +kernel
theorem dL_isRanked_234 : decode cL_isRanked 234 = .ok (.iconst 0, 1) := by decide +kernel
theorem dL_isRanked_235 : decode cL_isRanked 235 = .ok (.ireturn, 1) := by decide +kernel
theorem dL_isWish_0 : decode cL_isWish 0 = .ok (.aload_n 0, 1) := by decide +kernel
theorem dL_isWish_1 : decode cL_isWish 1 = .ok (.iload_n 1, 1) := by decide +kernel
theorem dL_isWish_2 : decode cL_isWish 2 = .ok (.iload_n 2, 1) := by decide +kernel
theorem dL_isWish_3 : decode cL_isWish 3 = .ok (.bipush (-9), 2) := by decide +kernel
theorem dL_isWish_5 : decode cL_isWish 5 = .ok (.invokevirtual 86, 3) := by decide +kernel
theorem dL_isWish_8 : decode cL_isWish 8 = .ok (.istore_n 3, 1) := by decide +kernel
theorem dL_isWish_9 : decode cL_isWish 9 = .ok (.aload_n 0, 1) := by decide +kernel
theorem dL_isWish_10 : decode cL_isWish 10 = .ok (.iload_n 1, 1) := by decide +kernel
theorem dL_isWish_11 : decode cL_isWish 11 = .ok (.iload_n 2, 1) := by decide +kernel
theorem dL_isWish_12 : decode cL_isWish 12 = .ok (.invokevirtual 89, 3) := by decide +kernel
theorem dL_isWish_15 : decode cL_isWish 15 = .ok (.istore 4, 2) := by decide +kernel
theorem dL_isWish_17 : decode cL_isWish 17 = .ok (.aload_n 0, 1) := by decide +kernel
theorem dL_isWish_18 : decode cL_isWish 18 = .ok (.iconst 2, 1) := by decide +kernel
theorem dL_isWish_19 : decode cL_isWish 19 = .ok (.invokevirtual 69, 3) := by decide +kernel
theorem dL_isWish_22 : decode cL_isWish 22 = .ok (.istore 5, 2) := by decide +kernel
theorem dL_isWish_24 : decode cL_isWish 24 = .ok (.aload_n 0, 1) := by decide +kernel
theorem dL_isWish_25 : decode cL_isWish 25 = .ok (.iload_n 1, 1) := by decide +kernel
theorem dL_isWish_26 : decode cL_isWish 26 = .ok (.iconst 0, 1) := by decide +kernel
theorem dL_isWish_27 : decode cL_isWish 27 = .ok (.invokevirtual 65, 3) := by decide +kernel
theorem dL_isWish_30 : decode cL_isWish 30 = .ok (.istore 6, 2) := by decide +kernel
theorem dL_isWish_32 : decode cL_isWish 32 = .ok (.iload_n 3, 1) := by decide +kernel
theorem dL_isWish_33 : decode cL_isWish 33 = .ok (.bipush (-3), 2) := by decide +kernel
theorem dL_isWish_35 : decode cL_isWish 35 = .ok (.if_icmp .ne 37, 3) := by decide +kernel
theorem dL_isWish_38 : decode cL_isWish 38 = .ok (.iload 4, 2) := by decide +kernel
theorem dL_isWish_40 : decode cL_isWish 40 = .ok (.bipush (-3), 2) := by decide +kernel
theorem dL_isWish_42 : decode cL_isWish 42 = .ok (.if_icmp .ne 28, 3) := by decide +kernel
theorem dL_isWish_45 : decode cL_isWish 45 = .ok (.aload_n 0, 1) := by decide +kernel
theorem dL_isWish_46 : decode cL_isWish 46 = .ok (.iload_n 1, 1) := by decide +kernel
theorem dL_isWish_47 : decode cL_isWish 47 = .ok (.iload_n 2, 1) := by decide +kernel
theorem dL_isWish_48 : decode cL_isWish 48 = .ok (.invokevirtual 50, 3) := by decide +kernel
theorem dL_isWish_51 : decode cL_isWish 51 = .ok (.bipush (-3), 2) := by decide +kernel
theorem dL_isWish_53 : decode cL_isWish 53 = .ok (.if_icmp .ne 17, 3) := by decide +kernel
theorem dL_isWish_56 : decode cL_isWish 56 = .ok (.aload_n 0, 1) := by decide +kernel
theorem dL_isWish_57 : decode cL_isWish 57 = .ok (.iconst 2, 1) := by decide +kernel
theorem dL_isWish_58 : decode cL_isWish 58 = .ok (.invokevirtual 69, 3) := by decide +kernel
theorem dL_isWish_61 : decode cL_isWish 61 = .ok (.iload 5, 2) := by decide +kernel
theorem dL_isWish_63 : decode cL_isWish 63 = .ok (.if_icmp .ne 7, 3) := by decide +kernel
theorem dL_isWish_66 : decode cL_isWish 66 = .ok (.iconst 1, 1) := by decide +kernel
theorem dL_isWish_67 : decode cL_isWish 67 = .ok (.goto 4, 3) := by decide +kernel
theorem dL_isWish_70 : decode cL_isWish 70 = .ok (.iconst 0, 1) := by decide +kernel
theorem dL_isWish_71 : decode cL_isWish 71 = .ok (.ireturn, 1) := by decide +kernel
theorem dL_isWish_72 : decode cL_isWish 72 = .ok (.bipush 20, 2) := by decide +kernel
theorem dL_isWish_74 : decode cL_isWish 74 = .ok (.newarray .int, 2) := by decide +kernel
theorem dL_isWish_76 : decode cL_isWish 76 = .ok (.astore 7, 2) := by decide +kernel
theorem dL_isWish_78 : decode cL_isWish 78 = .ok (.iconst 0, 1) := by decide +kernel
theorem dL_isWish_79 : decode cL_isWish 79 = .ok (.istore 8, 2) := by decide +kernel
theorem dL_isWish_81 : decode cL_isWish 81 = .ok (.iconst 0, 1) := by decide +kernel
theorem dL_isWish_82 : decode cL_isWish 82 = .ok (.istore 9, 2) := by decide +kernel
theorem dL_isWish_84 : decode cL_isWish 84 = .ok (.iload 9, 2) := by decide +kernel
theorem dL_isWish_86 : decode cL_isWish 86 = .ok (.bipush 20, 2) := by decide +kernel
theorem dL_isWish_88 : decode cL_isWish 88 = .ok (.if_icmp .ge 32, 3) := by decide +kernel
theorem dL_isWish_91 : decode cL_isWish 91 = .ok (.aload 7, 2) := by decide +kernel
theorem dL_isWish_93 : decode cL_isWish 93 = .ok (.iload 9, 2) := by decide +kernel
theorem dL_isWish_95 : decode cL_isWish 95 = .ok (.aload_n 0, 1) := by decide +kernel
theorem dL_isWish_96 : decode cL_isWish 96 = .ok (.iload_n 1, 1) := by decide +kernel
theorem dL_isWish_97 : decode cL_isWish 97 = .ok (.iload_n 2, 1) := by decide +kernel
theorem dL_isWish_98 : decode cL_isWish 98 = .ok (.iload 9, 2) := by decide +kernel
theorem dL_isWish_100 : decode cL_isWish 100 = .ok (.invokevirtual 86, 3) := by decide +kernel
theorem dL_isWish_103 : decode cL_isWish 103 = .ok (.iastore, 1) := by decide +kernel
theorem dL_isWish_104 : decode cL_isWish 104 = .ok (.iload 8, 2) := by decide +kernel
theorem dL_isWish_106 : decode cL_isWish 106 = .ok (.aload 7, 2) := by decide +kernel
theorem dL_isWish_108 : decode cL_isWish 108 = .ok (.iload 9, 2) := by decide +kernel
theorem dL_isWish_110 : decode cL_isWish 110 = .ok (.iaload, 1) := by decide +kernel
theorem dL_isWish_111 : decode cL_isWish 111 = .ok (.iadd, 1) := by decide +kernel
theorem dL_isWish_112 : decode cL_isWish 112 = .ok (.istore 8, 2) := by decide +kernel
